theorem fd_SR_init_0 : am_fd mt_SR_init.1 0 = (.aload_n 0,1,0,0,0,0,.retAddr 0) := rfl
theorem fd_SR_init_1 : am_fd mt_SR_init.1 1 = (.invokespecial 1,3,0,0,0,1,.retAddr 0) := rfl
theorem fd_SR_init_4 : am_fd mt_SR_init.1 4 = (.aload_n 0,1,0,0,0,0,.retAddr 0) := rfl
theorem fd_SR_init_5 : am_fd mt_SR_init.1 5 = (.new 7,3,10,0,5,0,.retAddr 0) := rfl
theorem fd_SR_init_8 : am_fd mt_SR_init.1 8 = (.dup,1,0,0,0,0,.retAddr 0) := rfl
theorem fd_SR_init_9 : am_fd mt_SR_init.1 9 = (.invokespecial 9,3,1,1,10,0,.retAddr 0) := rfl
theorem fd_SR_init_12 : am_fd mt_SR_init.1 12 = (.putfield 10,3,2,2,1,1,.retAddr 0) := rfl
theorem fd_SR_init_15 : am_fd mt_SR_init.1 15 = (.aload_n 0,1,0,0,0,0,.retAddr 0) := rfl
theorem fd_SR_init_16 : am_fd mt_SR_init.1 16 = (.new 16,3,6,0,3,0,.retAddr 0) := rfl
theorem fd_SR_init_19 : am_fd mt_SR_init.1 19 = (.dup,1,0,0,0,0,.retAddr 0) := rfl
theorem fd_SR_init_20 : am_fd mt_SR_init.1 20 = (.invokespecial 18,3,3,1,6,0,.retAddr 0) := rfl
theorem fd_SR_init_23 : am_fd mt_SR_init.1 23 = (.putfield 19,3,3,2,1,1,.retAddr 0) := rfl
theorem fd_SR_init_26 : am_fd mt_SR_init.1 26 = (.aload_n 0,1,0,0,0,0,.retAddr 0) := rfl
theorem fd_SR_init_27 : am_fd mt_SR_init.1 27 = (.bipush 8,2,0,0,0,0,.int 8) := rfl
theorem fd_SR_init_29 : am_fd mt_SR_init.1 29 = (.anewarray 16,3,201,0,0,0,.retAddr 0) := rfl
theorem fd_SR_init_32 : am_fd mt_SR_init.1 32 = (.putfield 23,3,4,2,1,1,.retAddr 0) := rfl
theorem fd_SR_init_35 : am_fd mt_SR_init.1 35 = (.aload_n 0,1,0,0,0,0,.retAddr 0) := rfl
theorem fd_SR_init_36 : am_fd mt_SR_init.1 36 = (.new 27,3,3,0,2,0,.retAddr 0) := rfl
theorem fd_SR_init_39 : am_fd mt_SR_init.1 39 = (.dup,1,0,0,0,0,.retAddr 0) := rfl
theorem fd_SR_init_40 : am_fd mt_SR_init.1 40 = (.invokespecial 29,3,2,1,3,0,.retAddr 0) := rfl
theorem fd_SR_init_43 : am_fd mt_SR_init.1 43 = (.putfield 30,3,7,2,1,1,.retAddr 0) := rfl
theorem fd_SR_init_46 : am_fd mt_SR_init.1 46 = (.aload_n 0,1,0,0,0,0,.retAddr 0) := rfl
theorem fd_SR_init_47 : am_fd mt_SR_init.1 47 = (.new 34,3,8,0,5,0,.retAddr 0) := rfl
theorem fd_SR_init_50 : am_fd mt_SR_init.1 50 = (.dup,1,0,0,0,0,.retAddr 0) := rfl
theorem fd_SR_init_51 : am_fd mt_SR_init.1 51 = (.invokespecial 36,3,5,1,8,0,.retAddr 0) := rfl
theorem fd_SR_init_54 : am_fd mt_SR_init.1 54 = (.putfield 37,3,8,2,1,1,.retAddr 0) := rfl
theorem fd_SR_init_57 : am_fd mt_SR_init.1 57 = (.aload_n 0,1,0,0,0,0,.retAddr 0) := rfl
theorem fd_SR_init_58 : am_fd mt_SR_init.1 58 = (.sipush 200,3,0,0,0,0,.int 200) := rfl
theorem fd_SR_init_61 : am_fd mt_SR_init.1 61 = (.newarray .long,2,101,0,0,0,.retAddr 0) := rfl
theorem fd_SR_init_63 : am_fd mt_SR_init.1 63 = (.putfield 41,3,9,2,1,1,.retAddr 0) := rfl
theorem fd_SR_init_66 : am_fd mt_SR_init.1 66 = (.aload_n 0,1,0,0,0,0,.retAddr 0) := rfl
theorem fd_SR_init_67 : am_fd mt_SR_init.1 67 = (.sipush 200,3,0,0,0,0,.int 200) := rfl
theorem fd_SR_init_70 : am_fd mt_SR_init.1 70 = (.newarray .long,2,101,0,0,0,.retAddr 0) := rfl
theorem fd_SR_init_72 : am_fd mt_SR_init.1 72 = (.putfield 45,3,10,2,1,1,.retAddr 0) := rfl
theorem fd_SR_init_75 : am_fd mt_SR_init.1 75 = (.aload_n 0,1,0,0,0,0,.retAddr 0) := rfl
theorem fd_SR_init_76 : am_fd mt_SR_init.1 76 = (.iconst 0,1,0,0,0,0,.int 0) := rfl
theorem fd_SR_init_77 : am_fd mt_SR_init.1 77 = (.putfield 48,3,11,0,1,1,.retAddr 0) := rfl
theorem fd_SR_init_80 : am_fd mt_SR_init.1 80 = (.aload_n 0,1,0,0,0,0,.retAddr 0) := rfl
theorem fd_SR_init_81 : am_fd mt_SR_init.1 81 = (.iconst 1,1,0,0,0,0,.int 1) := rfl
theorem fd_SR_init_82 : am_fd mt_SR_init.1 82 = (.putfield 52,3,12,0,1,1,.retAddr 0) := rfl
theorem fd_SR_init_85 : am_fd mt_SR_init.1 85 = (.aload_n 0,1,0,0,0,0,.retAddr 0) := rfl
theorem fd_SR_init_86 : am_fd mt_SR_init.1 86 = (.iconst 1,1,0,0,0,0,.int 1) := rfl
theorem fd_SR_init_87 : am_fd mt_SR_init.1 87 = (.putfield 55,3,13,0,1,1,.retAddr 0) := rfl
theorem fd_SR_init_90 : am_fd mt_SR_init.1 90 = (.aload_n 0,1,0,0,0,0,.retAddr 0) := rfl
theorem fd_SR_init_91 : am_fd mt_SR_init.1 91 = (.iconst 0,1,0,0,0,0,.int 0) := rfl
theorem fd_SR_init_92 : am_fd mt_SR_init.1 92 = (.putfield 58,3,14,0,1,1,.retAddr 0) := rfl
theorem fd_SR_init_95 : am_fd mt_SR_init.1 95 = (.aload_n 0,1,0,0,0,0,.retAddr 0) := rfl
theorem fd_SR_init_96 : am_fd mt_SR_init.1 96 = (.iconst 0,1,0,0,0,0,.int 0) := rfl
theorem fd_SR_init_97 : am_fd mt_SR_init.1 97 = (.putfield 61,3,15,3,1,1,.retAddr 0) := rfl
theorem fd_SR_init_100 : am_fd mt_SR_init.1 100 = (.iconst 4,1,0,0,0,0,.int 4) := rfl
theorem fd_SR_init_101 : am_fd mt_SR_init.1 101 = (.sipush 1024,3,0,0,0,0,.int 1024) := rfl
theorem fd_SR_init_104 : am_fd mt_SR_init.1 104 = (.iload_n 1,1,1,0,0,0,.retAddr 0) := rfl
theorem fd_SR_init_105 : am_fd mt_SR_init.1 105 = (.invokestatic 65,3,0,0,2,0,.retAddr 0) := rfl
theorem fd_SR_init_108 : am_fd mt_SR_init.1 108 = (.invokestatic 71,3,0,0,1,0,.retAddr 0) := rfl
theorem fd_SR_init_111 : am_fd mt_SR_init.1 111 = (.istore_n 2,1,2,0,0,0,.retAddr 0) := rfl
theorem fd_SR_init_112 : am_fd mt_SR_init.1 112 = (.aload_n 0,1,0,0,0,0,.retAddr 0) := rfl
theorem fd_SR_init_113 : am_fd mt_SR_init.1 113 = (.new 74,3,4,0,7,0,.retAddr 0) := rfl
theorem fd_SR_init_116 : am_fd mt_SR_init.1 116 = (.dup,1,0,0,0,0,.retAddr 0) := rfl
theorem fd_SR_init_117 : am_fd mt_SR_init.1 117 = (.iload_n 2,1,2,0,0,0,.retAddr 0) := rfl
theorem fd_SR_init_118 : am_fd mt_SR_init.1 118 = (.invokespecial 76,3,6,2,4,0,.retAddr 0) := rfl
theorem fd_SR_init_121 : am_fd mt_SR_init.1 121 = (.putfield 79,3,0,2,1,1,.retAddr 0) := rfl
theorem fd_SR_init_124 : am_fd mt_SR_init.1 124 = (.aload_n 0,1,0,0,0,0,.retAddr 0) := rfl
theorem fd_SR_init_125 : am_fd mt_SR_init.1 125 = (.new 83,3,9,0,5,0,.retAddr 0) := rfl
theorem fd_SR_init_128 : am_fd mt_SR_init.1 128 = (.dup,1,0,0,0,0,.retAddr 0) := rfl
theorem fd_SR_init_129 : am_fd mt_SR_init.1 129 = (.iload_n 2,1,2,0,0,0,.retAddr 0) := rfl
theorem fd_SR_init_130 : am_fd mt_SR_init.1 130 = (.invokespecial 85,3,7,2,9,0,.retAddr 0) := rfl
theorem fd_SR_init_133 : am_fd mt_SR_init.1 133 = (.putfield 86,3,1,2,1,1,.retAddr 0) := rfl
theorem fd_SR_init_136 : am_fd mt_SR_init.1 136 = (.aload_n 0,1,0,0,0,0,.retAddr 0) := rfl
theorem fd_SR_init_137 : am_fd mt_SR_init.1 137 = (.new 90,3,2,0,8,0,.retAddr 0) := rfl
theorem fd_SR_init_140 : am_fd mt_SR_init.1 140 = (.dup,1,0,0,0,0,.retAddr 0) := rfl
theorem fd_SR_init_141 : am_fd mt_SR_init.1 141 = (.aload_n 0,1,0,0,0,0,.retAddr 0) := rfl
theorem fd_SR_init_142 : am_fd mt_SR_init.1 142 = (.getfield 10,3,2,2,1,1,.retAddr 0) := rfl
theorem fd_SR_init_145 : am_fd mt_SR_init.1 145 = (.aload_n 0,1,0,0,0,0,.retAddr 0) := rfl
theorem fd_SR_init_146 : am_fd mt_SR_init.1 146 = (.getfield 79,3,0,2,1,1,.retAddr 0) := rfl
theorem fd_SR_init_149 : am_fd mt_SR_init.1 149 = (.aload_n 0,1,0,0,0,0,.retAddr 0) := rfl
theorem fd_SR_init_150 : am_fd mt_SR_init.1 150 = (.getfield 86,3,1,2,1,1,.retAddr 0) := rfl
theorem fd_SR_init_153 : am_fd mt_SR_init.1 153 = (.invokespecial 92,3,8,4,2,0,.retAddr 0) := rfl
theorem fd_SR_init_156 : am_fd mt_SR_init.1 156 = (.putfield 95,3,5,2,1,1,.retAddr 0) := rfl
theorem fd_SR_init_159 : am_fd mt_SR_init.1 159 = (.aload_n 0,1,0,0,0,0,.retAddr 0) := rfl
theorem fd_SR_init_160 : am_fd mt_SR_init.1 160 = (.new 99,3,7,0,11,0,.retAddr 0) := rfl
theorem fd_SR_init_163 : am_fd mt_SR_init.1 163 = (.dup,1,0,0,0,0,.retAddr 0) := rfl
theorem fd_SR_init_164 : am_fd mt_SR_init.1 164 = (.aload_n 0,1,0,0,0,0,.retAddr 0) := rfl
theorem fd_SR_init_165 : am_fd mt_SR_init.1 165 = (.getfield 79,3,0,2,1,1,.retAddr 0) := rfl
theorem fd_SR_init_168 : am_fd mt_SR_init.1 168 = (.aload_n 0,1,0,0,0,0,.retAddr 0) := rfl
theorem fd_SR_init_169 : am_fd mt_SR_init.1 169 = (.getfield 86,3,1,2,1,1,.retAddr 0) := rfl
theorem fd_SR_init_172 : am_fd mt_SR_init.1 172 = (.invokespecial 101,3,11,3,7,0,.retAddr 0) := rfl
theorem fd_SR_init_175 : am_fd mt_SR_init.1 175 = (.putfield 104,3,6,2,1,1,.retAddr 0) := rfl
theorem fd_SR_init_178 : am_fd mt_SR_init.1 178 = (.iconst 0,1,0,0,0,0,.int 0) := rfl
theorem fd_SR_init_179 : am_fd mt_SR_init.1 179 = (.istore_n 3,1,3,0,0,0,.retAddr 0) := rfl
theorem fd_SR_init_180 : am_fd mt_SR_init.1 180 = (.iload_n 3,1,3,0,0,0,.retAddr 0) := rfl
theorem fd_SR_init_181 : am_fd mt_SR_init.1 181 = (.bipush 8,2,0,0,0,0,.int 8) := rfl
theorem fd_SR_init_183 : am_fd mt_SR_init.1 183 = (.if_icmp .ge 22,3,205,0,0,0,.retAddr 0) := rfl
theorem fd_SR_init_186 : am_fd mt_SR_init.1 186 = (.aload_n 0,1,0,0,0,0,.retAddr 0) := rfl
theorem fd_SR_init_187 : am_fd mt_SR_init.1 187 = (.getfield 23,3,4,2,1,1,.retAddr 0) := rfl
theorem fd_SR_init_190 : am_fd mt_SR_init.1 190 = (.iload_n 3,1,3,0,0,0,.retAddr 0) := rfl
theorem fd_SR_init_191 : am_fd mt_SR_init.1 191 = (.new 16,3,6,0,3,0,.retAddr 0) := rfl
theorem fd_SR_init_194 : am_fd mt_SR_init.1 194 = (.dup,1,0,0,0,0,.retAddr 0) := rfl
theorem fd_SR_init_195 : am_fd mt_SR_init.1 195 = (.invokespecial 18,3,3,1,6,0,.retAddr 0) := rfl
theorem fd_SR_init_198 : am_fd mt_SR_init.1 198 = (.aastore,1,6,6,201,0,.retAddr 0) := rfl
theorem fd_SR_init_199 : am_fd mt_SR_init.1 199 = (.iinc 3 1,3,3,0,0,0,.int 1) := rfl
theorem fd_SR_init_202 : am_fd mt_SR_init.1 202 = (.goto (-22),3,180,0,0,0,.retAddr 0) := rfl
theorem fd_SR_init_205 : am_fd mt_SR_init.1 205 = (.aload_n 0,1,0,0,0,0,.retAddr 0) := rfl
theorem fd_SR_init_206 : am_fd mt_SR_init.1 206 = (.aload_n 0,1,0,0,0,0,.retAddr 0) := rfl
theorem fd_SR_init_207 : am_fd mt_SR_init.1 207 = (.getfield 52,3,12,0,1,1,.retAddr 0) := rfl
theorem fd_SR_init_210 : am_fd mt_SR_init.1 210 = (.invokevirtual 108,3,12,2,1,0,.retAddr 0) := rfl
theorem fd_SR_init_213 : am_fd mt_SR_init.1 213 = (.aload_n 0,1,0,0,0,0,.retAddr 0) := rfl
theorem fd_SR_init_214 : am_fd mt_SR_init.1 214 = (.getfield 37,3,8,2,1,1,.retAddr 0) := rfl
theorem fd_SR_init_217 : am_fd mt_SR_init.1 217 = (.iconst 1,1,0,0,0,0,.int 1) := rfl
theorem fd_SR_init_218 : am_fd mt_SR_init.1 218 = (.invokevirtual 111,3,16,2,8,0,.retAddr 0) := rfl
theorem fd_SR_init_221 : am_fd mt_SR_init.1 221 = (.aload_n 0,1,0,0,0,0,.retAddr 0) := rfl
theorem fd_SR_init_222 : am_fd mt_SR_init.1 222 = (.getfield 79,3,0,2,1,1,.retAddr 0) := rfl
theorem fd_SR_init_225 : am_fd mt_SR_init.1 225 = (.iconst 1,1,0,0,0,0,.int 1) := rfl
theorem fd_SR_init_226 : am_fd mt_SR_init.1 226 = (.aload_n 0,1,0,0,0,0,.retAddr 0) := rfl
theorem fd_SR_init_227 : am_fd mt_SR_init.1 227 = (.getfield 37,3,8,2,1,1,.retAddr 0) := rfl
theorem fd_SR_init_230 : am_fd mt_SR_init.1 230 = (.sipush 128,3,0,0,0,0,.int 128) := rfl
theorem fd_SR_init_233 : am_fd mt_SR_init.1 233 = (.invokevirtual 114,3,18,4,4,0,.retAddr 0) := rfl
theorem fd_SR_init_236 : am_fd mt_SR_init.1 236 = (.aload_n 0,1,0,0,0,0,.retAddr 0) := rfl
theorem fd_SR_init_237 : am_fd mt_SR_init.1 237 = (.getfield 79,3,0,2,1,1,.retAddr 0) := rfl
theorem fd_SR_init_240 : am_fd mt_SR_init.1 240 = (.iconst 1,1,0,0,0,0,.int 1) := rfl
theorem fd_SR_init_241 : am_fd mt_SR_init.1 241 = (.invokevirtual 118,3,20,2,4,0,.retAddr 0) := rfl
theorem fd_SR_init_244 : am_fd mt_SR_init.1 244 = (.return_,1,0,0,0,0,.retAddr 0) := rfl
theorem fd_Table_init_0 : am_fd mt_Table_init.1 0 = (.aload_n 0,1,0,0,0,0,.retAddr 0) := rfl
theorem fd_Table_init_1 : am_fd mt_Table_init.1 1 = (.invokespecial 3,3,0,0,0,1,.retAddr 0) := rfl
theorem fd_Table_init_4 : am_fd mt_Table_init.1 4 = (.aload_n 0,1,0,0,0,0,.retAddr 0) := rfl
theorem fd_Table_init_5 : am_fd mt_Table_init.1 5 = (.bipush 64,2,0,0,0,0,.int 64) := rfl
theorem fd_Table_init_7 : am_fd mt_Table_init.1 7 = (.newarray .long,2,101,0,0,0,.retAddr 0) := rfl
theorem fd_Table_init_9 : am_fd mt_Table_init.1 9 = (.putfield 9,3,0,2,10,10,.retAddr 0) := rfl
theorem fd_Table_init_12 : am_fd mt_Table_init.1 12 = (.aload_n 0,1,0,0,0,0,.retAddr 0) := rfl
theorem fd_Table_init_13 : am_fd mt_Table_init.1 13 = (.bipush 64,2,0,0,0,0,.int 64) := rfl
theorem fd_Table_init_15 : am_fd mt_Table_init.1 15 = (.newarray .int,2,100,0,0,0,.retAddr 0) := rfl
theorem fd_Table_init_17 : am_fd mt_Table_init.1 17 = (.putfield 15,3,1,2,10,10,.retAddr 0) := rfl
theorem fd_Table_init_20 : am_fd mt_Table_init.1 20 = (.aload_n 0,1,0,0,0,0,.retAddr 0) := rfl
theorem fd_Table_init_21 : am_fd mt_Table_init.1 21 = (.bipush 64,2,0,0,0,0,.int 64) := rfl
theorem fd_Table_init_23 : am_fd mt_Table_init.1 23 = (.newarray .long,2,101,0,0,0,.retAddr 0) := rfl
theorem fd_Table_init_25 : am_fd mt_Table_init.1 25 = (.putfield 19,3,2,2,10,10,.retAddr 0) := rfl
theorem fd_Table_init_28 : am_fd mt_Table_init.1 28 = (.aload_n 0,1,0,0,0,0,.retAddr 0) := rfl
theorem fd_Table_init_29 : am_fd mt_Table_init.1 29 = (.new 22,3,3,0,2,0,.retAddr 0) := rfl
theorem fd_Table_init_32 : am_fd mt_Table_init.1 32 = (.dup,1,0,0,0,0,.retAddr 0) := rfl
theorem fd_Table_init_33 : am_fd mt_Table_init.1 33 = (.invokespecial 24,3,2,1,3,0,.retAddr 0) := rfl
theorem fd_Table_init_36 : am_fd mt_Table_init.1 36 = (.putfield 25,3,3,2,10,10,.retAddr 0) := rfl
theorem fd_Table_init_39 : am_fd mt_Table_init.1 39 = (.aload_n 0,1,0,0,0,0,.retAddr 0) := rfl
theorem fd_Table_init_40 : am_fd mt_Table_init.1 40 = (.iconst 0,1,0,0,0,0,.int 0) := rfl
theorem fd_Table_init_41 : am_fd mt_Table_init.1 41 = (.putfield 29,3,4,0,10,10,.retAddr 0) := rfl
theorem fd_Table_init_44 : am_fd mt_Table_init.1 44 = (.return_,1,0,0,0,0,.retAddr 0) := rfl
theorem fd_Fate_init_0 : am_fd mt_Fate_init.1 0 = (.aload_n 0,1,0,0,0,0,.retAddr 0) := rfl
theorem fd_Fate_init_1 : am_fd mt_Fate_init.1 1 = (.invokespecial 3,3,0,0,0,1,.retAddr 0) := rfl
theorem fd_Fate_init_4 : am_fd mt_Fate_init.1 4 = (.aload_n 0,1,0,0,0,0,.retAddr 0) := rfl
theorem fd_Fate_init_5 : am_fd mt_Fate_init.1 5 = (.iconst 0,1,0,0,0,0,.int 0) := rfl
theorem fd_Fate_init_6 : am_fd mt_Fate_init.1 6 = (.putfield 9,3,0,0,3,3,.retAddr 0) := rfl
theorem fd_Fate_init_9 : am_fd mt_Fate_init.1 9 = (.aload_n 0,1,0,0,0,0,.retAddr 0) := rfl
theorem fd_Fate_init_10 : am_fd mt_Fate_init.1 10 = (.lconst 0,1,0,0,0,0,.long 0) := rfl
theorem fd_Fate_init_11 : am_fd mt_Fate_init.1 11 = (.putfield 15,3,1,1,3,3,.retAddr 0) := rfl
theorem fd_Fate_init_14 : am_fd mt_Fate_init.1 14 = (.return_,1,0,0,0,0,.retAddr 0) := rfl
theorem fd_RunList_init_0 : am_fd mt_RunList_init.1 0 = (.aload_n 0,1,0,0,0,0,.retAddr 0) := rfl
theorem fd_RunList_init_1 : am_fd mt_RunList_init.1 1 = (.invokespecial 3,3,0,0,0,1,.retAddr 0) := rfl
theorem fd_RunList_init_4 : am_fd mt_RunList_init.1 4 = (.aload_n 0,1,0,0,0,0,.retAddr 0) := rfl
theorem fd_RunList_init_5 : am_fd mt_RunList_init.1 5 = (.bipush 9,2,0,0,0,0,.int 9) := rfl
theorem fd_RunList_init_7 : am_fd mt_RunList_init.1 7 = (.anewarray 9,3,200,0,0,0,.retAddr 0) := rfl
theorem fd_RunList_init_10 : am_fd mt_RunList_init.1 10 = (.putfield 11,3,0,2,6,6,.retAddr 0) := rfl
theorem fd_RunList_init_13 : am_fd mt_RunList_init.1 13 = (.aload_n 0,1,0,0,0,0,.retAddr 0) := rfl
theorem fd_RunList_init_14 : am_fd mt_RunList_init.1 14 = (.iconst 0,1,0,0,0,0,.int 0) := rfl
theorem fd_RunList_init_15 : am_fd mt_RunList_init.1 15 = (.putfield 17,3,1,0,6,6,.retAddr 0) := rfl
theorem fd_RunList_init_18 : am_fd mt_RunList_init.1 18 = (.aload_n 0,1,0,0,0,0,.retAddr 0) := rfl
theorem fd_RunList_init_19 : am_fd mt_RunList_init.1 19 = (.iconst 0,1,0,0,0,0,.int 0) := rfl
theorem fd_RunList_init_20 : am_fd mt_RunList_init.1 20 = (.putfield 21,3,2,3,6,6,.retAddr 0) := rfl
theorem fd_RunList_init_23 : am_fd mt_RunList_init.1 23 = (.new 9,3,5,0,9,0,.retAddr 0) := rfl
theorem fd_RunList_init_26 : am_fd mt_RunList_init.1 26 = (.dup,1,0,0,0,0,.retAddr 0) := rfl
theorem fd_RunList_init_27 : am_fd mt_RunList_init.1 27 = (.iconst 0,1,0,0,0,0,.int 0) := rfl
theorem fd_RunList_init_28 : am_fd mt_RunList_init.1 28 = (.iconst 0,1,0,0,0,0,.int 0) := rfl
theorem fd_RunList_init_29 : am_fd mt_RunList_init.1 29 = (.invokespecial 25,3,4,3,5,0,.retAddr 0) := rfl
theorem fd_RunList_init_32 : am_fd mt_RunList_init.1 32 = (.astore_n 1,1,1,0,0,0,.retAddr 0) := rfl
theorem fd_RunList_init_33 : am_fd mt_RunList_init.1 33 = (.iconst 0,1,0,0,0,0,.int 0) := rfl
theorem fd_RunList_init_34 : am_fd mt_RunList_init.1 34 = (.istore_n 2,1,2,0,0,0,.retAddr 0) := rfl
theorem fd_RunList_init_35 : am_fd mt_RunList_init.1 35 = (.iload_n 2,1,2,0,0,0,.retAddr 0) := rfl
theorem fd_RunList_init_36 : am_fd mt_RunList_init.1 36 = (.bipush 9,2,0,0,0,0,.int 9) := rfl
theorem fd_RunList_init_38 : am_fd mt_RunList_init.1 38 = (.if_icmp .ge 16,3,54,0,0,0,.retAddr 0) := rfl
theorem fd_RunList_init_41 : am_fd mt_RunList_init.1 41 = (.aload_n 0,1,0,0,0,0,.retAddr 0) := rfl
theorem fd_RunList_init_42 : am_fd mt_RunList_init.1 42 = (.getfield 11,3,0,2,6,6,.retAddr 0) := rfl
theorem fd_RunList_init_45 : am_fd mt_RunList_init.1 45 = (.iload_n 2,1,2,0,0,0,.retAddr 0) := rfl
theorem fd_RunList_init_46 : am_fd mt_RunList_init.1 46 = (.aload_n 1,1,1,0,0,0,.retAddr 0) := rfl
theorem fd_RunList_init_47 : am_fd mt_RunList_init.1 47 = (.aastore,1,5,5,200,0,.retAddr 0) := rfl
theorem fd_RunList_init_48 : am_fd mt_RunList_init.1 48 = (.iinc 2 1,3,2,0,0,0,.int 1) := rfl
theorem fd_RunList_init_51 : am_fd mt_RunList_init.1 51 = (.goto (-16),3,35,0,0,0,.retAddr 0) := rfl
theorem fd_RunList_init_54 : am_fd mt_RunList_init.1 54 = (.return_,1,0,0,0,0,.retAddr 0) := rfl
theorem fd_Run_init_0 : am_fd mt_Run_init.1 0 = (.aload_n 0,1,0,0,0,0,.retAddr 0) := rfl
theorem fd_Run_init_1 : am_fd mt_Run_init.1 1 = (.invokespecial 1,3,0,0,0,1,.retAddr 0) := rfl
theorem fd_Run_init_4 : am_fd mt_Run_init.1 4 = (.aload_n 0,1,0,0,0,0,.retAddr 0) := rfl
theorem fd_Run_init_5 : am_fd mt_Run_init.1 5 = (.bipush 8,2,0,0,0,0,.int 8) := rfl
theorem fd_Run_init_7 : am_fd mt_Run_init.1 7 = (.newarray .long,2,101,0,0,0,.retAddr 0) := rfl
theorem fd_Run_init_9 : am_fd mt_Run_init.1 9 = (.putfield 7,3,2,2,5,5,.retAddr 0) := rfl
theorem fd_Run_init_12 : am_fd mt_Run_init.1 12 = (.aload_n 0,1,0,0,0,0,.retAddr 0) := rfl
theorem fd_Run_init_13 : am_fd mt_Run_init.1 13 = (.iconst 0,1,0,0,0,0,.int 0) := rfl
theorem fd_Run_init_14 : am_fd mt_Run_init.1 14 = (.putfield 13,3,3,0,5,5,.retAddr 0) := rfl
theorem fd_Run_init_17 : am_fd mt_Run_init.1 17 = (.aload_n 0,1,0,0,0,0,.retAddr 0) := rfl
theorem fd_Run_init_18 : am_fd mt_Run_init.1 18 = (.iconst 0,1,0,0,0,0,.int 0) := rfl
theorem fd_Run_init_19 : am_fd mt_Run_init.1 19 = (.putfield 17,3,4,0,5,5,.retAddr 0) := rfl
theorem fd_Run_init_22 : am_fd mt_Run_init.1 22 = (.aload_n 0,1,0,0,0,0,.retAddr 0) := rfl
theorem fd_Run_init_23 : am_fd mt_Run_init.1 23 = (.iconst 0,1,0,0,0,0,.int 0) := rfl
theorem fd_Run_init_24 : am_fd mt_Run_init.1 24 = (.putfield 20,3,5,0,5,5,.retAddr 0) := rfl
theorem fd_Run_init_27 : am_fd mt_Run_init.1 27 = (.aload_n 0,1,0,0,0,0,.retAddr 0) := rfl
theorem fd_Run_init_28 : am_fd mt_Run_init.1 28 = (.lconst 0,1,0,0,0,0,.long 0) := rfl
theorem fd_Run_init_29 : am_fd mt_Run_init.1 29 = (.putfield 23,3,6,1,5,5,.retAddr 0) := rfl
theorem fd_Run_init_32 : am_fd mt_Run_init.1 32 = (.aload_n 0,1,0,0,0,0,.retAddr 0) := rfl
theorem fd_Run_init_33 : am_fd mt_Run_init.1 33 = (.lconst 0,1,0,0,0,0,.long 0) := rfl
theorem fd_Run_init_34 : am_fd mt_Run_init.1 34 = (.putfield 27,3,7,1,5,5,.retAddr 0) := rfl
theorem fd_Run_init_37 : am_fd mt_Run_init.1 37 = (.aload_n 0,1,0,0,0,0,.retAddr 0) := rfl
theorem fd_Run_init_38 : am_fd mt_Run_init.1 38 = (.iconst 0,1,0,0,0,0,.int 0) := rfl
theorem fd_Run_init_39 : am_fd mt_Run_init.1 39 = (.putfield 30,3,8,0,5,5,.retAddr 0) := rfl
theorem fd_Run_init_42 : am_fd mt_Run_init.1 42 = (.aload_n 0,1,0,0,0,0,.retAddr 0) := rfl
theorem fd_Run_init_43 : am_fd mt_Run_init.1 43 = (.iload_n 1,1,1,0,0,0,.retAddr 0) := rfl
theorem fd_Run_init_44 : am_fd mt_Run_init.1 44 = (.putfield 33,3,0,0,5,5,.retAddr 0) := rfl
theorem fd_Run_init_47 : am_fd mt_Run_init.1 47 = (.aload_n 0,1,0,0,0,0,.retAddr 0) := rfl
theorem fd_Run_init_48 : am_fd mt_Run_init.1 48 = (.iload_n 2,1,2,0,0,0,.retAddr 0) := rfl
theorem fd_Run_init_49 : am_fd mt_Run_init.1 49 = (.putfield 36,3,1,0,5,5,.retAddr 0) := rfl
theorem fd_Run_init_52 : am_fd mt_Run_init.1 52 = (.return_,1,0,0,0,0,.retAddr 0) := rfl
theorem fd_Sheet_init_0 : am_fd mt_Sheet_init.1 0 = (.aload_n 0,1,0,0,0,0,.retAddr 0) := rfl
theorem fd_Sheet_init_1 : am_fd mt_Sheet_init.1 1 = (.invokespecial 3,3,0,0,0,1,.retAddr 0) := rfl
theorem fd_Sheet_init_4 : am_fd mt_Sheet_init.1 4 = (.aload_n 0,1,0,0,0,0,.retAddr 0) := rfl
theorem fd_Sheet_init_5 : am_fd mt_Sheet_init.1 5 = (.sipush 128,3,0,0,0,0,.int 128) := rfl
theorem fd_Sheet_init_8 : am_fd mt_Sheet_init.1 8 = (.newarray .byte,2,102,0,0,0,.retAddr 0) := rfl
theorem fd_Sheet_init_10 : am_fd mt_Sheet_init.1 10 = (.putfield 9,3,0,2,8,8,.retAddr 0) := rfl
theorem fd_Sheet_init_13 : am_fd mt_Sheet_init.1 13 = (.aload_n 0,1,0,0,0,0,.retAddr 0) := rfl
theorem fd_Sheet_init_14 : am_fd mt_Sheet_init.1 14 = (.iconst 0,1,0,0,0,0,.int 0) := rfl
theorem fd_Sheet_init_15 : am_fd mt_Sheet_init.1 15 = (.putfield 15,3,1,0,8,8,.retAddr 0) := rfl
theorem fd_Sheet_init_18 : am_fd mt_Sheet_init.1 18 = (.aload_n 0,1,0,0,0,0,.retAddr 0) := rfl
theorem fd_Sheet_init_19 : am_fd mt_Sheet_init.1 19 = (.iconst 0,1,0,0,0,0,.int 0) := rfl
theorem fd_Sheet_init_20 : am_fd mt_Sheet_init.1 20 = (.putfield 19,3,2,0,8,8,.retAddr 0) := rfl
theorem fd_Sheet_init_23 : am_fd mt_Sheet_init.1 23 = (.aload_n 0,1,0,0,0,0,.retAddr 0) := rfl
theorem fd_Sheet_init_24 : am_fd mt_Sheet_init.1 24 = (.lconst 0,1,0,0,0,0,.long 0) := rfl
theorem fd_Sheet_init_25 : am_fd mt_Sheet_init.1 25 = (.putfield 22,3,3,1,8,8,.retAddr 0) := rfl
theorem fd_Sheet_init_28 : am_fd mt_Sheet_init.1 28 = (.aload_n 0,1,0,0,0,0,.retAddr 0) := rfl
theorem fd_Sheet_init_29 : am_fd mt_Sheet_init.1 29 = (.lconst 0,1,0,0,0,0,.long 0) := rfl
theorem fd_Sheet_init_30 : am_fd mt_Sheet_init.1 30 = (.putfield 26,3,4,1,8,8,.retAddr 0) := rfl
theorem fd_Sheet_init_33 : am_fd mt_Sheet_init.1 33 = (.return_,1,0,0,0,0,.retAddr 0) := rfl
theorem fd_Pages_init_0 : am_fd mt_Pages_init.1 0 = (.aload_n 0,1,0,0,0,0,.retAddr 0) := rfl
theorem fd_Pages_init_1 : am_fd mt_Pages_init.1 1 = (.invokespecial 3,3,0,0,0,1,.retAddr 0) := rfl
theorem fd_Pages_init_4 : am_fd mt_Pages_init.1 4 = (.aload_n 0,1,0,0,0,0,.retAddr 0) := rfl
theorem fd_Pages_init_5 : am_fd mt_Pages_init.1 5 = (.iconst 0,1,0,0,0,0,.int 0) := rfl
theorem fd_Pages_init_6 : am_fd mt_Pages_init.1 6 = (.putfield 9,3,3,0,4,4,.retAddr 0) := rfl
theorem fd_Pages_init_9 : am_fd mt_Pages_init.1 9 = (.aload_n 0,1,0,0,0,0,.retAddr 0) := rfl
theorem fd_Pages_init_10 : am_fd mt_Pages_init.1 10 = (.iconst 0,1,0,0,0,0,.int 0) := rfl
theorem fd_Pages_init_11 : am_fd mt_Pages_init.1 11 = (.putfield 15,3,4,0,4,4,.retAddr 0) := rfl
theorem fd_Pages_init_14 : am_fd mt_Pages_init.1 14 = (.aload_n 0,1,0,0,0,0,.retAddr 0) := rfl
theorem fd_Pages_init_15 : am_fd mt_Pages_init.1 15 = (.iconst 0,1,0,0,0,0,.int 0) := rfl
theorem fd_Pages_init_16 : am_fd mt_Pages_init.1 16 = (.putfield 18,3,5,0,4,4,.retAddr 0) := rfl
theorem fd_Pages_init_19 : am_fd mt_Pages_init.1 19 = (.aload_n 0,1,0,0,0,0,.retAddr 0) := rfl
theorem fd_Pages_init_20 : am_fd mt_Pages_init.1 20 = (.iconst 0,1,0,0,0,0,.int 0) := rfl
theorem fd_Pages_init_21 : am_fd mt_Pages_init.1 21 = (.putfield 21,3,6,0,4,4,.retAddr 0) := rfl
theorem fd_Pages_init_24 : am_fd mt_Pages_init.1 24 = (.aload_n 0,1,0,0,0,0,.retAddr 0) := rfl
theorem fd_Pages_init_25 : am_fd mt_Pages_init.1 25 = (.iload_n 1,1,1,0,0,0,.retAddr 0) := rfl
theorem fd_Pages_init_26 : am_fd mt_Pages_init.1 26 = (.putfield 24,3,0,0,4,4,.retAddr 0) := rfl
theorem fd_Pages_init_29 : am_fd mt_Pages_init.1 29 = (.aload_n 0,1,0,0,0,0,.retAddr 0) := rfl
theorem fd_Pages_init_30 : am_fd mt_Pages_init.1 30 = (.iload_n 1,1,1,0,0,0,.retAddr 0) := rfl
theorem fd_Pages_init_31 : am_fd mt_Pages_init.1 31 = (.sipush 128,3,0,0,0,0,.int 128) := rfl
theorem fd_Pages_init_34 : am_fd mt_Pages_init.1 34 = (.imul,1,0,0,0,0,.retAddr 0) := rfl
theorem fd_Pages_init_35 : am_fd mt_Pages_init.1 35 = (.newarray .byte,2,102,0,0,0,.retAddr 0) := rfl
theorem fd_Pages_init_37 : am_fd mt_Pages_init.1 37 = (.putfield 27,3,1,2,4,4,.retAddr 0) := rfl
theorem fd_Pages_init_40 : am_fd mt_Pages_init.1 40 = (.aload_n 0,1,0,0,0,0,.retAddr 0) := rfl
theorem fd_Pages_init_41 : am_fd mt_Pages_init.1 41 = (.iload_n 1,1,1,0,0,0,.retAddr 0) := rfl
theorem fd_Pages_init_42 : am_fd mt_Pages_init.1 42 = (.newarray .boolean,2,103,0,0,0,.retAddr 0) := rfl
theorem fd_Pages_init_44 : am_fd mt_Pages_init.1 44 = (.putfield 31,3,2,2,4,4,.retAddr 0) := rfl
theorem fd_Pages_init_47 : am_fd mt_Pages_init.1 47 = (.aload_n 0,1,0,0,0,0,.retAddr 0) := rfl
theorem fd_Pages_init_48 : am_fd mt_Pages_init.1 48 = (.getfield 31,3,2,2,4,4,.retAddr 0) := rfl
theorem fd_Pages_init_51 : am_fd mt_Pages_init.1 51 = (.iconst 0,1,0,0,0,0,.int 0) := rfl
theorem fd_Pages_init_52 : am_fd mt_Pages_init.1 52 = (.iconst 1,1,0,0,0,0,.int 1) := rfl
theorem fd_Pages_init_53 : am_fd mt_Pages_init.1 53 = (.bastore,1,0,0,0,0,.retAddr 0) := rfl
theorem fd_Pages_init_54 : am_fd mt_Pages_init.1 54 = (.return_,1,0,0,0,0,.retAddr 0) := rfl
theorem fd_Space_init_0 : am_fd mt_Space_init.1 0 = (.aload_n 0,1,0,0,0,0,.retAddr 0) := rfl
theorem fd_Space_init_1 : am_fd mt_Space_init.1 1 = (.invokespecial 3,3,0,0,0,1,.retAddr 0) := rfl
theorem fd_Space_init_4 : am_fd mt_Space_init.1 4 = (.aload_n 0,1,0,0,0,0,.retAddr 0) := rfl
theorem fd_Space_init_5 : am_fd mt_Space_init.1 5 = (.iload_n 1,1,1,0,0,0,.retAddr 0) := rfl
theorem fd_Space_init_6 : am_fd mt_Space_init.1 6 = (.putfield 9,3,0,0,9,9,.retAddr 0) := rfl
theorem fd_Space_init_9 : am_fd mt_Space_init.1 9 = (.aload_n 0,1,0,0,0,0,.retAddr 0) := rfl
theorem fd_Space_init_10 : am_fd mt_Space_init.1 10 = (.iload_n 1,1,1,0,0,0,.retAddr 0) := rfl
theorem fd_Space_init_11 : am_fd mt_Space_init.1 11 = (.newarray .int,2,100,0,0,0,.retAddr 0) := rfl
theorem fd_Space_init_13 : am_fd mt_Space_init.1 13 = (.putfield 15,3,1,2,9,9,.retAddr 0) := rfl
theorem fd_Space_init_16 : am_fd mt_Space_init.1 16 = (.aload_n 0,1,0,0,0,0,.retAddr 0) := rfl
theorem fd_Space_init_17 : am_fd mt_Space_init.1 17 = (.iload_n 1,1,1,0,0,0,.retAddr 0) := rfl
theorem fd_Space_init_18 : am_fd mt_Space_init.1 18 = (.newarray .int,2,100,0,0,0,.retAddr 0) := rfl
theorem fd_Space_init_20 : am_fd mt_Space_init.1 20 = (.putfield 19,3,2,2,9,9,.retAddr 0) := rfl
theorem fd_Space_init_23 : am_fd mt_Space_init.1 23 = (.aload_n 0,1,0,0,0,0,.retAddr 0) := rfl
theorem fd_Space_init_24 : am_fd mt_Space_init.1 24 = (.iload_n 1,1,1,0,0,0,.retAddr 0) := rfl
theorem fd_Space_init_25 : am_fd mt_Space_init.1 25 = (.newarray .long,2,101,0,0,0,.retAddr 0) := rfl
theorem fd_Space_init_27 : am_fd mt_Space_init.1 27 = (.putfield 22,3,3,2,9,9,.retAddr 0) := rfl
theorem fd_Space_init_30 : am_fd mt_Space_init.1 30 = (.aload_n 0,1,0,0,0,0,.retAddr 0) := rfl
theorem fd_Space_init_31 : am_fd mt_Space_init.1 31 = (.iload_n 1,1,1,0,0,0,.retAddr 0) := rfl
theorem fd_Space_init_32 : am_fd mt_Space_init.1 32 = (.iconst 2,1,0,0,0,0,.int 2) := rfl
theorem fd_Space_init_33 : am_fd mt_Space_init.1 33 = (.isub,1,0,0,0,0,.retAddr 0) := rfl
theorem fd_Space_init_34 : am_fd mt_Space_init.1 34 = (.putfield 26,3,4,0,9,9,.retAddr 0) := rfl
theorem fd_Space_init_37 : am_fd mt_Space_init.1 37 = (.return_,1,0,0,0,0,.retAddr 0) := rfl
theorem fd_Blend_init_0 : am_fd mt_Blend_init.1 0 = (.aload_n 0,1,0,0,0,0,.retAddr 0) := rfl
theorem fd_Blend_init_1 : am_fd mt_Blend_init.1 1 = (.invokespecial 3,3,0,0,0,1,.retAddr 0) := rfl
theorem fd_Blend_init_4 : am_fd mt_Blend_init.1 4 = (.aload_n 0,1,0,0,0,0,.retAddr 0) := rfl
theorem fd_Blend_init_5 : am_fd mt_Blend_init.1 5 = (.new 9,3,3,0,2,0,.retAddr 0) := rfl
theorem fd_Blend_init_8 : am_fd mt_Blend_init.1 8 = (.dup,1,0,0,0,0,.retAddr 0) := rfl
theorem fd_Blend_init_9 : am_fd mt_Blend_init.1 9 = (.invokespecial 11,3,2,1,3,0,.retAddr 0) := rfl
theorem fd_Blend_init_12 : am_fd mt_Blend_init.1 12 = (.putfield 12,3,0,2,2,2,.retAddr 0) := rfl
theorem fd_Blend_init_15 : am_fd mt_Blend_init.1 15 = (.aload_n 0,1,0,0,0,0,.retAddr 0) := rfl
theorem fd_Blend_init_16 : am_fd mt_Blend_init.1 16 = (.lconst 0,1,0,0,0,0,.long 0) := rfl
theorem fd_Blend_init_17 : am_fd mt_Blend_init.1 17 = (.putfield 18,3,1,1,2,2,.retAddr 0) := rfl
theorem fd_Blend_init_20 : am_fd mt_Blend_init.1 20 = (.aload_n 0,1,0,0,0,0,.retAddr 0) := rfl
theorem fd_Blend_init_21 : am_fd mt_Blend_init.1 21 = (.bipush 9,2,0,0,0,0,.int 9) := rfl
theorem fd_Blend_init_23 : am_fd mt_Blend_init.1 23 = (.anewarray 22,3,202,0,0,0,.retAddr 0) := rfl
theorem fd_Blend_init_26 : am_fd mt_Blend_init.1 26 = (.putfield 24,3,3,2,2,2,.retAddr 0) := rfl
theorem fd_Blend_init_29 : am_fd mt_Blend_init.1 29 = (.aload_n 0,1,0,0,0,0,.retAddr 0) := rfl
theorem fd_Blend_init_30 : am_fd mt_Blend_init.1 30 = (.bipush 10,2,0,0,0,0,.int 10) := rfl
theorem fd_Blend_init_32 : am_fd mt_Blend_init.1 32 = (.anewarray 28,3,203,0,0,0,.retAddr 0) := rfl
theorem fd_Blend_init_35 : am_fd mt_Blend_init.1 35 = (.putfield 30,3,4,2,2,2,.retAddr 0) := rfl
theorem fd_Blend_init_38 : am_fd mt_Blend_init.1 38 = (.aload_n 0,1,0,0,0,0,.retAddr 0) := rfl
theorem fd_Blend_init_39 : am_fd mt_Blend_init.1 39 = (.iconst 0,1,0,0,0,0,.int 0) := rfl
theorem fd_Blend_init_40 : am_fd mt_Blend_init.1 40 = (.putfield 34,3,5,0,2,2,.retAddr 0) := rfl
theorem fd_Blend_init_43 : am_fd mt_Blend_init.1 43 = (.aload_n 0,1,0,0,0,0,.retAddr 0) := rfl
theorem fd_Blend_init_44 : am_fd mt_Blend_init.1 44 = (.iconst 0,1,0,0,0,0,.int 0) := rfl
theorem fd_Blend_init_45 : am_fd mt_Blend_init.1 45 = (.putfield 38,3,6,0,2,2,.retAddr 0) := rfl
theorem fd_Blend_init_48 : am_fd mt_Blend_init.1 48 = (.aload_n 0,1,0,0,0,0,.retAddr 0) := rfl
theorem fd_Blend_init_49 : am_fd mt_Blend_init.1 49 = (.iconst 0,1,0,0,0,0,.int 0) := rfl
theorem fd_Blend_init_50 : am_fd mt_Blend_init.1 50 = (.putfield 41,3,7,3,2,2,.retAddr 0) := rfl
theorem fd_Blend_init_53 : am_fd mt_Blend_init.1 53 = (.aload_n 0,1,0,0,0,0,.retAddr 0) := rfl
theorem fd_Blend_init_54 : am_fd mt_Blend_init.1 54 = (.new 45,3,11,0,6,0,.retAddr 0) := rfl
theorem fd_Blend_init_57 : am_fd mt_Blend_init.1 57 = (.dup,1,0,0,0,0,.retAddr 0) := rfl
theorem fd_Blend_init_58 : am_fd mt_Blend_init.1 58 = (.aload_n 1,1,1,0,0,0,.retAddr 0) := rfl
theorem fd_Blend_init_59 : am_fd mt_Blend_init.1 59 = (.invokespecial 47,3,9,2,11,0,.retAddr 0) := rfl
theorem fd_Blend_init_62 : am_fd mt_Blend_init.1 62 = (.putfield 50,3,2,2,2,2,.retAddr 0) := rfl
theorem fd_Blend_init_65 : am_fd mt_Blend_init.1 65 = (.iconst 0,1,0,0,0,0,.int 0) := rfl
theorem fd_Blend_init_66 : am_fd mt_Blend_init.1 66 = (.istore 4,2,4,0,0,0,.retAddr 0) := rfl
theorem fd_Blend_init_68 : am_fd mt_Blend_init.1 68 = (.iload 4,2,4,0,0,0,.retAddr 0) := rfl
theorem fd_Blend_init_70 : am_fd mt_Blend_init.1 70 = (.bipush 9,2,0,0,0,0,.int 9) := rfl
theorem fd_Blend_init_72 : am_fd mt_Blend_init.1 72 = (.if_icmp .ge 25,3,97,0,0,0,.retAddr 0) := rfl
theorem fd_Blend_init_75 : am_fd mt_Blend_init.1 75 = (.aload_n 0,1,0,0,0,0,.retAddr 0) := rfl
theorem fd_Blend_init_76 : am_fd mt_Blend_init.1 76 = (.getfield 24,3,3,2,2,2,.retAddr 0) := rfl
theorem fd_Blend_init_79 : am_fd mt_Blend_init.1 79 = (.iload 4,2,4,0,0,0,.retAddr 0) := rfl
theorem fd_Blend_init_81 : am_fd mt_Blend_init.1 81 = (.new 22,3,7,0,11,0,.retAddr 0) := rfl
theorem fd_Blend_init_84 : am_fd mt_Blend_init.1 84 = (.dup,1,0,0,0,0,.retAddr 0) := rfl
theorem fd_Blend_init_85 : am_fd mt_Blend_init.1 85 = (.aload_n 2,1,2,0,0,0,.retAddr 0) := rfl
theorem fd_Blend_init_86 : am_fd mt_Blend_init.1 86 = (.aload_n 3,1,3,0,0,0,.retAddr 0) := rfl
theorem fd_Blend_init_87 : am_fd mt_Blend_init.1 87 = (.invokespecial 54,3,11,3,7,0,.retAddr 0) := rfl
theorem fd_Blend_init_90 : am_fd mt_Blend_init.1 90 = (.aastore,1,7,7,202,0,.retAddr 0) := rfl
theorem fd_Blend_init_91 : am_fd mt_Blend_init.1 91 = (.iinc 4 1,3,4,0,0,0,.int 1) := rfl
theorem fd_Blend_init_94 : am_fd mt_Blend_init.1 94 = (.goto (-26),3,68,0,0,0,.retAddr 0) := rfl
theorem fd_Blend_init_97 : am_fd mt_Blend_init.1 97 = (.iconst 0,1,0,0,0,0,.int 0) := rfl
theorem fd_Blend_init_98 : am_fd mt_Blend_init.1 98 = (.istore 4,2,4,0,0,0,.retAddr 0) := rfl
theorem fd_Blend_init_100 : am_fd mt_Blend_init.1 100 = (.iload 4,2,4,0,0,0,.retAddr 0) := rfl
theorem fd_Blend_init_102 : am_fd mt_Blend_init.1 102 = (.bipush 10,2,0,0,0,0,.int 10) := rfl
theorem fd_Blend_init_104 : am_fd mt_Blend_init.1 104 = (.if_icmp .ge 20,3,124,0,0,0,.retAddr 0) := rfl
theorem fd_Blend_init_107 : am_fd mt_Blend_init.1 107 = (.aload_n 0,1,0,0,0,0,.retAddr 0) := rfl
theorem fd_Blend_init_108 : am_fd mt_Blend_init.1 108 = (.getfield 30,3,4,2,2,2,.retAddr 0) := rfl
theorem fd_Blend_init_111 : am_fd mt_Blend_init.1 111 = (.iload 4,2,4,0,0,0,.retAddr 0) := rfl
theorem fd_Blend_init_113 : am_fd mt_Blend_init.1 113 = (.aload_n 0,1,0,0,0,0,.retAddr 0) := rfl
theorem fd_Blend_init_114 : am_fd mt_Blend_init.1 114 = (.getfield 50,3,2,2,2,2,.retAddr 0) := rfl
theorem fd_Blend_init_117 : am_fd mt_Blend_init.1 117 = (.aastore,1,7,11,203,0,.retAddr 0) := rfl
theorem fd_Blend_init_118 : am_fd mt_Blend_init.1 118 = (.iinc 4 1,3,4,0,0,0,.int 1) := rfl
theorem fd_Blend_init_121 : am_fd mt_Blend_init.1 121 = (.goto (-21),3,100,0,0,0,.retAddr 0) := rfl
theorem fd_Blend_init_124 : am_fd mt_Blend_init.1 124 = (.return_,1,0,0,0,0,.retAddr 0) := rfl
theorem fd_TableStream_init_0 : am_fd mt_TableStream_init.1 0 = (.aload_n 0,1,0,0,0,0,.retAddr 0) := rfl
theorem fd_TableStream_init_1 : am_fd mt_TableStream_init.1 1 = (.invokespecial 3,3,10,1,11,0,.retAddr 0) := rfl
theorem fd_TableStream_init_4 : am_fd mt_TableStream_init.1 4 = (.aload_n 0,1,0,0,0,0,.retAddr 0) := rfl
theorem fd_TableStream_init_5 : am_fd mt_TableStream_init.1 5 = (.iconst 0,1,0,0,0,0,.int 0) := rfl
theorem fd_TableStream_init_6 : am_fd mt_TableStream_init.1 6 = (.putfield 9,3,5,0,11,11,.retAddr 0) := rfl
theorem fd_TableStream_init_9 : am_fd mt_TableStream_init.1 9 = (.aload_n 0,1,0,0,0,0,.retAddr 0) := rfl
theorem fd_TableStream_init_10 : am_fd mt_TableStream_init.1 10 = (.aload_n 1,1,1,0,0,0,.retAddr 0) := rfl
theorem fd_TableStream_init_11 : am_fd mt_TableStream_init.1 11 = (.putfield 15,3,4,2,11,11,.retAddr 0) := rfl
theorem fd_TableStream_init_14 : am_fd mt_TableStream_init.1 14 = (.return_,1,0,0,0,0,.retAddr 0) := rfl
theorem fd_Stream_init_0 : am_fd mt_Stream_init.1 0 = (.aload_n 0,1,0,0,0,0,.retAddr 0) := rfl
theorem fd_Stream_init_1 : am_fd mt_Stream_init.1 1 = (.invokespecial 3,3,0,0,0,1,.retAddr 0) := rfl
theorem fd_Stream_init_4 : am_fd mt_Stream_init.1 4 = (.aload_n 0,1,0,0,0,0,.retAddr 0) := rfl
theorem fd_Stream_init_5 : am_fd mt_Stream_init.1 5 = (.iconst 0,1,0,0,0,0,.int 0) := rfl
theorem fd_Stream_init_6 : am_fd mt_Stream_init.1 6 = (.putfield 9,3,0,3,7,11,.retAddr 0) := rfl
theorem fd_Stream_init_9 : am_fd mt_Stream_init.1 9 = (.aload_n 0,1,0,0,0,0,.retAddr 0) := rfl
theorem fd_Stream_init_10 : am_fd mt_Stream_init.1 10 = (.lconst 0,1,0,0,0,0,.long 0) := rfl
theorem fd_Stream_init_11 : am_fd mt_Stream_init.1 11 = (.putfield 15,3,1,1,7,11,.retAddr 0) := rfl
theorem fd_Stream_init_14 : am_fd mt_Stream_init.1 14 = (.aload_n 0,1,0,0,0,0,.retAddr 0) := rfl
theorem fd_Stream_init_15 : am_fd mt_Stream_init.1 15 = (.iconst 0,1,0,0,0,0,.int 0) := rfl
theorem fd_Stream_init_16 : am_fd mt_Stream_init.1 16 = (.putfield 19,3,2,0,7,11,.retAddr 0) := rfl
theorem fd_Stream_init_19 : am_fd mt_Stream_init.1 19 = (.aload_n 0,1,0,0,0,0,.retAddr 0) := rfl
theorem fd_Stream_init_20 : am_fd mt_Stream_init.1 20 = (.lconst 0,1,0,0,0,0,.long 0) := rfl
theorem fd_Stream_init_21 : am_fd mt_Stream_init.1 21 = (.putfield 23,3,3,1,7,11,.retAddr 0) := rfl
theorem fd_Stream_init_24 : am_fd mt_Stream_init.1 24 = (.return_,1,0,0,0,0,.retAddr 0) := rfl
theorem fd_RunStream_init_0 : am_fd mt_RunStream_init.1 0 = (.aload_n 0,1,0,0,0,0,.retAddr 0) := rfl
theorem fd_RunStream_init_1 : am_fd mt_RunStream_init.1 1 = (.invokespecial 3,3,10,1,7,0,.retAddr 0) := rfl
theorem fd_RunStream_init_4 : am_fd mt_RunStream_init.1 4 = (.aload_n 0,1,0,0,0,0,.retAddr 0) := rfl
theorem fd_RunStream_init_5 : am_fd mt_RunStream_init.1 5 = (.iconst 0,1,0,0,0,0,.int 0) := rfl
theorem fd_RunStream_init_6 : am_fd mt_RunStream_init.1 6 = (.putfield 9,3,6,0,7,7,.retAddr 0) := rfl
theorem fd_RunStream_init_9 : am_fd mt_RunStream_init.1 9 = (.aload_n 0,1,0,0,0,0,.retAddr 0) := rfl
theorem fd_RunStream_init_10 : am_fd mt_RunStream_init.1 10 = (.iconst 0,1,0,0,0,0,.int 0) := rfl
theorem fd_RunStream_init_11 : am_fd mt_RunStream_init.1 11 = (.putfield 15,3,7,0,7,7,.retAddr 0) := rfl
theorem fd_RunStream_init_14 : am_fd mt_RunStream_init.1 14 = (.aload_n 0,1,0,0,0,0,.retAddr 0) := rfl
theorem fd_RunStream_init_15 : am_fd mt_RunStream_init.1 15 = (.iconst 0,1,0,0,0,0,.int 0) := rfl
theorem fd_RunStream_init_16 : am_fd mt_RunStream_init.1 16 = (.putfield 18,3,8,0,7,7,.retAddr 0) := rfl
theorem fd_RunStream_init_19 : am_fd mt_RunStream_init.1 19 = (.aload_n 0,1,0,0,0,0,.retAddr 0) := rfl
theorem fd_RunStream_init_20 : am_fd mt_RunStream_init.1 20 = (.iconst 0,1,0,0,0,0,.int 0) := rfl
theorem fd_RunStream_init_21 : am_fd mt_RunStream_init.1 21 = (.putfield 21,3,9,0,7,7,.retAddr 0) := rfl
theorem fd_RunStream_init_24 : am_fd mt_RunStream_init.1 24 = (.aload_n 0,1,0,0,0,0,.retAddr 0) := rfl
theorem fd_RunStream_init_25 : am_fd mt_RunStream_init.1 25 = (.iconst 0,1,0,0,0,0,.int 0) := rfl
theorem fd_RunStream_init_26 : am_fd mt_RunStream_init.1 26 = (.putfield 24,3,10,0,7,7,.retAddr 0) := rfl
theorem fd_RunStream_init_29 : am_fd mt_RunStream_init.1 29 = (.aload_n 0,1,0,0,0,0,.retAddr 0) := rfl
theorem fd_RunStream_init_30 : am_fd mt_RunStream_init.1 30 = (.aload_n 1,1,1,0,0,0,.retAddr 0) := rfl
theorem fd_RunStream_init_31 : am_fd mt_RunStream_init.1 31 = (.putfield 27,3,4,2,7,7,.retAddr 0) := rfl
theorem fd_RunStream_init_34 : am_fd mt_RunStream_init.1 34 = (.aload_n 0,1,0,0,0,0,.retAddr 0) := rfl
theorem fd_RunStream_init_35 : am_fd mt_RunStream_init.1 35 = (.aload_n 2,1,2,0,0,0,.retAddr 0) := rfl
theorem fd_RunStream_init_36 : am_fd mt_RunStream_init.1 36 = (.putfield 31,3,5,2,7,7,.retAddr 0) := rfl
theorem fd_RunStream_init_39 : am_fd mt_RunStream_init.1 39 = (.return_,1,0,0,0,0,.retAddr 0) := rfl
theorem fd_SR_fillHead_0 : am_fd mt_SR_fillHead.1 0 = (.aload_n 0,1,0,0,0,0,.retAddr 0) := rfl
theorem fd_SR_fillHead_1 : am_fd mt_SR_fillHead.1 1 = (.getfield 37,3,8,2,1,1,.retAddr 0) := rfl
theorem fd_SR_fillHead_4 : am_fd mt_SR_fillHead.1 4 = (.invokevirtual 304,3,13,1,8,0,.retAddr 0) := rfl
theorem fd_SR_fillHead_7 : am_fd mt_SR_fillHead.1 7 = (.aload_n 0,1,0,0,0,0,.retAddr 0) := rfl
theorem fd_SR_fillHead_8 : am_fd mt_SR_fillHead.1 8 = (.getfield 37,3,8,2,1,1,.retAddr 0) := rfl
theorem fd_SR_fillHead_11 : am_fd mt_SR_fillHead.1 11 = (.iload_n 1,1,1,0,0,0,.retAddr 0) := rfl
theorem fd_SR_fillHead_12 : am_fd mt_SR_fillHead.1 12 = (.bipush 16,2,0,0,0,0,.int 16) := rfl
theorem fd_SR_fillHead_14 : am_fd mt_SR_fillHead.1 14 = (.iushr,1,0,0,0,0,.retAddr 0) := rfl
theorem fd_SR_fillHead_15 : am_fd mt_SR_fillHead.1 15 = (.invokevirtual 307,3,14,2,8,0,.retAddr 0) := rfl
theorem fd_SR_fillHead_18 : am_fd mt_SR_fillHead.1 18 = (.aload_n 0,1,0,0,0,0,.retAddr 0) := rfl
theorem fd_SR_fillHead_19 : am_fd mt_SR_fillHead.1 19 = (.getfield 37,3,8,2,1,1,.retAddr 0) := rfl
theorem fd_SR_fillHead_22 : am_fd mt_SR_fillHead.1 22 = (.iload_n 1,1,1,0,0,0,.retAddr 0) := rfl
theorem fd_SR_fillHead_23 : am_fd mt_SR_fillHead.1 23 = (.invokevirtual 307,3,14,2,8,0,.retAddr 0) := rfl
theorem fd_SR_fillHead_26 : am_fd mt_SR_fillHead.1 26 = (.aload_n 0,1,0,0,0,0,.retAddr 0) := rfl
theorem fd_SR_fillHead_27 : am_fd mt_SR_fillHead.1 27 = (.getfield 37,3,8,2,1,1,.retAddr 0) := rfl
theorem fd_SR_fillHead_30 : am_fd mt_SR_fillHead.1 30 = (.aload_n 0,1,0,0,0,0,.retAddr 0) := rfl
theorem fd_SR_fillHead_31 : am_fd mt_SR_fillHead.1 31 = (.getfield 55,3,13,0,1,1,.retAddr 0) := rfl
theorem fd_SR_fillHead_34 : am_fd mt_SR_fillHead.1 34 = (.invokevirtual 307,3,14,2,8,0,.retAddr 0) := rfl
theorem fd_SR_fillHead_37 : am_fd mt_SR_fillHead.1 37 = (.aload_n 0,1,0,0,0,0,.retAddr 0) := rfl
theorem fd_SR_fillHead_38 : am_fd mt_SR_fillHead.1 38 = (.getfield 37,3,8,2,1,1,.retAddr 0) := rfl
theorem fd_SR_fillHead_41 : am_fd mt_SR_fillHead.1 41 = (.aload_n 0,1,0,0,0,0,.retAddr 0) := rfl
theorem fd_SR_fillHead_42 : am_fd mt_SR_fillHead.1 42 = (.getfield 19,3,3,2,1,1,.retAddr 0) := rfl
theorem fd_SR_fillHead_45 : am_fd mt_SR_fillHead.1 45 = (.getfield 243,3,1,0,6,6,.retAddr 0) := rfl
theorem fd_SR_fillHead_48 : am_fd mt_SR_fillHead.1 48 = (.invokevirtual 310,3,15,2,8,0,.retAddr 0) := rfl
theorem fd_SR_fillHead_51 : am_fd mt_SR_fillHead.1 51 = (.iconst 0,1,0,0,0,0,.int 0) := rfl
theorem fd_SR_fillHead_52 : am_fd mt_SR_fillHead.1 52 = (.istore_n 2,1,2,0,0,0,.retAddr 0) := rfl
theorem fd_SR_fillHead_53 : am_fd mt_SR_fillHead.1 53 = (.iload_n 2,1,2,0,0,0,.retAddr 0) := rfl
theorem fd_SR_fillHead_54 : am_fd mt_SR_fillHead.1 54 = (.aload_n 0,1,0,0,0,0,.retAddr 0) := rfl
theorem fd_SR_fillHead_55 : am_fd mt_SR_fillHead.1 55 = (.getfield 19,3,3,2,1,1,.retAddr 0) := rfl
theorem fd_SR_fillHead_58 : am_fd mt_SR_fillHead.1 58 = (.getfield 243,3,1,0,6,6,.retAddr 0) := rfl
theorem fd_SR_fillHead_61 : am_fd mt_SR_fillHead.1 61 = (.if_icmp .ge 69,3,130,0,0,0,.retAddr 0) := rfl
theorem fd_SR_fillHead_64 : am_fd mt_SR_fillHead.1 64 = (.iload_n 2,1,2,0,0,0,.retAddr 0) := rfl
theorem fd_SR_fillHead_65 : am_fd mt_SR_fillHead.1 65 = (.bipush 9,2,0,0,0,0,.int 9) := rfl
theorem fd_SR_fillHead_67 : am_fd mt_SR_fillHead.1 67 = (.if_icmp .ge 63,3,130,0,0,0,.retAddr 0) := rfl
theorem fd_SR_fillHead_70 : am_fd mt_SR_fillHead.1 70 = (.aload_n 0,1,0,0,0,0,.retAddr 0) := rfl
theorem fd_SR_fillHead_71 : am_fd mt_SR_fillHead.1 71 = (.getfield 19,3,3,2,1,1,.retAddr 0) := rfl
theorem fd_SR_fillHead_74 : am_fd mt_SR_fillHead.1 74 = (.getfield 167,3,0,2,6,6,.retAddr 0) := rfl
theorem fd_SR_fillHead_77 : am_fd mt_SR_fillHead.1 77 = (.iload_n 2,1,2,0,0,0,.retAddr 0) := rfl
theorem fd_SR_fillHead_78 : am_fd mt_SR_fillHead.1 78 = (.aaload,1,0,0,0,0,.retAddr 0) := rfl
theorem fd_SR_fillHead_79 : am_fd mt_SR_fillHead.1 79 = (.astore_n 3,1,3,0,0,0,.retAddr 0) := rfl
theorem fd_SR_fillHead_80 : am_fd mt_SR_fillHead.1 80 = (.aload_n 0,1,0,0,0,0,.retAddr 0) := rfl
theorem fd_SR_fillHead_81 : am_fd mt_SR_fillHead.1 81 = (.getfield 37,3,8,2,1,1,.retAddr 0) := rfl
theorem fd_SR_fillHead_84 : am_fd mt_SR_fillHead.1 84 = (.aload_n 3,1,3,0,0,0,.retAddr 0) := rfl
theorem fd_SR_fillHead_85 : am_fd mt_SR_fillHead.1 85 = (.getfield 171,3,0,0,5,5,.retAddr 0) := rfl
theorem fd_SR_fillHead_88 : am_fd mt_SR_fillHead.1 88 = (.invokevirtual 307,3,14,2,8,0,.retAddr 0) := rfl
theorem fd_SR_fillHead_91 : am_fd mt_SR_fillHead.1 91 = (.aload_n 0,1,0,0,0,0,.retAddr 0) := rfl
theorem fd_SR_fillHead_92 : am_fd mt_SR_fillHead.1 92 = (.getfield 37,3,8,2,1,1,.retAddr 0) := rfl
theorem fd_SR_fillHead_95 : am_fd mt_SR_fillHead.1 95 = (.aload_n 3,1,3,0,0,0,.retAddr 0) := rfl
theorem fd_SR_fillHead_96 : am_fd mt_SR_fillHead.1 96 = (.getfield 313,3,1,0,5,5,.retAddr 0) := rfl
theorem fd_SR_fillHead_99 : am_fd mt_SR_fillHead.1 99 = (.invokevirtual 310,3,15,2,8,0,.retAddr 0) := rfl
theorem fd_SR_fillHead_102 : am_fd mt_SR_fillHead.1 102 = (.aload_n 0,1,0,0,0,0,.retAddr 0) := rfl
theorem fd_SR_fillHead_103 : am_fd mt_SR_fillHead.1 103 = (.getfield 37,3,8,2,1,1,.retAddr 0) := rfl
theorem fd_SR_fillHead_106 : am_fd mt_SR_fillHead.1 106 = (.aload_n 3,1,3,0,0,0,.retAddr 0) := rfl
theorem fd_SR_fillHead_107 : am_fd mt_SR_fillHead.1 107 = (.getfield 224,3,3,0,5,5,.retAddr 0) := rfl
theorem fd_SR_fillHead_110 : am_fd mt_SR_fillHead.1 110 = (.invokevirtual 307,3,14,2,8,0,.retAddr 0) := rfl
theorem fd_SR_fillHead_113 : am_fd mt_SR_fillHead.1 113 = (.aload_n 0,1,0,0,0,0,.retAddr 0) := rfl
theorem fd_SR_fillHead_114 : am_fd mt_SR_fillHead.1 114 = (.getfield 37,3,8,2,1,1,.retAddr 0) := rfl
theorem fd_SR_fillHead_117 : am_fd mt_SR_fillHead.1 117 = (.aload_n 3,1,3,0,0,0,.retAddr 0) := rfl
theorem fd_SR_fillHead_118 : am_fd mt_SR_fillHead.1 118 = (.getfield 227,3,4,0,5,5,.retAddr 0) := rfl
theorem fd_SR_fillHead_121 : am_fd mt_SR_fillHead.1 121 = (.invokevirtual 307,3,14,2,8,0,.retAddr 0) := rfl
theorem fd_SR_fillHead_124 : am_fd mt_SR_fillHead.1 124 = (.iinc 2 1,3,2,0,0,0,.int 1) := rfl
theorem fd_SR_fillHead_127 : am_fd mt_SR_fillHead.1 127 = (.goto (-74),3,53,0,0,0,.retAddr 0) := rfl
theorem fd_SR_fillHead_130 : am_fd mt_SR_fillHead.1 130 = (.return_,1,0,0,0,0,.retAddr 0) := rfl
theorem fd_Sheet_clear_0 : am_fd mt_Sheet_clear.1 0 = (.iconst 0,1,0,0,0,0,.int 0) := rfl
theorem fd_Sheet_clear_1 : am_fd mt_Sheet_clear.1 1 = (.istore_n 1,1,1,0,0,0,.retAddr 0) := rfl
theorem fd_Sheet_clear_2 : am_fd mt_Sheet_clear.1 2 = (.iload_n 1,1,1,0,0,0,.retAddr 0) := rfl
theorem fd_Sheet_clear_3 : am_fd mt_Sheet_clear.1 3 = (.sipush 128,3,0,0,0,0,.int 128) := rfl
theorem fd_Sheet_clear_6 : am_fd mt_Sheet_clear.1 6 = (.if_icmp .ge 16,3,22,0,0,0,.retAddr 0) := rfl
theorem fd_Sheet_clear_9 : am_fd mt_Sheet_clear.1 9 = (.aload_n 0,1,0,0,0,0,.retAddr 0) := rfl
theorem fd_Sheet_clear_10 : am_fd mt_Sheet_clear.1 10 = (.getfield 9,3,0,2,8,8,.retAddr 0) := rfl
theorem fd_Sheet_clear_13 : am_fd mt_Sheet_clear.1 13 = (.iload_n 1,1,1,0,0,0,.retAddr 0) := rfl
theorem fd_Sheet_clear_14 : am_fd mt_Sheet_clear.1 14 = (.iconst 0,1,0,0,0,0,.int 0) := rfl
theorem fd_Sheet_clear_15 : am_fd mt_Sheet_clear.1 15 = (.bastore,1,0,0,0,0,.retAddr 0) := rfl
theorem fd_Sheet_clear_16 : am_fd mt_Sheet_clear.1 16 = (.iinc 1 1,3,1,0,0,0,.int 1) := rfl
theorem fd_Sheet_clear_19 : am_fd mt_Sheet_clear.1 19 = (.goto (-17),3,2,0,0,0,.retAddr 0) := rfl
theorem fd_Sheet_clear_22 : am_fd mt_Sheet_clear.1 22 = (.aload_n 0,1,0,0,0,0,.retAddr 0) := rfl
theorem fd_Sheet_clear_23 : am_fd mt_Sheet_clear.1 23 = (.iconst 0,1,0,0,0,0,.int 0) := rfl
theorem fd_Sheet_clear_24 : am_fd mt_Sheet_clear.1 24 = (.putfield 15,3,1,0,8,8,.retAddr 0) := rfl
theorem fd_Sheet_clear_27 : am_fd mt_Sheet_clear.1 27 = (.aload_n 0,1,0,0,0,0,.retAddr 0) := rfl
theorem fd_Sheet_clear_28 : am_fd mt_Sheet_clear.1 28 = (.iconst 0,1,0,0,0,0,.int 0) := rfl
theorem fd_Sheet_clear_29 : am_fd mt_Sheet_clear.1 29 = (.putfield 19,3,2,0,8,8,.retAddr 0) := rfl
theorem fd_Sheet_clear_32 : am_fd mt_Sheet_clear.1 32 = (.return_,1,0,0,0,0,.retAddr 0) := rfl
theorem fd_Sheet_two_0 : am_fd mt_Sheet_two.1 0 = (.aload_n 0,1,0,0,0,0,.retAddr 0) := rfl
theorem fd_Sheet_two_1 : am_fd mt_Sheet_two.1 1 = (.iload_n 1,1,1,0,0,0,.retAddr 0) := rfl
theorem fd_Sheet_two_2 : am_fd mt_Sheet_two.1 2 = (.bipush 8,2,0,0,0,0,.int 8) := rfl
theorem fd_Sheet_two_4 : am_fd mt_Sheet_two.1 4 = (.iushr,1,0,0,0,0,.retAddr 0) := rfl
theorem fd_Sheet_two_5 : am_fd mt_Sheet_two.1 5 = (.invokevirtual 29,3,15,2,8,0,.retAddr 0) := rfl
theorem fd_Sheet_two_8 : am_fd mt_Sheet_two.1 8 = (.aload_n 0,1,0,0,0,0,.retAddr 0) := rfl
theorem fd_Sheet_two_9 : am_fd mt_Sheet_two.1 9 = (.iload_n 1,1,1,0,0,0,.retAddr 0) := rfl
theorem fd_Sheet_two_10 : am_fd mt_Sheet_two.1 10 = (.invokevirtual 29,3,15,2,8,0,.retAddr 0) := rfl
theorem fd_Sheet_two_13 : am_fd mt_Sheet_two.1 13 = (.return_,1,0,0,0,0,.retAddr 0) := rfl
theorem fd_Sheet_one_0 : am_fd mt_Sheet_one.1 0 = (.aload_n 0,1,0,0,0,0,.retAddr 0) := rfl
theorem fd_Sheet_one_1 : am_fd mt_Sheet_one.1 1 = (.getfield 15,3,1,0,8,8,.retAddr 0) := rfl
theorem fd_Sheet_one_4 : am_fd mt_Sheet_one.1 4 = (.bipush 120,2,0,0,0,0,.int 120) := rfl
theorem fd_Sheet_one_6 : am_fd mt_Sheet_one.1 6 = (.if_icmp .ge 24,3,30,0,0,0,.retAddr 0) := rfl
theorem fd_Sheet_one_9 : am_fd mt_Sheet_one.1 9 = (.aload_n 0,1,0,0,0,0,.retAddr 0) := rfl
theorem fd_Sheet_one_10 : am_fd mt_Sheet_one.1 10 = (.getfield 9,3,0,2,8,8,.retAddr 0) := rfl
theorem fd_Sheet_one_13 : am_fd mt_Sheet_one.1 13 = (.aload_n 0,1,0,0,0,0,.retAddr 0) := rfl
theorem fd_Sheet_one_14 : am_fd mt_Sheet_one.1 14 = (.getfield 15,3,1,0,8,8,.retAddr 0) := rfl
theorem fd_Sheet_one_17 : am_fd mt_Sheet_one.1 17 = (.iload_n 1,1,1,0,0,0,.retAddr 0) := rfl
theorem fd_Sheet_one_18 : am_fd mt_Sheet_one.1 18 = (.i2b,1,0,0,0,0,.retAddr 0) := rfl
theorem fd_Sheet_one_19 : am_fd mt_Sheet_one.1 19 = (.bastore,1,0,0,0,0,.retAddr 0) := rfl
theorem fd_Sheet_one_20 : am_fd mt_Sheet_one.1 20 = (.aload_n 0,1,0,0,0,0,.retAddr 0) := rfl
theorem fd_Sheet_one_21 : am_fd mt_Sheet_one.1 21 = (.dup,1,0,0,0,0,.retAddr 0) := rfl
theorem fd_Sheet_one_22 : am_fd mt_Sheet_one.1 22 = (.getfield 15,3,1,0,8,8,.retAddr 0) := rfl
theorem fd_Sheet_one_25 : am_fd mt_Sheet_one.1 25 = (.iconst 1,1,0,0,0,0,.int 1) := rfl
theorem fd_Sheet_one_26 : am_fd mt_Sheet_one.1 26 = (.iadd,1,0,0,0,0,.retAddr 0) := rfl
theorem fd_Sheet_one_27 : am_fd mt_Sheet_one.1 27 = (.putfield 15,3,1,0,8,8,.retAddr 0) := rfl
theorem fd_Sheet_one_30 : am_fd mt_Sheet_one.1 30 = (.return_,1,0,0,0,0,.retAddr 0) := rfl
theorem fd_Sheet_seal_0 : am_fd mt_Sheet_seal.1 0 = (.aload_n 0,1,0,0,0,0,.retAddr 0) := rfl
theorem fd_Sheet_seal_1 : am_fd mt_Sheet_seal.1 1 = (.getfield 9,3,0,2,8,8,.retAddr 0) := rfl
theorem fd_Sheet_seal_4 : am_fd mt_Sheet_seal.1 4 = (.iconst 0,1,0,0,0,0,.int 0) := rfl
theorem fd_Sheet_seal_5 : am_fd mt_Sheet_seal.1 5 = (.iload_n 1,1,1,0,0,0,.retAddr 0) := rfl
theorem fd_Sheet_seal_6 : am_fd mt_Sheet_seal.1 6 = (.invokestatic 72,3,17,3,0,0,.retAddr 0) := rfl
theorem fd_Sheet_seal_9 : am_fd mt_Sheet_seal.1 9 = (.lstore_n 2,1,2,0,0,0,.retAddr 0) := rfl
theorem fd_Sheet_seal_10 : am_fd mt_Sheet_seal.1 10 = (.iconst 0,1,0,0,0,0,.int 0) := rfl
theorem fd_Sheet_seal_11 : am_fd mt_Sheet_seal.1 11 = (.istore 4,2,4,0,0,0,.retAddr 0) := rfl
theorem fd_Sheet_seal_13 : am_fd mt_Sheet_seal.1 13 = (.iload 4,2,4,0,0,0,.retAddr 0) := rfl
theorem fd_Sheet_seal_15 : am_fd mt_Sheet_seal.1 15 = (.bipush 8,2,0,0,0,0,.int 8) := rfl
theorem fd_Sheet_seal_17 : am_fd mt_Sheet_seal.1 17 = (.if_icmp .ge 31,3,48,0,0,0,.retAddr 0) := rfl
theorem fd_Sheet_seal_20 : am_fd mt_Sheet_seal.1 20 = (.aload_n 0,1,0,0,0,0,.retAddr 0) := rfl
theorem fd_Sheet_seal_21 : am_fd mt_Sheet_seal.1 21 = (.getfield 9,3,0,2,8,8,.retAddr 0) := rfl
theorem fd_Sheet_seal_24 : am_fd mt_Sheet_seal.1 24 = (.bipush 120,2,0,0,0,0,.int 120) := rfl
theorem fd_Sheet_seal_26 : am_fd mt_Sheet_seal.1 26 = (.iload 4,2,4,0,0,0,.retAddr 0) := rfl
theorem fd_Sheet_seal_28 : am_fd mt_Sheet_seal.1 28 = (.iadd,1,0,0,0,0,.retAddr 0) := rfl
theorem fd_Sheet_seal_29 : am_fd mt_Sheet_seal.1 29 = (.lload_n 2,1,2,0,0,0,.retAddr 0) := rfl
theorem fd_Sheet_seal_30 : am_fd mt_Sheet_seal.1 30 = (.bipush 56,2,0,0,0,0,.int 56) := rfl
theorem fd_Sheet_seal_32 : am_fd mt_Sheet_seal.1 32 = (.bipush 8,2,0,0,0,0,.int 8) := rfl
theorem fd_Sheet_seal_34 : am_fd mt_Sheet_seal.1 34 = (.iload 4,2,4,0,0,0,.retAddr 0) := rfl
theorem fd_Sheet_seal_36 : am_fd mt_Sheet_seal.1 36 = (.imul,1,0,0,0,0,.retAddr 0) := rfl
theorem fd_Sheet_seal_37 : am_fd mt_Sheet_seal.1 37 = (.isub,1,0,0,0,0,.retAddr 0) := rfl
theorem fd_Sheet_seal_38 : am_fd mt_Sheet_seal.1 38 = (.lushr,1,0,0,0,0,.retAddr 0) := rfl
theorem fd_Sheet_seal_39 : am_fd mt_Sheet_seal.1 39 = (.l2i,1,0,0,0,0,.retAddr 0) := rfl
theorem fd_Sheet_seal_40 : am_fd mt_Sheet_seal.1 40 = (.i2b,1,0,0,0,0,.retAddr 0) := rfl
theorem fd_Sheet_seal_41 : am_fd mt_Sheet_seal.1 41 = (.bastore,1,0,0,0,0,.retAddr 0) := rfl
theorem fd_Sheet_seal_42 : am_fd mt_Sheet_seal.1 42 = (.iinc 4 1,3,4,0,0,0,.int 1) := rfl
theorem fd_Sheet_seal_45 : am_fd mt_Sheet_seal.1 45 = (.goto (-32),3,13,0,0,0,.retAddr 0) := rfl
theorem fd_Sheet_seal_48 : am_fd mt_Sheet_seal.1 48 = (.return_,1,0,0,0,0,.retAddr 0) := rfl
theorem fd_Sheet_sumOf_0 : am_fd mt_Sheet_sumOf.1 0 = (.iload_n 2,1,2,0,0,0,.retAddr 0) := rfl
theorem fd_Sheet_sumOf_1 : am_fd mt_Sheet_sumOf.1 1 = (.i2l,1,0,0,0,0,.retAddr 0) := rfl
theorem fd_Sheet_sumOf_2 : am_fd mt_Sheet_sumOf.1 2 = (.lstore_n 3,1,3,0,0,0,.retAddr 0) := rfl
theorem fd_Sheet_sumOf_3 : am_fd mt_Sheet_sumOf.1 3 = (.iconst 0,1,0,0,0,0,.int 0) := rfl
theorem fd_Sheet_sumOf_4 : am_fd mt_Sheet_sumOf.1 4 = (.istore 5,2,5,0,0,0,.retAddr 0) := rfl
theorem fd_Sheet_sumOf_6 : am_fd mt_Sheet_sumOf.1 6 = (.iload 5,2,5,0,0,0,.retAddr 0) := rfl
theorem fd_Sheet_sumOf_8 : am_fd mt_Sheet_sumOf.1 8 = (.bipush 120,2,0,0,0,0,.int 120) := rfl
theorem fd_Sheet_sumOf_10 : am_fd mt_Sheet_sumOf.1 10 = (.if_icmp .ge 40,3,50,0,0,0,.retAddr 0) := rfl
theorem fd_Sheet_sumOf_13 : am_fd mt_Sheet_sumOf.1 13 = (.iload_n 1,1,1,0,0,0,.retAddr 0) := rfl
theorem fd_Sheet_sumOf_14 : am_fd mt_Sheet_sumOf.1 14 = (.ifCond .lt 36,3,50,0,0,0,.retAddr 0) := rfl
theorem fd_Sheet_sumOf_17 : am_fd mt_Sheet_sumOf.1 17 = (.iload_n 1,1,1,0,0,0,.retAddr 0) := rfl
theorem fd_Sheet_sumOf_18 : am_fd mt_Sheet_sumOf.1 18 = (.iload 5,2,5,0,0,0,.retAddr 0) := rfl
theorem fd_Sheet_sumOf_20 : am_fd mt_Sheet_sumOf.1 20 = (.iadd,1,0,0,0,0,.retAddr 0) := rfl
theorem fd_Sheet_sumOf_21 : am_fd mt_Sheet_sumOf.1 21 = (.aload_n 0,1,0,0,0,0,.retAddr 0) := rfl
theorem fd_Sheet_sumOf_22 : am_fd mt_Sheet_sumOf.1 22 = (.arraylength,1,0,0,0,0,.retAddr 0) := rfl
theorem fd_Sheet_sumOf_23 : am_fd mt_Sheet_sumOf.1 23 = (.if_icmp .ge 27,3,50,0,0,0,.retAddr 0) := rfl
theorem fd_Sheet_sumOf_26 : am_fd mt_Sheet_sumOf.1 26 = (.lload_n 3,1,3,0,0,0,.retAddr 0) := rfl
theorem fd_Sheet_sumOf_27 : am_fd mt_Sheet_sumOf.1 27 = (.aload_n 0,1,0,0,0,0,.retAddr 0) := rfl
theorem fd_Sheet_sumOf_28 : am_fd mt_Sheet_sumOf.1 28 = (.iload_n 1,1,1,0,0,0,.retAddr 0) := rfl
theorem fd_Sheet_sumOf_29 : am_fd mt_Sheet_sumOf.1 29 = (.iload 5,2,5,0,0,0,.retAddr 0) := rfl
theorem fd_Sheet_sumOf_31 : am_fd mt_Sheet_sumOf.1 31 = (.iadd,1,0,0,0,0,.retAddr 0) := rfl
theorem fd_Sheet_sumOf_32 : am_fd mt_Sheet_sumOf.1 32 = (.baload,1,0,0,0,0,.retAddr 0) := rfl
theorem fd_Sheet_sumOf_33 : am_fd mt_Sheet_sumOf.1 33 = (.sipush 255,3,0,0,0,0,.int 255) := rfl
theorem fd_Sheet_sumOf_36 : am_fd mt_Sheet_sumOf.1 36 = (.iand,1,0,0,0,0,.retAddr 0) := rfl
theorem fd_Sheet_sumOf_37 : am_fd mt_Sheet_sumOf.1 37 = (.i2l,1,0,0,0,0,.retAddr 0) := rfl
theorem fd_Sheet_sumOf_38 : am_fd mt_Sheet_sumOf.1 38 = (.lxor,1,0,0,0,0,.retAddr 0) := rfl
theorem fd_Sheet_sumOf_39 : am_fd mt_Sheet_sumOf.1 39 = (.ldc2_w 76,3,0,0,0,0,.long 1099511628211) := rfl
theorem fd_Sheet_sumOf_42 : am_fd mt_Sheet_sumOf.1 42 = (.lmul,1,0,0,0,0,.retAddr 0) := rfl
theorem fd_Sheet_sumOf_43 : am_fd mt_Sheet_sumOf.1 43 = (.lstore_n 3,1,3,0,0,0,.retAddr 0) := rfl
theorem fd_Sheet_sumOf_44 : am_fd mt_Sheet_sumOf.1 44 = (.iinc 5 1,3,5,0,0,0,.int 1) := rfl
theorem fd_Sheet_sumOf_47 : am_fd mt_Sheet_sumOf.1 47 = (.goto (-41),3,6,0,0,0,.retAddr 0) := rfl
theorem fd_Sheet_sumOf_50 : am_fd mt_Sheet_sumOf.1 50 = (.lload_n 3,1,3,0,0,0,.retAddr 0) := rfl
theorem fd_Sheet_sumOf_51 : am_fd mt_Sheet_sumOf.1 51 = (.lreturn,1,0,0,0,0,.retAddr 0) := rfl
theorem fd_Pages_lay_0 : am_fd mt_Pages_lay.1 0 = (.iconst 0,1,0,0,0,0,.int 0) := rfl
theorem fd_Pages_lay_1 : am_fd mt_Pages_lay.1 1 = (.istore 4,2,4,0,0,0,.retAddr 0) := rfl
theorem fd_Pages_lay_3 : am_fd mt_Pages_lay.1 3 = (.iload 4,2,4,0,0,0,.retAddr 0) := rfl
theorem fd_Pages_lay_5 : am_fd mt_Pages_lay.1 5 = (.iload_n 3,1,3,0,0,0,.retAddr 0) := rfl
theorem fd_Pages_lay_6 : am_fd mt_Pages_lay.1 6 = (.if_icmp .ge 45,3,51,0,0,0,.retAddr 0) := rfl
theorem fd_Pages_lay_9 : am_fd mt_Pages_lay.1 9 = (.iload 4,2,4,0,0,0,.retAddr 0) := rfl
theorem fd_Pages_lay_11 : am_fd mt_Pages_lay.1 11 = (.sipush 128,3,0,0,0,0,.int 128) := rfl
theorem fd_Pages_lay_14 : am_fd mt_Pages_lay.1 14 = (.if_icmp .ge 37,3,51,0,0,0,.retAddr 0) := rfl
theorem fd_Pages_lay_17 : am_fd mt_Pages_lay.1 17 = (.aload_n 0,1,0,0,0,0,.retAddr 0) := rfl
theorem fd_Pages_lay_18 : am_fd mt_Pages_lay.1 18 = (.iload_n 1,1,1,0,0,0,.retAddr 0) := rfl
theorem fd_Pages_lay_19 : am_fd mt_Pages_lay.1 19 = (.invokevirtual 35,3,19,2,4,0,.retAddr 0) := rfl
theorem fd_Pages_lay_22 : am_fd mt_Pages_lay.1 22 = (.ifCond .eq 29,3,51,0,0,0,.retAddr 0) := rfl
theorem fd_Pages_lay_25 : am_fd mt_Pages_lay.1 25 = (.aload_n 0,1,0,0,0,0,.retAddr 0) := rfl
theorem fd_Pages_lay_26 : am_fd mt_Pages_lay.1 26 = (.getfield 27,3,1,2,4,4,.retAddr 0) := rfl
theorem fd_Pages_lay_29 : am_fd mt_Pages_lay.1 29 = (.iload_n 1,1,1,0,0,0,.retAddr 0) := rfl
theorem fd_Pages_lay_30 : am_fd mt_Pages_lay.1 30 = (.sipush 128,3,0,0,0,0,.int 128) := rfl
theorem fd_Pages_lay_33 : am_fd mt_Pages_lay.1 33 = (.imul,1,0,0,0,0,.retAddr 0) := rfl
theorem fd_Pages_lay_34 : am_fd mt_Pages_lay.1 34 = (.iload 4,2,4,0,0,0,.retAddr 0) := rfl
theorem fd_Pages_lay_36 : am_fd mt_Pages_lay.1 36 = (.iadd,1,0,0,0,0,.retAddr 0) := rfl
theorem fd_Pages_lay_37 : am_fd mt_Pages_lay.1 37 = (.aload_n 2,1,2,0,0,0,.retAddr 0) := rfl
theorem fd_Pages_lay_38 : am_fd mt_Pages_lay.1 38 = (.getfield 49,3,0,2,8,8,.retAddr 0) := rfl
theorem fd_Pages_lay_41 : am_fd mt_Pages_lay.1 41 = (.iload 4,2,4,0,0,0,.retAddr 0) := rfl
theorem fd_Pages_lay_43 : am_fd mt_Pages_lay.1 43 = (.baload,1,0,0,0,0,.retAddr 0) := rfl
theorem fd_Pages_lay_44 : am_fd mt_Pages_lay.1 44 = (.bastore,1,0,0,0,0,.retAddr 0) := rfl
theorem fd_Pages_lay_45 : am_fd mt_Pages_lay.1 45 = (.iinc 4 1,3,4,0,0,0,.int 1) := rfl
theorem fd_Pages_lay_48 : am_fd mt_Pages_lay.1 48 = (.goto (-45),3,3,0,0,0,.retAddr 0) := rfl
theorem fd_Pages_lay_51 : am_fd mt_Pages_lay.1 51 = (.return_,1,0,0,0,0,.retAddr 0) := rfl
theorem fd_Pages_has_0 : am_fd mt_Pages_has.1 0 = (.iload_n 1,1,1,0,0,0,.retAddr 0) := rfl
theorem fd_Pages_has_1 : am_fd mt_Pages_has.1 1 = (.ifCond .lt 15,3,16,0,0,0,.retAddr 0) := rfl
theorem fd_Pages_has_4 : am_fd mt_Pages_has.1 4 = (.iload_n 1,1,1,0,0,0,.retAddr 0) := rfl
theorem fd_Pages_has_5 : am_fd mt_Pages_has.1 5 = (.aload_n 0,1,0,0,0,0,.retAddr 0) := rfl
theorem fd_Pages_has_6 : am_fd mt_Pages_has.1 6 = (.getfield 24,3,0,0,4,4,.retAddr 0) := rfl
theorem fd_Pages_has_9 : am_fd mt_Pages_has.1 9 = (.if_icmp .ge 7,3,16,0,0,0,.retAddr 0) := rfl
theorem fd_Pages_has_12 : am_fd mt_Pages_has.1 12 = (.iconst 1,1,0,0,0,0,.int 1) := rfl
theorem fd_Pages_has_13 : am_fd mt_Pages_has.1 13 = (.goto 4,3,17,0,0,0,.retAddr 0) := rfl
theorem fd_Pages_has_16 : am_fd mt_Pages_has.1 16 = (.iconst 0,1,0,0,0,0,.int 0) := rfl
theorem fd_Pages_has_17 : am_fd mt_Pages_has.1 17 = (.ireturn,1,1,0,0,0,.retAddr 0) := rfl
theorem fd_Pages_checkSum_0 : am_fd mt_Pages_checkSum.1 0 = (.aload_n 0,1,0,0,0,0,.retAddr 0) := rfl
theorem fd_Pages_checkSum_1 : am_fd mt_Pages_checkSum.1 1 = (.iload_n 1,1,1,0,0,0,.retAddr 0) := rfl
theorem fd_Pages_checkSum_2 : am_fd mt_Pages_checkSum.1 2 = (.invokevirtual 35,3,19,2,4,0,.retAddr 0) := rfl
theorem fd_Pages_checkSum_5 : am_fd mt_Pages_checkSum.1 5 = (.ifCond .ne 4,3,9,0,0,0,.retAddr 0) := rfl
theorem fd_Pages_checkSum_8 : am_fd mt_Pages_checkSum.1 8 = (.return_,1,0,0,0,0,.retAddr 0) := rfl
theorem fd_Pages_checkSum_9 : am_fd mt_Pages_checkSum.1 9 = (.aload_n 0,1,0,0,0,0,.retAddr 0) := rfl
theorem fd_Pages_checkSum_10 : am_fd mt_Pages_checkSum.1 10 = (.getfield 27,3,1,2,4,4,.retAddr 0) := rfl
theorem fd_Pages_checkSum_13 : am_fd mt_Pages_checkSum.1 13 = (.iload_n 1,1,1,0,0,0,.retAddr 0) := rfl
theorem fd_Pages_checkSum_14 : am_fd mt_Pages_checkSum.1 14 = (.sipush 128,3,0,0,0,0,.int 128) := rfl
theorem fd_Pages_checkSum_17 : am_fd mt_Pages_checkSum.1 17 = (.imul,1,0,0,0,0,.retAddr 0) := rfl
theorem fd_Pages_checkSum_18 : am_fd mt_Pages_checkSum.1 18 = (.iload_n 1,1,1,0,0,0,.retAddr 0) := rfl
theorem fd_Pages_checkSum_19 : am_fd mt_Pages_checkSum.1 19 = (.invokestatic 68,3,17,3,0,0,.retAddr 0) := rfl
theorem fd_Pages_checkSum_22 : am_fd mt_Pages_checkSum.1 22 = (.lstore_n 2,1,2,0,0,0,.retAddr 0) := rfl
theorem fd_Pages_checkSum_23 : am_fd mt_Pages_checkSum.1 23 = (.iconst 1,1,0,0,0,0,.int 1) := rfl
theorem fd_Pages_checkSum_24 : am_fd mt_Pages_checkSum.1 24 = (.istore 4,2,4,0,0,0,.retAddr 0) := rfl
theorem fd_Pages_checkSum_26 : am_fd mt_Pages_checkSum.1 26 = (.iconst 0,1,0,0,0,0,.int 0) := rfl
theorem fd_Pages_checkSum_27 : am_fd mt_Pages_checkSum.1 27 = (.istore 5,2,5,0,0,0,.retAddr 0) := rfl
theorem fd_Pages_checkSum_29 : am_fd mt_Pages_checkSum.1 29 = (.iload 5,2,5,0,0,0,.retAddr 0) := rfl
theorem fd_Pages_checkSum_31 : am_fd mt_Pages_checkSum.1 31 = (.bipush 8,2,0,0,0,0,.int 8) := rfl
theorem fd_Pages_checkSum_33 : am_fd mt_Pages_checkSum.1 33 = (.if_icmp .ge 50,3,83,0,0,0,.retAddr 0) := rfl
theorem fd_Pages_checkSum_36 : am_fd mt_Pages_checkSum.1 36 = (.iload 4,2,4,0,0,0,.retAddr 0) := rfl
theorem fd_Pages_checkSum_38 : am_fd mt_Pages_checkSum.1 38 = (.aload_n 0,1,0,0,0,0,.retAddr 0) := rfl
theorem fd_Pages_checkSum_39 : am_fd mt_Pages_checkSum.1 39 = (.getfield 27,3,1,2,4,4,.retAddr 0) := rfl
theorem fd_Pages_checkSum_42 : am_fd mt_Pages_checkSum.1 42 = (.iload_n 1,1,1,0,0,0,.retAddr 0) := rfl
theorem fd_Pages_checkSum_43 : am_fd mt_Pages_checkSum.1 43 = (.sipush 128,3,0,0,0,0,.int 128) := rfl
theorem fd_Pages_checkSum_46 : am_fd mt_Pages_checkSum.1 46 = (.imul,1,0,0,0,0,.retAddr 0) := rfl
theorem fd_Pages_checkSum_47 : am_fd mt_Pages_checkSum.1 47 = (.bipush 120,2,0,0,0,0,.int 120) := rfl
theorem fd_Pages_checkSum_49 : am_fd mt_Pages_checkSum.1 49 = (.iadd,1,0,0,0,0,.retAddr 0) := rfl
theorem fd_Pages_checkSum_50 : am_fd mt_Pages_checkSum.1 50 = (.iload 5,2,5,0,0,0,.retAddr 0) := rfl
theorem fd_Pages_checkSum_52 : am_fd mt_Pages_checkSum.1 52 = (.iadd,1,0,0,0,0,.retAddr 0) := rfl
theorem fd_Pages_checkSum_53 : am_fd mt_Pages_checkSum.1 53 = (.baload,1,0,0,0,0,.retAddr 0) := rfl
theorem fd_Pages_checkSum_54 : am_fd mt_Pages_checkSum.1 54 = (.lload_n 2,1,2,0,0,0,.retAddr 0) := rfl
theorem fd_Pages_checkSum_55 : am_fd mt_Pages_checkSum.1 55 = (.bipush 56,2,0,0,0,0,.int 56) := rfl
theorem fd_Pages_checkSum_57 : am_fd mt_Pages_checkSum.1 57 = (.bipush 8,2,0,0,0,0,.int 8) := rfl
theorem fd_Pages_checkSum_59 : am_fd mt_Pages_checkSum.1 59 = (.iload 5,2,5,0,0,0,.retAddr 0) := rfl
theorem fd_Pages_checkSum_61 : am_fd mt_Pages_checkSum.1 61 = (.imul,1,0,0,0,0,.retAddr 0) := rfl
theorem fd_Pages_checkSum_62 : am_fd mt_Pages_checkSum.1 62 = (.isub,1,0,0,0,0,.retAddr 0) := rfl
theorem fd_Pages_checkSum_63 : am_fd mt_Pages_checkSum.1 63 = (.lushr,1,0,0,0,0,.retAddr 0) := rfl
theorem fd_Pages_checkSum_64 : am_fd mt_Pages_checkSum.1 64 = (.l2i,1,0,0,0,0,.retAddr 0) := rfl
theorem fd_Pages_checkSum_65 : am_fd mt_Pages_checkSum.1 65 = (.i2b,1,0,0,0,0,.retAddr 0) := rfl
theorem fd_Pages_checkSum_66 : am_fd mt_Pages_checkSum.1 66 = (.if_icmp .ne 7,3,73,0,0,0,.retAddr 0) := rfl
theorem fd_Pages_checkSum_69 : am_fd mt_Pages_checkSum.1 69 = (.iconst 1,1,0,0,0,0,.int 1) := rfl
theorem fd_Pages_checkSum_70 : am_fd mt_Pages_checkSum.1 70 = (.goto 4,3,74,0,0,0,.retAddr 0) := rfl
theorem fd_Pages_checkSum_73 : am_fd mt_Pages_checkSum.1 73 = (.iconst 0,1,0,0,0,0,.int 0) := rfl
theorem fd_Pages_checkSum_74 : am_fd mt_Pages_checkSum.1 74 = (.iand,1,0,0,0,0,.retAddr 0) := rfl
theorem fd_Pages_checkSum_75 : am_fd mt_Pages_checkSum.1 75 = (.istore 4,2,4,0,0,0,.retAddr 0) := rfl
theorem fd_Pages_checkSum_77 : am_fd mt_Pages_checkSum.1 77 = (.iinc 5 1,3,5,0,0,0,.int 1) := rfl
theorem fd_Pages_checkSum_80 : am_fd mt_Pages_checkSum.1 80 = (.goto (-51),3,29,0,0,0,.retAddr 0) := rfl
theorem fd_Pages_checkSum_83 : am_fd mt_Pages_checkSum.1 83 = (.aload_n 0,1,0,0,0,0,.retAddr 0) := rfl
theorem fd_Pages_checkSum_84 : am_fd mt_Pages_checkSum.1 84 = (.getfield 31,3,2,2,4,4,.retAddr 0) := rfl
theorem fd_Pages_checkSum_87 : am_fd mt_Pages_checkSum.1 87 = (.iload_n 1,1,1,0,0,0,.retAddr 0) := rfl
theorem fd_Pages_checkSum_88 : am_fd mt_Pages_checkSum.1 88 = (.iload 4,2,4,0,0,0,.retAddr 0) := rfl
theorem fd_Pages_checkSum_90 : am_fd mt_Pages_checkSum.1 90 = (.bastore,1,0,0,0,0,.retAddr 0) := rfl
theorem fd_Pages_checkSum_91 : am_fd mt_Pages_checkSum.1 91 = (.return_,1,0,0,0,0,.retAddr 0) := rfl
theorem fd_SR_state_0 : am_fd mt_SR_state.1 0 = (.aload_n 0,1,0,0,0,0,.retAddr 0) := rfl
theorem fd_SR_state_1 : am_fd mt_SR_state.1 1 = (.getfield 58,3,14,0,1,1,.retAddr 0) := rfl
theorem fd_SR_state_4 : am_fd mt_SR_state.1 4 = (.ireturn,1,0,0,0,0,.retAddr 0) := rfl
theorem fd_SR_badAt_0 : am_fd mt_SR_badAt.1 0 = (.aload_n 0,1,0,0,0,0,.retAddr 0) := rfl
theorem fd_SR_badAt_1 : am_fd mt_SR_badAt.1 1 = (.getfield 61,3,15,0,1,1,.retAddr 0) := rfl
theorem fd_SR_badAt_4 : am_fd mt_SR_badAt.1 4 = (.ifCond .eq 5,3,9,0,0,0,.retAddr 0) := rfl
theorem fd_SR_badAt_7 : am_fd mt_SR_badAt.1 7 = (.iconst (-1),1,0,0,0,0,.int (-1)) := rfl
theorem fd_SR_badAt_8 : am_fd mt_SR_badAt.1 8 = (.ireturn,1,0,0,0,0,.retAddr 0) := rfl
theorem fd_SR_badAt_9 : am_fd mt_SR_badAt.1 9 = (.aload_n 0,1,0,0,0,0,.retAddr 0) := rfl
theorem fd_SR_badAt_10 : am_fd mt_SR_badAt.1 10 = (.getfield 52,3,12,0,1,1,.retAddr 0) := rfl
theorem fd_SR_badAt_13 : am_fd mt_SR_badAt.1 13 = (.iconst 1,1,0,0,0,0,.int 1) := rfl
theorem fd_SR_badAt_14 : am_fd mt_SR_badAt.1 14 = (.iand,1,0,0,0,0,.retAddr 0) := rfl
theorem fd_SR_badAt_15 : am_fd mt_SR_badAt.1 15 = (.istore_n 1,1,1,0,0,0,.retAddr 0) := rfl
theorem fd_SR_badAt_16 : am_fd mt_SR_badAt.1 16 = (.aload_n 0,1,0,0,0,0,.retAddr 0) := rfl
theorem fd_SR_badAt_17 : am_fd mt_SR_badAt.1 17 = (.getfield 79,3,0,2,1,1,.retAddr 0) := rfl
theorem fd_SR_badAt_20 : am_fd mt_SR_badAt.1 20 = (.iload_n 1,1,1,0,0,0,.retAddr 0) := rfl
theorem fd_SR_badAt_21 : am_fd mt_SR_badAt.1 21 = (.invokevirtual 418,3,23,2,4,0,.retAddr 0) := rfl
theorem fd_SR_badAt_24 : am_fd mt_SR_badAt.1 24 = (.ifCond .eq 9,3,33,0,0,0,.retAddr 0) := rfl
theorem fd_SR_badAt_27 : am_fd mt_SR_badAt.1 27 = (.sipush 1024,3,0,0,0,0,.int 1024) := rfl
theorem fd_SR_badAt_30 : am_fd mt_SR_badAt.1 30 = (.goto 4,3,34,0,0,0,.retAddr 0) := rfl
theorem fd_SR_badAt_33 : am_fd mt_SR_badAt.1 33 = (.iload_n 1,1,1,0,0,0,.retAddr 0) := rfl
theorem fd_SR_badAt_34 : am_fd mt_SR_badAt.1 34 = (.istore_n 2,1,2,0,0,0,.retAddr 0) := rfl
theorem fd_SR_badAt_35 : am_fd mt_SR_badAt.1 35 = (.iload_n 2,1,2,0,0,0,.retAddr 0) := rfl
theorem fd_SR_badAt_36 : am_fd mt_SR_badAt.1 36 = (.aload_n 0,1,0,0,0,0,.retAddr 0) := rfl
theorem fd_SR_badAt_37 : am_fd mt_SR_badAt.1 37 = (.aload_n 0,1,0,0,0,0,.retAddr 0) := rfl
theorem fd_SR_badAt_38 : am_fd mt_SR_badAt.1 38 = (.getfield 19,3,3,2,1,1,.retAddr 0) := rfl
theorem fd_SR_badAt_41 : am_fd mt_SR_badAt.1 41 = (.invokevirtual 429,3,24,2,1,0,.retAddr 0) := rfl
theorem fd_SR_badAt_44 : am_fd mt_SR_badAt.1 44 = (.invokestatic 65,3,0,0,2,0,.retAddr 0) := rfl
theorem fd_SR_badAt_47 : am_fd mt_SR_badAt.1 47 = (.istore_n 2,1,2,0,0,0,.retAddr 0) := rfl
theorem fd_SR_badAt_48 : am_fd mt_SR_badAt.1 48 = (.iconst 0,1,0,0,0,0,.int 0) := rfl
theorem fd_SR_badAt_49 : am_fd mt_SR_badAt.1 49 = (.istore_n 3,1,3,0,0,0,.retAddr 0) := rfl
theorem fd_SR_badAt_50 : am_fd mt_SR_badAt.1 50 = (.iload_n 3,1,3,0,0,0,.retAddr 0) := rfl
theorem fd_SR_badAt_51 : am_fd mt_SR_badAt.1 51 = (.bipush 8,2,0,0,0,0,.int 8) := rfl
theorem fd_SR_badAt_53 : am_fd mt_SR_badAt.1 53 = (.if_icmp .ge 24,3,77,0,0,0,.retAddr 0) := rfl
theorem fd_SR_badAt_56 : am_fd mt_SR_badAt.1 56 = (.iload_n 2,1,2,0,0,0,.retAddr 0) := rfl
theorem fd_SR_badAt_57 : am_fd mt_SR_badAt.1 57 = (.aload_n 0,1,0,0,0,0,.retAddr 0) := rfl
theorem fd_SR_badAt_58 : am_fd mt_SR_badAt.1 58 = (.aload_n 0,1,0,0,0,0,.retAddr 0) := rfl
theorem fd_SR_badAt_59 : am_fd mt_SR_badAt.1 59 = (.getfield 23,3,4,2,1,1,.retAddr 0) := rfl
theorem fd_SR_badAt_62 : am_fd mt_SR_badAt.1 62 = (.iload_n 3,1,3,0,0,0,.retAddr 0) := rfl
theorem fd_SR_badAt_63 : am_fd mt_SR_badAt.1 63 = (.aaload,1,0,0,0,0,.retAddr 0) := rfl
theorem fd_SR_badAt_64 : am_fd mt_SR_badAt.1 64 = (.invokevirtual 429,3,24,2,1,0,.retAddr 0) := rfl
theorem fd_SR_badAt_67 : am_fd mt_SR_badAt.1 67 = (.invokestatic 65,3,0,0,2,0,.retAddr 0) := rfl
theorem fd_SR_badAt_70 : am_fd mt_SR_badAt.1 70 = (.istore_n 2,1,2,0,0,0,.retAddr 0) := rfl
theorem fd_SR_badAt_71 : am_fd mt_SR_badAt.1 71 = (.iinc 3 1,3,3,0,0,0,.int 1) := rfl
theorem fd_SR_badAt_74 : am_fd mt_SR_badAt.1 74 = (.goto (-24),3,50,0,0,0,.retAddr 0) := rfl
theorem fd_SR_badAt_77 : am_fd mt_SR_badAt.1 77 = (.iload_n 2,1,2,0,0,0,.retAddr 0) := rfl
theorem fd_SR_badAt_78 : am_fd mt_SR_badAt.1 78 = (.sipush 1024,3,0,0,0,0,.int 1024) := rfl
theorem fd_SR_badAt_81 : am_fd mt_SR_badAt.1 81 = (.if_icmp .ne 7,3,88,0,0,0,.retAddr 0) := rfl
theorem fd_SR_badAt_84 : am_fd mt_SR_badAt.1 84 = (.iconst (-1),1,0,0,0,0,.int (-1)) := rfl
theorem fd_SR_badAt_85 : am_fd mt_SR_badAt.1 85 = (.goto 4,3,89,0,0,0,.retAddr 0) := rfl
theorem fd_SR_badAt_88 : am_fd mt_SR_badAt.1 88 = (.iload_n 2,1,2,0,0,0,.retAddr 0) := rfl
theorem fd_SR_badAt_89 : am_fd mt_SR_badAt.1 89 = (.ireturn,1,0,0,0,0,.retAddr 0) := rfl
theorem fd_Pages_isRight_0 : am_fd mt_Pages_isRight.1 0 = (.aload_n 0,1,0,0,0,0,.retAddr 0) := rfl
theorem fd_Pages_isRight_1 : am_fd mt_Pages_isRight.1 1 = (.iload_n 1,1,1,0,0,0,.retAddr 0) := rfl
theorem fd_Pages_isRight_2 : am_fd mt_Pages_isRight.1 2 = (.invokevirtual 35,3,19,2,4,0,.retAddr 0) := rfl
theorem fd_Pages_isRight_5 : am_fd mt_Pages_isRight.1 5 = (.ifCond .eq 16,3,21,0,0,0,.retAddr 0) := rfl
theorem fd_Pages_isRight_8 : am_fd mt_Pages_isRight.1 8 = (.aload_n 0,1,0,0,0,0,.retAddr 0) := rfl
theorem fd_Pages_isRight_9 : am_fd mt_Pages_isRight.1 9 = (.getfield 31,3,2,2,4,4,.retAddr 0) := rfl
theorem fd_Pages_isRight_12 : am_fd mt_Pages_isRight.1 12 = (.iload_n 1,1,1,0,0,0,.retAddr 0) := rfl
theorem fd_Pages_isRight_13 : am_fd mt_Pages_isRight.1 13 = (.baload,1,0,0,0,0,.retAddr 0) := rfl
theorem fd_Pages_isRight_14 : am_fd mt_Pages_isRight.1 14 = (.ifCond .eq 7,3,21,0,0,0,.retAddr 0) := rfl
theorem fd_Pages_isRight_17 : am_fd mt_Pages_isRight.1 17 = (.iconst 1,1,0,0,0,0,.int 1) := rfl
theorem fd_Pages_isRight_18 : am_fd mt_Pages_isRight.1 18 = (.goto 4,3,22,0,0,0,.retAddr 0) := rfl
theorem fd_Pages_isRight_21 : am_fd mt_Pages_isRight.1 21 = (.iconst 0,1,0,0,0,0,.int 0) := rfl
theorem fd_Pages_isRight_22 : am_fd mt_Pages_isRight.1 22 = (.ireturn,1,1,0,0,0,.retAddr 0) := rfl
theorem fd_SR_leastWrong_0 : am_fd mt_SR_leastWrong.1 0 = (.sipush 1024,3,0,0,0,0,.int 1024) := rfl
theorem fd_SR_leastWrong_3 : am_fd mt_SR_leastWrong.1 3 = (.istore_n 2,1,2,0,0,0,.retAddr 0) := rfl
theorem fd_SR_leastWrong_4 : am_fd mt_SR_leastWrong.1 4 = (.iconst 0,1,0,0,0,0,.int 0) := rfl
theorem fd_SR_leastWrong_5 : am_fd mt_SR_leastWrong.1 5 = (.istore_n 3,1,3,0,0,0,.retAddr 0) := rfl
theorem fd_SR_leastWrong_6 : am_fd mt_SR_leastWrong.1 6 = (.iload_n 3,1,3,0,0,0,.retAddr 0) := rfl
theorem fd_SR_leastWrong_7 : am_fd mt_SR_leastWrong.1 7 = (.aload_n 1,1,1,0,0,0,.retAddr 0) := rfl
theorem fd_SR_leastWrong_8 : am_fd mt_SR_leastWrong.1 8 = (.getfield 243,3,1,0,6,6,.retAddr 0) := rfl
theorem fd_SR_leastWrong_11 : am_fd mt_SR_leastWrong.1 11 = (.if_icmp .ge 79,3,90,0,0,0,.retAddr 0) := rfl
theorem fd_SR_leastWrong_14 : am_fd mt_SR_leastWrong.1 14 = (.iload_n 3,1,3,0,0,0,.retAddr 0) := rfl
theorem fd_SR_leastWrong_15 : am_fd mt_SR_leastWrong.1 15 = (.bipush 9,2,0,0,0,0,.int 9) := rfl
theorem fd_SR_leastWrong_17 : am_fd mt_SR_leastWrong.1 17 = (.if_icmp .ge 73,3,90,0,0,0,.retAddr 0) := rfl
theorem fd_SR_leastWrong_20 : am_fd mt_SR_leastWrong.1 20 = (.aload_n 1,1,1,0,0,0,.retAddr 0) := rfl
theorem fd_SR_leastWrong_21 : am_fd mt_SR_leastWrong.1 21 = (.getfield 167,3,0,2,6,6,.retAddr 0) := rfl
theorem fd_SR_leastWrong_24 : am_fd mt_SR_leastWrong.1 24 = (.iload_n 3,1,3,0,0,0,.retAddr 0) := rfl
theorem fd_SR_leastWrong_25 : am_fd mt_SR_leastWrong.1 25 = (.aaload,1,0,0,0,0,.retAddr 0) := rfl
theorem fd_SR_leastWrong_26 : am_fd mt_SR_leastWrong.1 26 = (.getfield 224,3,3,0,5,5,.retAddr 0) := rfl
theorem fd_SR_leastWrong_29 : am_fd mt_SR_leastWrong.1 29 = (.istore 4,2,4,0,0,0,.retAddr 0) := rfl
theorem fd_SR_leastWrong_31 : am_fd mt_SR_leastWrong.1 31 = (.iconst 0,1,0,0,0,0,.int 0) := rfl
theorem fd_SR_leastWrong_32 : am_fd mt_SR_leastWrong.1 32 = (.istore 5,2,5,0,0,0,.retAddr 0) := rfl
theorem fd_SR_leastWrong_34 : am_fd mt_SR_leastWrong.1 34 = (.iload 5,2,5,0,0,0,.retAddr 0) := rfl
theorem fd_SR_leastWrong_36 : am_fd mt_SR_leastWrong.1 36 = (.aload_n 1,1,1,0,0,0,.retAddr 0) := rfl
theorem fd_SR_leastWrong_37 : am_fd mt_SR_leastWrong.1 37 = (.getfield 167,3,0,2,6,6,.retAddr 0) := rfl
theorem fd_SR_leastWrong_40 : am_fd mt_SR_leastWrong.1 40 = (.iload_n 3,1,3,0,0,0,.retAddr 0) := rfl
theorem fd_SR_leastWrong_41 : am_fd mt_SR_leastWrong.1 41 = (.aaload,1,0,0,0,0,.retAddr 0) := rfl
theorem fd_SR_leastWrong_42 : am_fd mt_SR_leastWrong.1 42 = (.getfield 227,3,4,0,5,5,.retAddr 0) := rfl
theorem fd_SR_leastWrong_45 : am_fd mt_SR_leastWrong.1 45 = (.if_icmp .ge 39,3,84,0,0,0,.retAddr 0) := rfl
theorem fd_SR_leastWrong_48 : am_fd mt_SR_leastWrong.1 48 = (.aload_n 0,1,0,0,0,0,.retAddr 0) := rfl
theorem fd_SR_leastWrong_49 : am_fd mt_SR_leastWrong.1 49 = (.getfield 79,3,0,2,1,1,.retAddr 0) := rfl
theorem fd_SR_leastWrong_52 : am_fd mt_SR_leastWrong.1 52 = (.iload 4,2,4,0,0,0,.retAddr 0) := rfl
theorem fd_SR_leastWrong_54 : am_fd mt_SR_leastWrong.1 54 = (.invokevirtual 418,3,23,2,4,0,.retAddr 0) := rfl
theorem fd_SR_leastWrong_57 : am_fd mt_SR_leastWrong.1 57 = (.ifCond .ne 10,3,67,0,0,0,.retAddr 0) := rfl
theorem fd_SR_leastWrong_60 : am_fd mt_SR_leastWrong.1 60 = (.iload_n 2,1,2,0,0,0,.retAddr 0) := rfl
theorem fd_SR_leastWrong_61 : am_fd mt_SR_leastWrong.1 61 = (.iload 4,2,4,0,0,0,.retAddr 0) := rfl
theorem fd_SR_leastWrong_63 : am_fd mt_SR_leastWrong.1 63 = (.invokestatic 65,3,0,0,2,0,.retAddr 0) := rfl
theorem fd_SR_leastWrong_66 : am_fd mt_SR_leastWrong.1 66 = (.istore_n 2,1,2,0,0,0,.retAddr 0) := rfl
theorem fd_SR_leastWrong_67 : am_fd mt_SR_leastWrong.1 67 = (.aload_n 0,1,0,0,0,0,.retAddr 0) := rfl
theorem fd_SR_leastWrong_68 : am_fd mt_SR_leastWrong.1 68 = (.getfield 86,3,1,2,1,1,.retAddr 0) := rfl
theorem fd_SR_leastWrong_71 : am_fd mt_SR_leastWrong.1 71 = (.iload 4,2,4,0,0,0,.retAddr 0) := rfl
theorem fd_SR_leastWrong_73 : am_fd mt_SR_leastWrong.1 73 = (.invokevirtual 233,3,25,2,9,0,.retAddr 0) := rfl
theorem fd_SR_leastWrong_76 : am_fd mt_SR_leastWrong.1 76 = (.istore 4,2,4,0,0,0,.retAddr 0) := rfl
theorem fd_SR_leastWrong_78 : am_fd mt_SR_leastWrong.1 78 = (.iinc 5 1,3,5,0,0,0,.int 1) := rfl
theorem fd_SR_leastWrong_81 : am_fd mt_SR_leastWrong.1 81 = (.goto (-47),3,34,0,0,0,.retAddr 0) := rfl
theorem fd_SR_leastWrong_84 : am_fd mt_SR_leastWrong.1 84 = (.iinc 3 1,3,3,0,0,0,.int 1) := rfl
theorem fd_SR_leastWrong_87 : am_fd mt_SR_leastWrong.1 87 = (.goto (-81),3,6,0,0,0,.retAddr 0) := rfl
theorem fd_SR_leastWrong_90 : am_fd mt_SR_leastWrong.1 90 = (.iload_n 2,1,2,0,0,0,.retAddr 0) := rfl
theorem fd_SR_leastWrong_91 : am_fd mt_SR_leastWrong.1 91 = (.ireturn,1,0,0,0,0,.retAddr 0) := rfl
theorem fd_Space_after_0 : am_fd mt_Space_after.1 0 = (.aload_n 0,1,0,0,0,0,.retAddr 0) := rfl
theorem fd_Space_after_1 : am_fd mt_Space_after.1 1 = (.iload_n 1,1,1,0,0,0,.retAddr 0) := rfl
theorem fd_Space_after_2 : am_fd mt_Space_after.1 2 = (.invokevirtual 35,3,26,2,9,0,.retAddr 0) := rfl
theorem fd_Space_after_5 : am_fd mt_Space_after.1 5 = (.ifCond .eq 12,3,17,0,0,0,.retAddr 0) := rfl
theorem fd_Space_after_8 : am_fd mt_Space_after.1 8 = (.aload_n 0,1,0,0,0,0,.retAddr 0) := rfl
theorem fd_Space_after_9 : am_fd mt_Space_after.1 9 = (.getfield 19,3,2,2,9,9,.retAddr 0) := rfl
theorem fd_Space_after_12 : am_fd mt_Space_after.1 12 = (.iload_n 1,1,1,0,0,0,.retAddr 0) := rfl
theorem fd_Space_after_13 : am_fd mt_Space_after.1 13 = (.iaload,1,0,0,0,0,.retAddr 0) := rfl
theorem fd_Space_after_14 : am_fd mt_Space_after.1 14 = (.goto 4,3,18,0,0,0,.retAddr 0) := rfl
theorem fd_Space_after_17 : am_fd mt_Space_after.1 17 = (.iconst 0,1,0,0,0,0,.int 0) := rfl
theorem fd_Space_after_18 : am_fd mt_Space_after.1 18 = (.ireturn,1,0,0,0,0,.retAddr 0) := rfl
theorem fd_Space_has_0 : am_fd mt_Space_has.1 0 = (.iload_n 1,1,1,0,0,0,.retAddr 0) := rfl
theorem fd_Space_has_1 : am_fd mt_Space_has.1 1 = (.iconst 2,1,0,0,0,0,.int 2) := rfl
theorem fd_Space_has_2 : am_fd mt_Space_has.1 2 = (.if_icmp .lt 15,3,17,0,0,0,.retAddr 0) := rfl
theorem fd_Space_has_5 : am_fd mt_Space_has.1 5 = (.iload_n 1,1,1,0,0,0,.retAddr 0) := rfl
theorem fd_Space_has_6 : am_fd mt_Space_has.1 6 = (.aload_n 0,1,0,0,0,0,.retAddr 0) := rfl
theorem fd_Space_has_7 : am_fd mt_Space_has.1 7 = (.getfield 9,3,0,0,9,9,.retAddr 0) := rfl
theorem fd_Space_has_10 : am_fd mt_Space_has.1 10 = (.if_icmp .ge 7,3,17,0,0,0,.retAddr 0) := rfl
theorem fd_Space_has_13 : am_fd mt_Space_has.1 13 = (.iconst 1,1,0,0,0,0,.int 1) := rfl
theorem fd_Space_has_14 : am_fd mt_Space_has.1 14 = (.goto 4,3,18,0,0,0,.retAddr 0) := rfl
theorem fd_Space_has_17 : am_fd mt_Space_has.1 17 = (.iconst 0,1,0,0,0,0,.int 0) := rfl
theorem fd_Space_has_18 : am_fd mt_Space_has.1 18 = (.ireturn,1,1,0,0,0,.retAddr 0) := rfl
theorem fd_SR_down_0 : am_fd mt_SR_down.1 0 = (.aload_n 0,1,0,0,0,0,.retAddr 0) := rfl
theorem fd_SR_down_1 : am_fd mt_SR_down.1 1 = (.getfield 61,3,15,0,1,1,.retAddr 0) := rfl
theorem fd_SR_down_4 : am_fd mt_SR_down.1 4 = (.ifCond .eq 5,3,9,0,0,0,.retAddr 0) := rfl
theorem fd_SR_down_7 : am_fd mt_SR_down.1 7 = (.iconst 0,1,0,0,0,0,.int 0) := rfl
theorem fd_SR_down_8 : am_fd mt_SR_down.1 8 = (.ireturn,1,1,0,0,0,.retAddr 0) := rfl
theorem fd_SR_down_9 : am_fd mt_SR_down.1 9 = (.aload_n 0,1,0,0,0,0,.retAddr 0) := rfl
theorem fd_SR_down_10 : am_fd mt_SR_down.1 10 = (.invokevirtual 301,3,28,1,1,0,.retAddr 0) := rfl
theorem fd_SR_down_13 : am_fd mt_SR_down.1 13 = (.iconst 1,1,0,0,0,0,.int 1) := rfl
theorem fd_SR_down_14 : am_fd mt_SR_down.1 14 = (.ireturn,1,1,0,0,0,.retAddr 0) := rfl
theorem fd_SR_goDown_0 : am_fd mt_SR_goDown.1 0 = (.aload_n 0,1,0,0,0,0,.retAddr 0) := rfl
theorem fd_SR_goDown_1 : am_fd mt_SR_goDown.1 1 = (.iconst 1,1,0,0,0,0,.int 1) := rfl
theorem fd_SR_goDown_2 : am_fd mt_SR_goDown.1 2 = (.putfield 61,3,15,3,1,1,.retAddr 0) := rfl
theorem fd_SR_goDown_5 : am_fd mt_SR_goDown.1 5 = (.aload_n 0,1,0,0,0,0,.retAddr 0) := rfl
theorem fd_SR_goDown_6 : am_fd mt_SR_goDown.1 6 = (.getfield 10,3,2,2,1,1,.retAddr 0) := rfl
theorem fd_SR_goDown_9 : am_fd mt_SR_goDown.1 9 = (.iconst 0,1,0,0,0,0,.int 0) := rfl
theorem fd_SR_goDown_10 : am_fd mt_SR_goDown.1 10 = (.putfield 143,3,4,0,10,10,.retAddr 0) := rfl
theorem fd_SR_goDown_13 : am_fd mt_SR_goDown.1 13 = (.aload_n 0,1,0,0,0,0,.retAddr 0) := rfl
theorem fd_SR_goDown_14 : am_fd mt_SR_goDown.1 14 = (.getfield 19,3,3,2,1,1,.retAddr 0) := rfl
theorem fd_SR_goDown_17 : am_fd mt_SR_goDown.1 17 = (.invokevirtual 330,3,29,1,6,0,.retAddr 0) := rfl
theorem fd_SR_goDown_20 : am_fd mt_SR_goDown.1 20 = (.iconst 0,1,0,0,0,0,.int 0) := rfl
theorem fd_SR_goDown_21 : am_fd mt_SR_goDown.1 21 = (.istore_n 1,1,1,0,0,0,.retAddr 0) := rfl
theorem fd_SR_goDown_22 : am_fd mt_SR_goDown.1 22 = (.iload_n 1,1,1,0,0,0,.retAddr 0) := rfl
theorem fd_SR_goDown_23 : am_fd mt_SR_goDown.1 23 = (.bipush 8,2,0,0,0,0,.int 8) := rfl
theorem fd_SR_goDown_25 : am_fd mt_SR_goDown.1 25 = (.if_icmp .ge 18,3,43,0,0,0,.retAddr 0) := rfl
theorem fd_SR_goDown_28 : am_fd mt_SR_goDown.1 28 = (.aload_n 0,1,0,0,0,0,.retAddr 0) := rfl
theorem fd_SR_goDown_29 : am_fd mt_SR_goDown.1 29 = (.getfield 23,3,4,2,1,1,.retAddr 0) := rfl
theorem fd_SR_goDown_32 : am_fd mt_SR_goDown.1 32 = (.iload_n 1,1,1,0,0,0,.retAddr 0) := rfl
theorem fd_SR_goDown_33 : am_fd mt_SR_goDown.1 33 = (.aaload,1,0,0,0,0,.retAddr 0) := rfl
theorem fd_SR_goDown_34 : am_fd mt_SR_goDown.1 34 = (.invokevirtual 330,3,29,1,6,0,.retAddr 0) := rfl
theorem fd_SR_goDown_37 : am_fd mt_SR_goDown.1 37 = (.iinc 1 1,3,1,0,0,0,.int 1) := rfl
theorem fd_SR_goDown_40 : am_fd mt_SR_goDown.1 40 = (.goto (-18),3,22,0,0,0,.retAddr 0) := rfl
theorem fd_SR_goDown_43 : am_fd mt_SR_goDown.1 43 = (.aload_n 0,1,0,0,0,0,.retAddr 0) := rfl
theorem fd_SR_goDown_44 : am_fd mt_SR_goDown.1 44 = (.getfield 86,3,1,2,1,1,.retAddr 0) := rfl
theorem fd_SR_goDown_47 : am_fd mt_SR_goDown.1 47 = (.invokevirtual 441,3,30,1,9,0,.retAddr 0) := rfl
theorem fd_SR_goDown_50 : am_fd mt_SR_goDown.1 50 = (.return_,1,0,0,0,0,.retAddr 0) := rfl
theorem fd_RunList_forget_0 : am_fd mt_RunList_forget.1 0 = (.aload_n 0,1,0,0,0,0,.retAddr 0) := rfl
theorem fd_RunList_forget_1 : am_fd mt_RunList_forget.1 1 = (.iconst 0,1,0,0,0,0,.int 0) := rfl
theorem fd_RunList_forget_2 : am_fd mt_RunList_forget.1 2 = (.putfield 21,3,2,3,6,6,.retAddr 0) := rfl
theorem fd_RunList_forget_5 : am_fd mt_RunList_forget.1 5 = (.aload_n 0,1,0,0,0,0,.retAddr 0) := rfl
theorem fd_RunList_forget_6 : am_fd mt_RunList_forget.1 6 = (.iconst 0,1,0,0,0,0,.int 0) := rfl
theorem fd_RunList_forget_7 : am_fd mt_RunList_forget.1 7 = (.putfield 17,3,1,0,6,6,.retAddr 0) := rfl
theorem fd_RunList_forget_10 : am_fd mt_RunList_forget.1 10 = (.return_,1,0,0,0,0,.retAddr 0) := rfl
theorem fd_Space_clear_0 : am_fd mt_Space_clear.1 0 = (.iconst 0,1,0,0,0,0,.int 0) := rfl
theorem fd_Space_clear_1 : am_fd mt_Space_clear.1 1 = (.istore_n 1,1,1,0,0,0,.retAddr 0) := rfl
theorem fd_Space_clear_2 : am_fd mt_Space_clear.1 2 = (.iload_n 1,1,1,0,0,0,.retAddr 0) := rfl
theorem fd_Space_clear_3 : am_fd mt_Space_clear.1 3 = (.aload_n 0,1,0,0,0,0,.retAddr 0) := rfl
theorem fd_Space_clear_4 : am_fd mt_Space_clear.1 4 = (.getfield 9,3,0,0,9,9,.retAddr 0) := rfl
theorem fd_Space_clear_7 : am_fd mt_Space_clear.1 7 = (.if_icmp .ge 16,3,23,0,0,0,.retAddr 0) := rfl
theorem fd_Space_clear_10 : am_fd mt_Space_clear.1 10 = (.aload_n 0,1,0,0,0,0,.retAddr 0) := rfl
theorem fd_Space_clear_11 : am_fd mt_Space_clear.1 11 = (.getfield 15,3,1,2,9,9,.retAddr 0) := rfl
theorem fd_Space_clear_14 : am_fd mt_Space_clear.1 14 = (.iload_n 1,1,1,0,0,0,.retAddr 0) := rfl
theorem fd_Space_clear_15 : am_fd mt_Space_clear.1 15 = (.iconst 0,1,0,0,0,0,.int 0) := rfl
theorem fd_Space_clear_16 : am_fd mt_Space_clear.1 16 = (.iastore,1,0,0,0,0,.retAddr 0) := rfl
theorem fd_Space_clear_17 : am_fd mt_Space_clear.1 17 = (.iinc 1 1,3,1,0,0,0,.int 1) := rfl
theorem fd_Space_clear_20 : am_fd mt_Space_clear.1 20 = (.goto (-18),3,2,0,0,0,.retAddr 0) := rfl
theorem fd_Space_clear_23 : am_fd mt_Space_clear.1 23 = (.aload_n 0,1,0,0,0,0,.retAddr 0) := rfl
theorem fd_Space_clear_24 : am_fd mt_Space_clear.1 24 = (.aload_n 0,1,0,0,0,0,.retAddr 0) := rfl
theorem fd_Space_clear_25 : am_fd mt_Space_clear.1 25 = (.getfield 9,3,0,0,9,9,.retAddr 0) := rfl
theorem fd_Space_clear_28 : am_fd mt_Space_clear.1 28 = (.iconst 2,1,0,0,0,0,.int 2) := rfl
theorem fd_Space_clear_29 : am_fd mt_Space_clear.1 29 = (.isub,1,0,0,0,0,.retAddr 0) := rfl
theorem fd_Space_clear_30 : am_fd mt_Space_clear.1 30 = (.putfield 26,3,4,0,9,9,.retAddr 0) := rfl
theorem fd_Space_clear_33 : am_fd mt_Space_clear.1 33 = (.return_,1,0,0,0,0,.retAddr 0) := rfl
theorem fd_La_cell_0 : am_fd mt_La_cell.1 0 = (.iload_n 1,1,1,0,0,0,.retAddr 0) := rfl
theorem fd_La_cell_1 : am_fd mt_La_cell.1 1 = (.aload_n 0,1,0,0,0,0,.retAddr 0) := rfl
theorem fd_La_cell_2 : am_fd mt_La_cell.1 2 = (.arraylength,1,0,0,0,0,.retAddr 0) := rfl
theorem fd_La_cell_3 : am_fd mt_La_cell.1 3 = (.if_icmp .ge 9,3,12,0,0,0,.retAddr 0) := rfl
theorem fd_La_cell_6 : am_fd mt_La_cell.1 6 = (.aload_n 0,1,0,0,0,0,.retAddr 0) := rfl
theorem fd_La_cell_7 : am_fd mt_La_cell.1 7 = (.iload_n 1,1,1,0,0,0,.retAddr 0) := rfl
theorem fd_La_cell_8 : am_fd mt_La_cell.1 8 = (.iaload,1,0,0,0,0,.retAddr 0) := rfl
theorem fd_La_cell_9 : am_fd mt_La_cell.1 9 = (.goto 4,3,13,0,0,0,.retAddr 0) := rfl
theorem fd_La_cell_12 : am_fd mt_La_cell.1 12 = (.iconst 0,1,0,0,0,0,.int 0) := rfl
theorem fd_La_cell_13 : am_fd mt_La_cell.1 13 = (.ireturn,1,0,0,0,0,.retAddr 0) := rfl
theorem fd_SR_put_0 : am_fd mt_SR_put.1 0 = (.aload_n 0,1,0,0,0,0,.retAddr 0) := rfl
theorem fd_SR_put_1 : am_fd mt_SR_put.1 1 = (.lload_n 1,1,1,0,0,0,.retAddr 0) := rfl
theorem fd_SR_put_2 : am_fd mt_SR_put.1 2 = (.iconst 1,1,0,0,0,0,.int 1) := rfl
theorem fd_SR_put_3 : am_fd mt_SR_put.1 3 = (.lload_n 3,1,3,0,0,0,.retAddr 0) := rfl
theorem fd_SR_put_4 : am_fd mt_SR_put.1 4 = (.invokevirtual 121,3,33,4,1,0,.retAddr 0) := rfl
theorem fd_SR_put_7 : am_fd mt_SR_put.1 7 = (.ireturn,1,0,0,0,0,.retAddr 0) := rfl
theorem fd_SR_enterOne_0 : am_fd mt_SR_enterOne.1 0 = (.aload_n 0,1,0,0,0,0,.retAddr 0) := rfl
theorem fd_SR_enterOne_1 : am_fd mt_SR_enterOne.1 1 = (.invokevirtual 125,3,34,1,1,0,.retAddr 0) := rfl
theorem fd_SR_enterOne_4 : am_fd mt_SR_enterOne.1 4 = (.aload_n 0,1,0,0,0,0,.retAddr 0) := rfl
theorem fd_SR_enterOne_5 : am_fd mt_SR_enterOne.1 5 = (.getfield 10,3,2,2,1,1,.retAddr 0) := rfl
theorem fd_SR_enterOne_8 : am_fd mt_SR_enterOne.1 8 = (.lload_n 1,1,1,0,0,0,.retAddr 0) := rfl
theorem fd_SR_enterOne_9 : am_fd mt_SR_enterOne.1 9 = (.invokevirtual 128,3,35,2,10,0,.retAddr 0) := rfl
theorem fd_SR_enterOne_12 : am_fd mt_SR_enterOne.1 12 = (.ifCond .ne 13,3,25,0,0,0,.retAddr 0) := rfl
theorem fd_SR_enterOne_15 : am_fd mt_SR_enterOne.1 15 = (.new 132,3,0,1,2,134,.ref 136) := rfl
theorem fd_SR_enterOne_25 : am_fd mt_SR_enterOne.1 25 = (.aload_n 0,1,0,0,0,0,.retAddr 0) := rfl
theorem fd_SR_enterOne_26 : am_fd mt_SR_enterOne.1 26 = (.getfield 10,3,2,2,1,1,.retAddr 0) := rfl
theorem fd_SR_enterOne_29 : am_fd mt_SR_enterOne.1 29 = (.lload_n 1,1,1,0,0,0,.retAddr 0) := rfl
theorem fd_SR_enterOne_30 : am_fd mt_SR_enterOne.1 30 = (.iload_n 3,1,3,0,0,0,.retAddr 0) := rfl
theorem fd_SR_enterOne_31 : am_fd mt_SR_enterOne.1 31 = (.lload 4,2,4,0,0,0,.retAddr 0) := rfl
theorem fd_SR_enterOne_33 : am_fd mt_SR_enterOne.1 33 = (.invokevirtual 139,3,38,4,10,0,.retAddr 0) := rfl
theorem fd_SR_enterOne_36 : am_fd mt_SR_enterOne.1 36 = (.aload_n 0,1,0,0,0,0,.retAddr 0) := rfl
theorem fd_SR_enterOne_37 : am_fd mt_SR_enterOne.1 37 = (.getfield 10,3,2,2,1,1,.retAddr 0) := rfl
theorem fd_SR_enterOne_40 : am_fd mt_SR_enterOne.1 40 = (.getfield 143,3,4,0,10,10,.retAddr 0) := rfl
theorem fd_SR_enterOne_43 : am_fd mt_SR_enterOne.1 43 = (.ireturn,1,0,0,0,0,.retAddr 0) := rfl
theorem fd_SR_requireUp_0 : am_fd mt_SR_requireUp.1 0 = (.aload_n 0,1,0,0,0,0,.retAddr 0) := rfl
theorem fd_SR_requireUp_1 : am_fd mt_SR_requireUp.1 1 = (.getfield 61,3,15,0,1,1,.retAddr 0) := rfl
theorem fd_SR_requireUp_4 : am_fd mt_SR_requireUp.1 4 = (.ifCond .eq 13,3,17,0,0,0,.retAddr 0) := rfl
theorem fd_SR_requireUp_7 : am_fd mt_SR_requireUp.1 7 = (.new 132,3,0,1,2,146,.ref 136) := rfl
theorem fd_SR_requireUp_17 : am_fd mt_SR_requireUp.1 17 = (.return_,1,0,0,0,0,.retAddr 0) := rfl
theorem fd_Table_hasPlaceFor_0 : am_fd mt_Table_hasPlaceFor.1 0 = (.aload_n 0,1,0,0,0,0,.retAddr 0) := rfl
theorem fd_Table_hasPlaceFor_1 : am_fd mt_Table_hasPlaceFor.1 1 = (.getfield 29,3,4,0,10,10,.retAddr 0) := rfl
theorem fd_Table_hasPlaceFor_4 : am_fd mt_Table_hasPlaceFor.1 4 = (.bipush 64,2,0,0,0,0,.int 64) := rfl
theorem fd_Table_hasPlaceFor_6 : am_fd mt_Table_hasPlaceFor.1 6 = (.if_icmp .lt 16,3,22,0,0,0,.retAddr 0) := rfl
theorem fd_Table_hasPlaceFor_9 : am_fd mt_Table_hasPlaceFor.1 9 = (.aload_n 0,1,0,0,0,0,.retAddr 0) := rfl
theorem fd_Table_hasPlaceFor_10 : am_fd mt_Table_hasPlaceFor.1 10 = (.aload_n 0,1,0,0,0,0,.retAddr 0) := rfl
theorem fd_Table_hasPlaceFor_11 : am_fd mt_Table_hasPlaceFor.1 11 = (.lload_n 1,1,1,0,0,0,.retAddr 0) := rfl
theorem fd_Table_hasPlaceFor_12 : am_fd mt_Table_hasPlaceFor.1 12 = (.invokevirtual 33,3,36,2,10,0,.retAddr 0) := rfl
theorem fd_Table_hasPlaceFor_15 : am_fd mt_Table_hasPlaceFor.1 15 = (.lload_n 1,1,1,0,0,0,.retAddr 0) := rfl
theorem fd_Table_hasPlaceFor_16 : am_fd mt_Table_hasPlaceFor.1 16 = (.invokevirtual 37,3,37,3,10,0,.retAddr 0) := rfl
theorem fd_Table_hasPlaceFor_19 : am_fd mt_Table_hasPlaceFor.1 19 = (.ifCond .eq 7,3,26,0,0,0,.retAddr 0) := rfl
theorem fd_Table_hasPlaceFor_22 : am_fd mt_Table_hasPlaceFor.1 22 = (.iconst 1,1,0,0,0,0,.int 1) := rfl
theorem fd_Table_hasPlaceFor_23 : am_fd mt_Table_hasPlaceFor.1 23 = (.goto 4,3,27,0,0,0,.retAddr 0) := rfl
theorem fd_Table_hasPlaceFor_26 : am_fd mt_Table_hasPlaceFor.1 26 = (.iconst 0,1,0,0,0,0,.int 0) := rfl
theorem fd_Table_hasPlaceFor_27 : am_fd mt_Table_hasPlaceFor.1 27 = (.ireturn,1,1,0,0,0,.retAddr 0) := rfl
theorem fd_Table_placeOf_0 : am_fd mt_Table_placeOf.1 0 = (.iconst 0,1,0,0,0,0,.int 0) := rfl
theorem fd_Table_placeOf_1 : am_fd mt_Table_placeOf.1 1 = (.istore_n 3,1,3,0,0,0,.retAddr 0) := rfl
theorem fd_Table_placeOf_2 : am_fd mt_Table_placeOf.1 2 = (.aload_n 0,1,0,0,0,0,.retAddr 0) := rfl
theorem fd_Table_placeOf_3 : am_fd mt_Table_placeOf.1 3 = (.getfield 29,3,4,0,10,10,.retAddr 0) := rfl
theorem fd_Table_placeOf_6 : am_fd mt_Table_placeOf.1 6 = (.istore 4,2,4,0,0,0,.retAddr 0) := rfl
theorem fd_Table_placeOf_8 : am_fd mt_Table_placeOf.1 8 = (.iconst 0,1,0,0,0,0,.int 0) := rfl
theorem fd_Table_placeOf_9 : am_fd mt_Table_placeOf.1 9 = (.istore 5,2,5,0,0,0,.retAddr 0) := rfl
theorem fd_Table_placeOf_11 : am_fd mt_Table_placeOf.1 11 = (.iload 5,2,5,0,0,0,.retAddr 0) := rfl
theorem fd_Table_placeOf_13 : am_fd mt_Table_placeOf.1 13 = (.bipush 64,2,0,0,0,0,.int 64) := rfl
theorem fd_Table_placeOf_15 : am_fd mt_Table_placeOf.1 15 = (.if_icmp .ge 54,3,69,0,0,0,.retAddr 0) := rfl
theorem fd_Table_placeOf_18 : am_fd mt_Table_placeOf.1 18 = (.iload_n 3,1,3,0,0,0,.retAddr 0) := rfl
theorem fd_Table_placeOf_19 : am_fd mt_Table_placeOf.1 19 = (.iload 4,2,4,0,0,0,.retAddr 0) := rfl
theorem fd_Table_placeOf_21 : am_fd mt_Table_placeOf.1 21 = (.if_icmp .ge 48,3,69,0,0,0,.retAddr 0) := rfl
theorem fd_Table_placeOf_24 : am_fd mt_Table_placeOf.1 24 = (.iload_n 3,1,3,0,0,0,.retAddr 0) := rfl
theorem fd_Table_placeOf_25 : am_fd mt_Table_placeOf.1 25 = (.iload 4,2,4,0,0,0,.retAddr 0) := rfl
theorem fd_Table_placeOf_27 : am_fd mt_Table_placeOf.1 27 = (.iadd,1,0,0,0,0,.retAddr 0) := rfl
theorem fd_Table_placeOf_28 : am_fd mt_Table_placeOf.1 28 = (.iconst 1,1,0,0,0,0,.int 1) := rfl
theorem fd_Table_placeOf_29 : am_fd mt_Table_placeOf.1 29 = (.iushr,1,0,0,0,0,.retAddr 0) := rfl
theorem fd_Table_placeOf_30 : am_fd mt_Table_placeOf.1 30 = (.istore 6,2,6,0,0,0,.retAddr 0) := rfl
theorem fd_Table_placeOf_32 : am_fd mt_Table_placeOf.1 32 = (.iload 6,2,6,0,0,0,.retAddr 0) := rfl
theorem fd_Table_placeOf_34 : am_fd mt_Table_placeOf.1 34 = (.bipush 64,2,0,0,0,0,.int 64) := rfl
theorem fd_Table_placeOf_36 : am_fd mt_Table_placeOf.1 36 = (.if_icmp .ge 23,3,59,0,0,0,.retAddr 0) := rfl
theorem fd_Table_placeOf_39 : am_fd mt_Table_placeOf.1 39 = (.aload_n 0,1,0,0,0,0,.retAddr 0) := rfl
theorem fd_Table_placeOf_40 : am_fd mt_Table_placeOf.1 40 = (.getfield 9,3,0,2,10,10,.retAddr 0) := rfl
theorem fd_Table_placeOf_43 : am_fd mt_Table_placeOf.1 43 = (.iload 6,2,6,0,0,0,.retAddr 0) := rfl
theorem fd_Table_placeOf_45 : am_fd mt_Table_placeOf.1 45 = (.laload,1,0,0,0,0,.retAddr 0) := rfl
theorem fd_Table_placeOf_46 : am_fd mt_Table_placeOf.1 46 = (.lload_n 1,1,1,0,0,0,.retAddr 0) := rfl
theorem fd_Table_placeOf_47 : am_fd mt_Table_placeOf.1 47 = (.lcmp,1,0,0,0,0,.retAddr 0) := rfl
theorem fd_Table_placeOf_48 : am_fd mt_Table_placeOf.1 48 = (.ifCond .ge 11,3,59,0,0,0,.retAddr 0) := rfl
theorem fd_Table_placeOf_51 : am_fd mt_Table_placeOf.1 51 = (.iload 6,2,6,0,0,0,.retAddr 0) := rfl
theorem fd_Table_placeOf_53 : am_fd mt_Table_placeOf.1 53 = (.iconst 1,1,0,0,0,0,.int 1) := rfl
theorem fd_Table_placeOf_54 : am_fd mt_Table_placeOf.1 54 = (.iadd,1,0,0,0,0,.retAddr 0) := rfl
theorem fd_Table_placeOf_55 : am_fd mt_Table_placeOf.1 55 = (.istore_n 3,1,3,0,0,0,.retAddr 0) := rfl
theorem fd_Table_placeOf_56 : am_fd mt_Table_placeOf.1 56 = (.goto 7,3,63,0,0,0,.retAddr 0) := rfl
theorem fd_Table_placeOf_59 : am_fd mt_Table_placeOf.1 59 = (.iload 6,2,6,0,0,0,.retAddr 0) := rfl
theorem fd_Table_placeOf_61 : am_fd mt_Table_placeOf.1 61 = (.istore 4,2,4,0,0,0,.retAddr 0) := rfl
theorem fd_Table_placeOf_63 : am_fd mt_Table_placeOf.1 63 = (.iinc 5 1,3,5,0,0,0,.int 1) := rfl
theorem fd_Table_placeOf_66 : am_fd mt_Table_placeOf.1 66 = (.goto (-55),3,11,0,0,0,.retAddr 0) := rfl
theorem fd_Table_placeOf_69 : am_fd mt_Table_placeOf.1 69 = (.iload_n 3,1,3,0,0,0,.retAddr 0) := rfl
theorem fd_Table_placeOf_70 : am_fd mt_Table_placeOf.1 70 = (.ireturn,1,0,0,0,0,.retAddr 0) := rfl
theorem fd_Table_holds_0 : am_fd mt_Table_holds.1 0 = (.iload_n 1,1,1,0,0,0,.retAddr 0) := rfl
theorem fd_Table_holds_1 : am_fd mt_Table_holds.1 1 = (.ifCond .lt 32,3,33,0,0,0,.retAddr 0) := rfl
theorem fd_Table_holds_4 : am_fd mt_Table_holds.1 4 = (.iload_n 1,1,1,0,0,0,.retAddr 0) := rfl
theorem fd_Table_holds_5 : am_fd mt_Table_holds.1 5 = (.aload_n 0,1,0,0,0,0,.retAddr 0) := rfl
theorem fd_Table_holds_6 : am_fd mt_Table_holds.1 6 = (.getfield 29,3,4,0,10,10,.retAddr 0) := rfl
theorem fd_Table_holds_9 : am_fd mt_Table_holds.1 9 = (.if_icmp .ge 24,3,33,0,0,0,.retAddr 0) := rfl
theorem fd_Table_holds_12 : am_fd mt_Table_holds.1 12 = (.iload_n 1,1,1,0,0,0,.retAddr 0) := rfl
theorem fd_Table_holds_13 : am_fd mt_Table_holds.1 13 = (.bipush 64,2,0,0,0,0,.int 64) := rfl
theorem fd_Table_holds_15 : am_fd mt_Table_holds.1 15 = (.if_icmp .ge 18,3,33,0,0,0,.retAddr 0) := rfl
theorem fd_Table_holds_18 : am_fd mt_Table_holds.1 18 = (.aload_n 0,1,0,0,0,0,.retAddr 0) := rfl
theorem fd_Table_holds_19 : am_fd mt_Table_holds.1 19 = (.getfield 9,3,0,2,10,10,.retAddr 0) := rfl
theorem fd_Table_holds_22 : am_fd mt_Table_holds.1 22 = (.iload_n 1,1,1,0,0,0,.retAddr 0) := rfl
theorem fd_Table_holds_23 : am_fd mt_Table_holds.1 23 = (.laload,1,0,0,0,0,.retAddr 0) := rfl
theorem fd_Table_holds_24 : am_fd mt_Table_holds.1 24 = (.lload_n 2,1,2,0,0,0,.retAddr 0) := rfl
theorem fd_Table_holds_25 : am_fd mt_Table_holds.1 25 = (.lcmp,1,0,0,0,0,.retAddr 0) := rfl
theorem fd_Table_holds_26 : am_fd mt_Table_holds.1 26 = (.ifCond .ne 7,3,33,0,0,0,.retAddr 0) := rfl
theorem fd_Table_holds_29 : am_fd mt_Table_holds.1 29 = (.iconst 1,1,0,0,0,0,.int 1) := rfl
theorem fd_Table_holds_30 : am_fd mt_Table_holds.1 30 = (.goto 4,3,34,0,0,0,.retAddr 0) := rfl
theorem fd_Table_holds_33 : am_fd mt_Table_holds.1 33 = (.iconst 0,1,0,0,0,0,.int 0) := rfl
theorem fd_Table_holds_34 : am_fd mt_Table_holds.1 34 = (.ireturn,1,1,0,0,0,.retAddr 0) := rfl
theorem fd_Table_enter_0 : am_fd mt_Table_enter.1 0 = (.aload_n 0,1,0,0,0,0,.retAddr 0) := rfl
theorem fd_Table_enter_1 : am_fd mt_Table_enter.1 1 = (.lload_n 1,1,1,0,0,0,.retAddr 0) := rfl
theorem fd_Table_enter_2 : am_fd mt_Table_enter.1 2 = (.invokevirtual 33,3,36,2,10,0,.retAddr 0) := rfl
theorem fd_Table_enter_5 : am_fd mt_Table_enter.1 5 = (.istore 6,2,6,0,0,0,.retAddr 0) := rfl
theorem fd_Table_enter_7 : am_fd mt_Table_enter.1 7 = (.aload_n 0,1,0,0,0,0,.retAddr 0) := rfl
theorem fd_Table_enter_8 : am_fd mt_Table_enter.1 8 = (.getfield 25,3,3,2,10,10,.retAddr 0) := rfl
theorem fd_Table_enter_11 : am_fd mt_Table_enter.1 11 = (.iload_n 3,1,3,0,0,0,.retAddr 0) := rfl
theorem fd_Table_enter_12 : am_fd mt_Table_enter.1 12 = (.iload_n 3,1,3,0,0,0,.retAddr 0) := rfl
theorem fd_Table_enter_13 : am_fd mt_Table_enter.1 13 = (.iconst 2,1,0,0,0,0,.int 2) := rfl
theorem fd_Table_enter_14 : am_fd mt_Table_enter.1 14 = (.if_icmp .ne 7,3,21,0,0,0,.retAddr 0) := rfl
theorem fd_Table_enter_17 : am_fd mt_Table_enter.1 17 = (.lconst 0,1,0,0,0,0,.long 0) := rfl
theorem fd_Table_enter_18 : am_fd mt_Table_enter.1 18 = (.goto 5,3,23,0,0,0,.retAddr 0) := rfl
theorem fd_Table_enter_21 : am_fd mt_Table_enter.1 21 = (.lload 4,2,4,0,0,0,.retAddr 0) := rfl
theorem fd_Table_enter_23 : am_fd mt_Table_enter.1 23 = (.invokevirtual 41,3,39,3,3,0,.retAddr 0) := rfl
theorem fd_Table_enter_26 : am_fd mt_Table_enter.1 26 = (.aload_n 0,1,0,0,0,0,.retAddr 0) := rfl
theorem fd_Table_enter_27 : am_fd mt_Table_enter.1 27 = (.iload 6,2,6,0,0,0,.retAddr 0) := rfl
theorem fd_Table_enter_29 : am_fd mt_Table_enter.1 29 = (.lload_n 1,1,1,0,0,0,.retAddr 0) := rfl
theorem fd_Table_enter_30 : am_fd mt_Table_enter.1 30 = (.invokevirtual 37,3,37,3,10,0,.retAddr 0) := rfl
theorem fd_Table_enter_33 : am_fd mt_Table_enter.1 33 = (.ifCond .eq 27,3,60,0,0,0,.retAddr 0) := rfl
theorem fd_Table_enter_36 : am_fd mt_Table_enter.1 36 = (.aload_n 0,1,0,0,0,0,.retAddr 0) := rfl
theorem fd_Table_enter_37 : am_fd mt_Table_enter.1 37 = (.getfield 25,3,3,2,10,10,.retAddr 0) := rfl
theorem fd_Table_enter_40 : am_fd mt_Table_enter.1 40 = (.aload_n 0,1,0,0,0,0,.retAddr 0) := rfl
theorem fd_Table_enter_41 : am_fd mt_Table_enter.1 41 = (.getfield 15,3,1,2,10,10,.retAddr 0) := rfl
theorem fd_Table_enter_44 : am_fd mt_Table_enter.1 44 = (.iload 6,2,6,0,0,0,.retAddr 0) := rfl
theorem fd_Table_enter_46 : am_fd mt_Table_enter.1 46 = (.iaload,1,0,0,0,0,.retAddr 0) := rfl
theorem fd_Table_enter_47 : am_fd mt_Table_enter.1 47 = (.aload_n 0,1,0,0,0,0,.retAddr 0) := rfl
theorem fd_Table_enter_48 : am_fd mt_Table_enter.1 48 = (.getfield 19,3,2,2,10,10,.retAddr 0) := rfl
theorem fd_Table_enter_51 : am_fd mt_Table_enter.1 51 = (.iload 6,2,6,0,0,0,.retAddr 0) := rfl
theorem fd_Table_enter_53 : am_fd mt_Table_enter.1 53 = (.laload,1,0,0,0,0,.retAddr 0) := rfl
theorem fd_Table_enter_54 : am_fd mt_Table_enter.1 54 = (.invokevirtual 45,3,40,3,3,0,.retAddr 0) := rfl
theorem fd_Table_enter_57 : am_fd mt_Table_enter.1 57 = (.goto 18,3,75,0,0,0,.retAddr 0) := rfl
theorem fd_Table_enter_60 : am_fd mt_Table_enter.1 60 = (.aload_n 0,1,0,0,0,0,.retAddr 0) := rfl
theorem fd_Table_enter_61 : am_fd mt_Table_enter.1 61 = (.getfield 29,3,4,0,10,10,.retAddr 0) := rfl
theorem fd_Table_enter_64 : am_fd mt_Table_enter.1 64 = (.bipush 64,2,0,0,0,0,.int 64) := rfl
theorem fd_Table_enter_66 : am_fd mt_Table_enter.1 66 = (.if_icmp .ge 9,3,75,0,0,0,.retAddr 0) := rfl
theorem fd_Table_enter_69 : am_fd mt_Table_enter.1 69 = (.aload_n 0,1,0,0,0,0,.retAddr 0) := rfl
theorem fd_Table_enter_70 : am_fd mt_Table_enter.1 70 = (.iload 6,2,6,0,0,0,.retAddr 0) := rfl
theorem fd_Table_enter_72 : am_fd mt_Table_enter.1 72 = (.invokevirtual 48,3,41,2,10,0,.retAddr 0) := rfl
theorem fd_Table_enter_75 : am_fd mt_Table_enter.1 75 = (.iload 6,2,6,0,0,0,.retAddr 0) := rfl
theorem fd_Table_enter_77 : am_fd mt_Table_enter.1 77 = (.ifCond .lt 46,3,123,0,0,0,.retAddr 0) := rfl
theorem fd_Table_enter_80 : am_fd mt_Table_enter.1 80 = (.iload 6,2,6,0,0,0,.retAddr 0) := rfl
theorem fd_Table_enter_82 : am_fd mt_Table_enter.1 82 = (.bipush 64,2,0,0,0,0,.int 64) := rfl
theorem fd_Table_enter_84 : am_fd mt_Table_enter.1 84 = (.if_icmp .ge 39,3,123,0,0,0,.retAddr 0) := rfl
theorem fd_Table_enter_87 : am_fd mt_Table_enter.1 87 = (.aload_n 0,1,0,0,0,0,.retAddr 0) := rfl
theorem fd_Table_enter_88 : am_fd mt_Table_enter.1 88 = (.getfield 9,3,0,2,10,10,.retAddr 0) := rfl
theorem fd_Table_enter_91 : am_fd mt_Table_enter.1 91 = (.iload 6,2,6,0,0,0,.retAddr 0) := rfl
theorem fd_Table_enter_93 : am_fd mt_Table_enter.1 93 = (.lload_n 1,1,1,0,0,0,.retAddr 0) := rfl
theorem fd_Table_enter_94 : am_fd mt_Table_enter.1 94 = (.lastore,1,0,0,0,0,.retAddr 0) := rfl
theorem fd_Table_enter_95 : am_fd mt_Table_enter.1 95 = (.aload_n 0,1,0,0,0,0,.retAddr 0) := rfl
theorem fd_Table_enter_96 : am_fd mt_Table_enter.1 96 = (.getfield 15,3,1,2,10,10,.retAddr 0) := rfl
theorem fd_Table_enter_99 : am_fd mt_Table_enter.1 99 = (.iload 6,2,6,0,0,0,.retAddr 0) := rfl
theorem fd_Table_enter_101 : am_fd mt_Table_enter.1 101 = (.aload_n 0,1,0,0,0,0,.retAddr 0) := rfl
theorem fd_Table_enter_102 : am_fd mt_Table_enter.1 102 = (.getfield 25,3,3,2,10,10,.retAddr 0) := rfl
theorem fd_Table_enter_105 : am_fd mt_Table_enter.1 105 = (.getfield 52,3,0,0,3,3,.retAddr 0) := rfl
theorem fd_Table_enter_108 : am_fd mt_Table_enter.1 108 = (.iastore,1,0,0,0,0,.retAddr 0) := rfl
theorem fd_Table_enter_109 : am_fd mt_Table_enter.1 109 = (.aload_n 0,1,0,0,0,0,.retAddr 0) := rfl
theorem fd_Table_enter_110 : am_fd mt_Table_enter.1 110 = (.getfield 19,3,2,2,10,10,.retAddr 0) := rfl
theorem fd_Table_enter_113 : am_fd mt_Table_enter.1 113 = (.iload 6,2,6,0,0,0,.retAddr 0) := rfl
theorem fd_Table_enter_115 : am_fd mt_Table_enter.1 115 = (.aload_n 0,1,0,0,0,0,.retAddr 0) := rfl
theorem fd_Table_enter_116 : am_fd mt_Table_enter.1 116 = (.getfield 25,3,3,2,10,10,.retAddr 0) := rfl
theorem fd_Table_enter_119 : am_fd mt_Table_enter.1 119 = (.getfield 55,3,1,1,3,3,.retAddr 0) := rfl
theorem fd_Table_enter_122 : am_fd mt_Table_enter.1 122 = (.lastore,1,0,0,0,0,.retAddr 0) := rfl
theorem fd_Table_enter_123 : am_fd mt_Table_enter.1 123 = (.return_,1,0,0,0,0,.retAddr 0) := rfl
theorem fd_Fate_begin_0 : am_fd mt_Fate_begin.1 0 = (.aload_n 0,1,0,0,0,0,.retAddr 0) := rfl
theorem fd_Fate_begin_1 : am_fd mt_Fate_begin.1 1 = (.iload_n 1,1,1,0,0,0,.retAddr 0) := rfl
theorem fd_Fate_begin_2 : am_fd mt_Fate_begin.1 2 = (.putfield 9,3,0,0,3,3,.retAddr 0) := rfl
theorem fd_Fate_begin_5 : am_fd mt_Fate_begin.1 5 = (.aload_n 0,1,0,0,0,0,.retAddr 0) := rfl
theorem fd_Fate_begin_6 : am_fd mt_Fate_begin.1 6 = (.lload_n 2,1,2,0,0,0,.retAddr 0) := rfl
theorem fd_Fate_begin_7 : am_fd mt_Fate_begin.1 7 = (.putfield 15,3,1,1,3,3,.retAddr 0) := rfl
theorem fd_Fate_begin_10 : am_fd mt_Fate_begin.1 10 = (.return_,1,0,0,0,0,.retAddr 0) := rfl
theorem fd_Fate_layUpon_0 : am_fd mt_Fate_layUpon.1 0 = (.aload_n 0,1,0,0,0,0,.retAddr 0) := rfl
theorem fd_Fate_layUpon_1 : am_fd mt_Fate_layUpon.1 1 = (.getfield 9,3,0,0,3,3,.retAddr 0) := rfl
theorem fd_Fate_layUpon_4 : am_fd mt_Fate_layUpon.1 4 = (.ifCond .ne 16,3,20,0,0,0,.retAddr 0) := rfl
theorem fd_Fate_layUpon_7 : am_fd mt_Fate_layUpon.1 7 = (.aload_n 0,1,0,0,0,0,.retAddr 0) := rfl
theorem fd_Fate_layUpon_8 : am_fd mt_Fate_layUpon.1 8 = (.iload_n 1,1,1,0,0,0,.retAddr 0) := rfl
theorem fd_Fate_layUpon_9 : am_fd mt_Fate_layUpon.1 9 = (.putfield 9,3,0,0,3,3,.retAddr 0) := rfl
theorem fd_Fate_layUpon_12 : am_fd mt_Fate_layUpon.1 12 = (.aload_n 0,1,0,0,0,0,.retAddr 0) := rfl
theorem fd_Fate_layUpon_13 : am_fd mt_Fate_layUpon.1 13 = (.lload_n 2,1,2,0,0,0,.retAddr 0) := rfl
theorem fd_Fate_layUpon_14 : am_fd mt_Fate_layUpon.1 14 = (.putfield 15,3,1,1,3,3,.retAddr 0) := rfl
theorem fd_Fate_layUpon_17 : am_fd mt_Fate_layUpon.1 17 = (.goto 44,3,61,0,0,0,.retAddr 0) := rfl
theorem fd_Fate_layUpon_20 : am_fd mt_Fate_layUpon.1 20 = (.aload_n 0,1,0,0,0,0,.retAddr 0) := rfl
theorem fd_Fate_layUpon_21 : am_fd mt_Fate_layUpon.1 21 = (.getfield 9,3,0,0,3,3,.retAddr 0) := rfl
theorem fd_Fate_layUpon_24 : am_fd mt_Fate_layUpon.1 24 = (.iconst 3,1,0,0,0,0,.int 3) := rfl
theorem fd_Fate_layUpon_25 : am_fd mt_Fate_layUpon.1 25 = (.if_icmp .ne 36,3,61,0,0,0,.retAddr 0) := rfl
theorem fd_Fate_layUpon_28 : am_fd mt_Fate_layUpon.1 28 = (.aload_n 0,1,0,0,0,0,.retAddr 0) := rfl
theorem fd_Fate_layUpon_29 : am_fd mt_Fate_layUpon.1 29 = (.dup,1,0,0,0,0,.retAddr 0) := rfl
theorem fd_Fate_layUpon_30 : am_fd mt_Fate_layUpon.1 30 = (.getfield 15,3,1,1,3,3,.retAddr 0) := rfl
theorem fd_Fate_layUpon_33 : am_fd mt_Fate_layUpon.1 33 = (.iload_n 1,1,1,0,0,0,.retAddr 0) := rfl
theorem fd_Fate_layUpon_34 : am_fd mt_Fate_layUpon.1 34 = (.iconst 2,1,0,0,0,0,.int 2) := rfl
theorem fd_Fate_layUpon_35 : am_fd mt_Fate_layUpon.1 35 = (.if_icmp .ne 7,3,42,0,0,0,.retAddr 0) := rfl
theorem fd_Fate_layUpon_38 : am_fd mt_Fate_layUpon.1 38 = (.lconst 0,1,0,0,0,0,.long 0) := rfl
theorem fd_Fate_layUpon_39 : am_fd mt_Fate_layUpon.1 39 = (.goto 4,3,43,0,0,0,.retAddr 0) := rfl
theorem fd_Fate_layUpon_42 : am_fd mt_Fate_layUpon.1 42 = (.lload_n 2,1,2,0,0,0,.retAddr 0) := rfl
theorem fd_Fate_layUpon_43 : am_fd mt_Fate_layUpon.1 43 = (.ladd,1,0,0,0,0,.retAddr 0) := rfl
theorem fd_Fate_layUpon_44 : am_fd mt_Fate_layUpon.1 44 = (.putfield 15,3,1,1,3,3,.retAddr 0) := rfl
theorem fd_Fate_layUpon_47 : am_fd mt_Fate_layUpon.1 47 = (.aload_n 0,1,0,0,0,0,.retAddr 0) := rfl
theorem fd_Fate_layUpon_48 : am_fd mt_Fate_layUpon.1 48 = (.iload_n 1,1,1,0,0,0,.retAddr 0) := rfl
theorem fd_Fate_layUpon_49 : am_fd mt_Fate_layUpon.1 49 = (.iconst 3,1,0,0,0,0,.int 3) := rfl
theorem fd_Fate_layUpon_50 : am_fd mt_Fate_layUpon.1 50 = (.if_icmp .ne 7,3,57,0,0,0,.retAddr 0) := rfl
theorem fd_Fate_layUpon_53 : am_fd mt_Fate_layUpon.1 53 = (.iconst 3,1,0,0,0,0,.int 3) := rfl
theorem fd_Fate_layUpon_54 : am_fd mt_Fate_layUpon.1 54 = (.goto 4,3,58,0,0,0,.retAddr 0) := rfl
theorem fd_Fate_layUpon_57 : am_fd mt_Fate_layUpon.1 57 = (.iconst 1,1,0,0,0,0,.int 1) := rfl
theorem fd_Fate_layUpon_58 : am_fd mt_Fate_layUpon.1 58 = (.putfield 9,3,0,0,3,3,.retAddr 0) := rfl
theorem fd_Fate_layUpon_61 : am_fd mt_Fate_layUpon.1 61 = (.return_,1,0,0,0,0,.retAddr 0) := rfl
theorem fd_Table_shiftFrom_0 : am_fd mt_Table_shiftFrom.1 0 = (.aload_n 0,1,0,0,0,0,.retAddr 0) := rfl
theorem fd_Table_shiftFrom_1 : am_fd mt_Table_shiftFrom.1 1 = (.getfield 29,3,4,0,10,10,.retAddr 0) := rfl
theorem fd_Table_shiftFrom_4 : am_fd mt_Table_shiftFrom.1 4 = (.istore_n 2,1,2,0,0,0,.retAddr 0) := rfl
theorem fd_Table_shiftFrom_5 : am_fd mt_Table_shiftFrom.1 5 = (.iload_n 2,1,2,0,0,0,.retAddr 0) := rfl
theorem fd_Table_shiftFrom_6 : am_fd mt_Table_shiftFrom.1 6 = (.iload_n 1,1,1,0,0,0,.retAddr 0) := rfl
theorem fd_Table_shiftFrom_7 : am_fd mt_Table_shiftFrom.1 7 = (.if_icmp .le 61,3,68,0,0,0,.retAddr 0) := rfl
theorem fd_Table_shiftFrom_10 : am_fd mt_Table_shiftFrom.1 10 = (.iload_n 2,1,2,0,0,0,.retAddr 0) := rfl
theorem fd_Table_shiftFrom_11 : am_fd mt_Table_shiftFrom.1 11 = (.ifCond .le 57,3,68,0,0,0,.retAddr 0) := rfl
theorem fd_Table_shiftFrom_14 : am_fd mt_Table_shiftFrom.1 14 = (.iload_n 2,1,2,0,0,0,.retAddr 0) := rfl
theorem fd_Table_shiftFrom_15 : am_fd mt_Table_shiftFrom.1 15 = (.bipush 64,2,0,0,0,0,.int 64) := rfl
theorem fd_Table_shiftFrom_17 : am_fd mt_Table_shiftFrom.1 17 = (.if_icmp .ge 51,3,68,0,0,0,.retAddr 0) := rfl
theorem fd_Table_shiftFrom_20 : am_fd mt_Table_shiftFrom.1 20 = (.aload_n 0,1,0,0,0,0,.retAddr 0) := rfl
theorem fd_Table_shiftFrom_21 : am_fd mt_Table_shiftFrom.1 21 = (.getfield 9,3,0,2,10,10,.retAddr 0) := rfl
theorem fd_Table_shiftFrom_24 : am_fd mt_Table_shiftFrom.1 24 = (.iload_n 2,1,2,0,0,0,.retAddr 0) := rfl
theorem fd_Table_shiftFrom_25 : am_fd mt_Table_shiftFrom.1 25 = (.aload_n 0,1,0,0,0,0,.retAddr 0) := rfl
theorem fd_Table_shiftFrom_26 : am_fd mt_Table_shiftFrom.1 26 = (.getfield 9,3,0,2,10,10,.retAddr 0) := rfl
theorem fd_Table_shiftFrom_29 : am_fd mt_Table_shiftFrom.1 29 = (.iload_n 2,1,2,0,0,0,.retAddr 0) := rfl
theorem fd_Table_shiftFrom_30 : am_fd mt_Table_shiftFrom.1 30 = (.iconst 1,1,0,0,0,0,.int 1) := rfl
theorem fd_Table_shiftFrom_31 : am_fd mt_Table_shiftFrom.1 31 = (.isub,1,0,0,0,0,.retAddr 0) := rfl
theorem fd_Table_shiftFrom_32 : am_fd mt_Table_shiftFrom.1 32 = (.laload,1,0,0,0,0,.retAddr 0) := rfl
theorem fd_Table_shiftFrom_33 : am_fd mt_Table_shiftFrom.1 33 = (.lastore,1,0,0,0,0,.retAddr 0) := rfl
theorem fd_Table_shiftFrom_34 : am_fd mt_Table_shiftFrom.1 34 = (.aload_n 0,1,0,0,0,0,.retAddr 0) := rfl
theorem fd_Table_shiftFrom_35 : am_fd mt_Table_shiftFrom.1 35 = (.getfield 15,3,1,2,10,10,.retAddr 0) := rfl
theorem fd_Table_shiftFrom_38 : am_fd mt_Table_shiftFrom.1 38 = (.iload_n 2,1,2,0,0,0,.retAddr 0) := rfl
theorem fd_Table_shiftFrom_39 : am_fd mt_Table_shiftFrom.1 39 = (.aload_n 0,1,0,0,0,0,.retAddr 0) := rfl
theorem fd_Table_shiftFrom_40 : am_fd mt_Table_shiftFrom.1 40 = (.getfield 15,3,1,2,10,10,.retAddr 0) := rfl
theorem fd_Table_shiftFrom_43 : am_fd mt_Table_shiftFrom.1 43 = (.iload_n 2,1,2,0,0,0,.retAddr 0) := rfl
theorem fd_Table_shiftFrom_44 : am_fd mt_Table_shiftFrom.1 44 = (.iconst 1,1,0,0,0,0,.int 1) := rfl
theorem fd_Table_shiftFrom_45 : am_fd mt_Table_shiftFrom.1 45 = (.isub,1,0,0,0,0,.retAddr 0) := rfl
theorem fd_Table_shiftFrom_46 : am_fd mt_Table_shiftFrom.1 46 = (.iaload,1,0,0,0,0,.retAddr 0) := rfl
theorem fd_Table_shiftFrom_47 : am_fd mt_Table_shiftFrom.1 47 = (.iastore,1,0,0,0,0,.retAddr 0) := rfl
theorem fd_Table_shiftFrom_48 : am_fd mt_Table_shiftFrom.1 48 = (.aload_n 0,1,0,0,0,0,.retAddr 0) := rfl
theorem fd_Table_shiftFrom_49 : am_fd mt_Table_shiftFrom.1 49 = (.getfield 19,3,2,2,10,10,.retAddr 0) := rfl
theorem fd_Table_shiftFrom_52 : am_fd mt_Table_shiftFrom.1 52 = (.iload_n 2,1,2,0,0,0,.retAddr 0) := rfl
theorem fd_Table_shiftFrom_53 : am_fd mt_Table_shiftFrom.1 53 = (.aload_n 0,1,0,0,0,0,.retAddr 0) := rfl
theorem fd_Table_shiftFrom_54 : am_fd mt_Table_shiftFrom.1 54 = (.getfield 19,3,2,2,10,10,.retAddr 0) := rfl
theorem fd_Table_shiftFrom_57 : am_fd mt_Table_shiftFrom.1 57 = (.iload_n 2,1,2,0,0,0,.retAddr 0) := rfl
theorem fd_Table_shiftFrom_58 : am_fd mt_Table_shiftFrom.1 58 = (.iconst 1,1,0,0,0,0,.int 1) := rfl
theorem fd_Table_shiftFrom_59 : am_fd mt_Table_shiftFrom.1 59 = (.isub,1,0,0,0,0,.retAddr 0) := rfl
theorem fd_Table_shiftFrom_60 : am_fd mt_Table_shiftFrom.1 60 = (.laload,1,0,0,0,0,.retAddr 0) := rfl
theorem fd_Table_shiftFrom_61 : am_fd mt_Table_shiftFrom.1 61 = (.lastore,1,0,0,0,0,.retAddr 0) := rfl
theorem fd_Table_shiftFrom_62 : am_fd mt_Table_shiftFrom.1 62 = (.iinc 2 (-1),3,2,0,0,0,.int (-1)) := rfl
theorem fd_Table_shiftFrom_65 : am_fd mt_Table_shiftFrom.1 65 = (.goto (-60),3,5,0,0,0,.retAddr 0) := rfl
theorem fd_Table_shiftFrom_68 : am_fd mt_Table_shiftFrom.1 68 = (.aload_n 0,1,0,0,0,0,.retAddr 0) := rfl
theorem fd_Table_shiftFrom_69 : am_fd mt_Table_shiftFrom.1 69 = (.dup,1,0,0,0,0,.retAddr 0) := rfl
theorem fd_Table_shiftFrom_70 : am_fd mt_Table_shiftFrom.1 70 = (.getfield 29,3,4,0,10,10,.retAddr 0) := rfl
theorem fd_Table_shiftFrom_73 : am_fd mt_Table_shiftFrom.1 73 = (.iconst 1,1,0,0,0,0,.int 1) := rfl
theorem fd_Table_shiftFrom_74 : am_fd mt_Table_shiftFrom.1 74 = (.iadd,1,0,0,0,0,.retAddr 0) := rfl
theorem fd_Table_shiftFrom_75 : am_fd mt_Table_shiftFrom.1 75 = (.putfield 29,3,4,0,10,10,.retAddr 0) := rfl
theorem fd_Table_shiftFrom_78 : am_fd mt_Table_shiftFrom.1 78 = (.return_,1,0,0,0,0,.retAddr 0) := rfl
theorem fd_SR_remove_0 : am_fd mt_SR_remove.1 0 = (.aload_n 0,1,0,0,0,0,.retAddr 0) := rfl
theorem fd_SR_remove_1 : am_fd mt_SR_remove.1 1 = (.lload_n 1,1,1,0,0,0,.retAddr 0) := rfl
theorem fd_SR_remove_2 : am_fd mt_SR_remove.1 2 = (.iconst 2,1,0,0,0,0,.int 2) := rfl
theorem fd_SR_remove_3 : am_fd mt_SR_remove.1 3 = (.lconst 0,1,0,0,0,0,.long 0) := rfl
theorem fd_SR_remove_4 : am_fd mt_SR_remove.1 4 = (.invokevirtual 121,3,33,4,1,0,.retAddr 0) := rfl
theorem fd_SR_remove_7 : am_fd mt_SR_remove.1 7 = (.ireturn,1,0,0,0,0,.retAddr 0) := rfl
theorem fd_SR_fold_0 : am_fd mt_SR_fold.1 0 = (.aload_n 0,1,0,0,0,0,.retAddr 0) := rfl
theorem fd_SR_fold_1 : am_fd mt_SR_fold.1 1 = (.lload_n 1,1,1,0,0,0,.retAddr 0) := rfl
theorem fd_SR_fold_2 : am_fd mt_SR_fold.1 2 = (.iconst 3,1,0,0,0,0,.int 3) := rfl
theorem fd_SR_fold_3 : am_fd mt_SR_fold.1 3 = (.lload_n 3,1,3,0,0,0,.retAddr 0) := rfl
theorem fd_SR_fold_4 : am_fd mt_SR_fold.1 4 = (.invokevirtual 121,3,33,4,1,0,.retAddr 0) := rfl
theorem fd_SR_fold_7 : am_fd mt_SR_fold.1 7 = (.ireturn,1,0,0,0,0,.retAddr 0) := rfl
theorem fd_SR_many_0 : am_fd mt_SR_many.1 0 = (.aload_n 0,1,0,0,0,0,.retAddr 0) := rfl
theorem fd_SR_many_1 : am_fd mt_SR_many.1 1 = (.invokevirtual 125,3,34,1,1,0,.retAddr 0) := rfl
theorem fd_SR_many_4 : am_fd mt_SR_many.1 4 = (.iload_n 1,1,1,0,0,0,.retAddr 0) := rfl
theorem fd_SR_many_5 : am_fd mt_SR_many.1 5 = (.invokestatic 147,3,45,1,0,0,.retAddr 0) := rfl
theorem fd_SR_many_8 : am_fd mt_SR_many.1 8 = (.ifCond .eq 15,3,23,0,0,0,.retAddr 0) := rfl
theorem fd_SR_many_11 : am_fd mt_SR_many.1 11 = (.iload_n 2,1,2,0,0,0,.retAddr 0) := rfl
theorem fd_SR_many_12 : am_fd mt_SR_many.1 12 = (.iconst 1,1,0,0,0,0,.int 1) := rfl
theorem fd_SR_many_13 : am_fd mt_SR_many.1 13 = (.if_icmp .lt 10,3,23,0,0,0,.retAddr 0) := rfl
theorem fd_SR_many_16 : am_fd mt_SR_many.1 16 = (.iload_n 2,1,2,0,0,0,.retAddr 0) := rfl
theorem fd_SR_many_17 : am_fd mt_SR_many.1 17 = (.sipush 1000,3,0,0,0,0,.int 1000) := rfl
theorem fd_SR_many_20 : am_fd mt_SR_many.1 20 = (.if_icmp .le 13,3,33,0,0,0,.retAddr 0) := rfl
theorem fd_SR_many_23 : am_fd mt_SR_many.1 23 = (.new 151,3,1,1,2,153,.ref 155) := rfl
theorem fd_SR_many_33 : am_fd mt_SR_many.1 33 = (.lload_n 3,1,3,0,0,0,.retAddr 0) := rfl
theorem fd_SR_many_34 : am_fd mt_SR_many.1 34 = (.lstore 7,2,7,0,0,0,.retAddr 0) := rfl
theorem fd_SR_many_36 : am_fd mt_SR_many.1 36 = (.iconst 0,1,0,0,0,0,.int 0) := rfl
theorem fd_SR_many_37 : am_fd mt_SR_many.1 37 = (.istore 9,2,9,0,0,0,.retAddr 0) := rfl
theorem fd_SR_many_39 : am_fd mt_SR_many.1 39 = (.iload 9,2,9,0,0,0,.retAddr 0) := rfl
theorem fd_SR_many_41 : am_fd mt_SR_many.1 41 = (.iload_n 2,1,2,0,0,0,.retAddr 0) := rfl
theorem fd_SR_many_42 : am_fd mt_SR_many.1 42 = (.if_icmp .ge 77,3,119,0,0,0,.retAddr 0) := rfl
theorem fd_SR_many_45 : am_fd mt_SR_many.1 45 = (.aload_n 0,1,0,0,0,0,.retAddr 0) := rfl
theorem fd_SR_many_46 : am_fd mt_SR_many.1 46 = (.getfield 10,3,2,2,1,1,.retAddr 0) := rfl
theorem fd_SR_many_49 : am_fd mt_SR_many.1 49 = (.lload 7,2,7,0,0,0,.retAddr 0) := rfl
theorem fd_SR_many_51 : am_fd mt_SR_many.1 51 = (.invokevirtual 128,3,35,2,10,0,.retAddr 0) := rfl
theorem fd_SR_many_54 : am_fd mt_SR_many.1 54 = (.ifCond .ne 39,3,93,0,0,0,.retAddr 0) := rfl
theorem fd_SR_many_57 : am_fd mt_SR_many.1 57 = (.aload_n 0,1,0,0,0,0,.retAddr 0) := rfl
theorem fd_SR_many_58 : am_fd mt_SR_many.1 58 = (.getfield 19,3,3,2,1,1,.retAddr 0) := rfl
theorem fd_SR_many_61 : am_fd mt_SR_many.1 61 = (.iconst 0,1,0,0,0,0,.int 0) := rfl
theorem fd_SR_many_62 : am_fd mt_SR_many.1 62 = (.invokevirtual 156,3,46,2,6,0,.retAddr 0) := rfl
theorem fd_SR_many_65 : am_fd mt_SR_many.1 65 = (.bipush 6,2,0,0,0,0,.int 6) := rfl
theorem fd_SR_many_67 : am_fd mt_SR_many.1 67 = (.if_icmp .ne 8,3,75,0,0,0,.retAddr 0) := rfl
theorem fd_SR_many_70 : am_fd mt_SR_many.1 70 = (.aload_n 0,1,0,0,0,0,.retAddr 0) := rfl
theorem fd_SR_many_71 : am_fd mt_SR_many.1 71 = (.invokevirtual 160,3,47,1,1,0,.retAddr 0) := rfl
theorem fd_SR_many_74 : am_fd mt_SR_many.1 74 = (.pop,1,0,0,0,0,.retAddr 0) := rfl
theorem fd_SR_many_75 : am_fd mt_SR_many.1 75 = (.aload_n 0,1,0,0,0,0,.retAddr 0) := rfl
theorem fd_SR_many_76 : am_fd mt_SR_many.1 76 = (.getfield 61,3,15,0,1,1,.retAddr 0) := rfl
theorem fd_SR_many_79 : am_fd mt_SR_many.1 79 = (.ifCond .ne 11,3,90,0,0,0,.retAddr 0) := rfl
theorem fd_SR_many_82 : am_fd mt_SR_many.1 82 = (.aload_n 0,1,0,0,0,0,.retAddr 0) := rfl
theorem fd_SR_many_83 : am_fd mt_SR_many.1 83 = (.invokevirtual 164,3,88,1,1,0,.retAddr 0) := rfl
theorem fd_SR_many_86 : am_fd mt_SR_many.1 86 = (.iconst 1,1,0,0,0,0,.int 1) := rfl
theorem fd_SR_many_87 : am_fd mt_SR_many.1 87 = (.if_icmp .eq 6,3,93,0,0,0,.retAddr 0) := rfl
theorem fd_SR_many_90 : am_fd mt_SR_many.1 90 = (.iload 9,2,9,0,0,0,.retAddr 0) := rfl
theorem fd_SR_many_92 : am_fd mt_SR_many.1 92 = (.ireturn,1,0,0,0,0,.retAddr 0) := rfl
theorem fd_SR_many_93 : am_fd mt_SR_many.1 93 = (.aload_n 0,1,0,0,0,0,.retAddr 0) := rfl
theorem fd_SR_many_94 : am_fd mt_SR_many.1 94 = (.getfield 10,3,2,2,1,1,.retAddr 0) := rfl
theorem fd_SR_many_97 : am_fd mt_SR_many.1 97 = (.lload 7,2,7,0,0,0,.retAddr 0) := rfl
theorem fd_SR_many_99 : am_fd mt_SR_many.1 99 = (.iload_n 1,1,1,0,0,0,.retAddr 0) := rfl
theorem fd_SR_many_100 : am_fd mt_SR_many.1 100 = (.iload 9,2,9,0,0,0,.retAddr 0) := rfl
theorem fd_SR_many_102 : am_fd mt_SR_many.1 102 = (.i2l,1,0,0,0,0,.retAddr 0) := rfl
theorem fd_SR_many_103 : am_fd mt_SR_many.1 103 = (.invokevirtual 139,3,38,4,10,0,.retAddr 0) := rfl
theorem fd_SR_many_106 : am_fd mt_SR_many.1 106 = (.lload 7,2,7,0,0,0,.retAddr 0) := rfl
theorem fd_SR_many_108 : am_fd mt_SR_many.1 108 = (.lload 5,2,5,0,0,0,.retAddr 0) := rfl
theorem fd_SR_many_110 : am_fd mt_SR_many.1 110 = (.ladd,1,0,0,0,0,.retAddr 0) := rfl
theorem fd_SR_many_111 : am_fd mt_SR_many.1 111 = (.lstore 7,2,7,0,0,0,.retAddr 0) := rfl
theorem fd_SR_many_113 : am_fd mt_SR_many.1 113 = (.iinc 9 1,3,9,0,0,0,.int 1) := rfl
theorem fd_SR_many_116 : am_fd mt_SR_many.1 116 = (.goto (-77),3,39,0,0,0,.retAddr 0) := rfl
theorem fd_SR_many_119 : am_fd mt_SR_many.1 119 = (.iload_n 2,1,2,0,0,0,.retAddr 0) := rfl
theorem fd_SR_many_120 : am_fd mt_SR_many.1 120 = (.ireturn,1,0,0,0,0,.retAddr 0) := rfl
theorem fd_SR_isKind_0 : am_fd mt_SR_isKind.1 0 = (.iload_n 0,1,0,0,0,0,.retAddr 0) := rfl
theorem fd_SR_isKind_1 : am_fd mt_SR_isKind.1 1 = (.iconst 1,1,0,0,0,0,.int 1) := rfl
theorem fd_SR_isKind_2 : am_fd mt_SR_isKind.1 2 = (.if_icmp .eq 13,3,15,0,0,0,.retAddr 0) := rfl
theorem fd_SR_isKind_5 : am_fd mt_SR_isKind.1 5 = (.iload_n 0,1,0,0,0,0,.retAddr 0) := rfl
theorem fd_SR_isKind_6 : am_fd mt_SR_isKind.1 6 = (.iconst 2,1,0,0,0,0,.int 2) := rfl
theorem fd_SR_isKind_7 : am_fd mt_SR_isKind.1 7 = (.if_icmp .eq 8,3,15,0,0,0,.retAddr 0) := rfl
theorem fd_SR_isKind_10 : am_fd mt_SR_isKind.1 10 = (.iload_n 0,1,0,0,0,0,.retAddr 0) := rfl
theorem fd_SR_isKind_11 : am_fd mt_SR_isKind.1 11 = (.iconst 3,1,0,0,0,0,.int 3) := rfl
theorem fd_SR_isKind_12 : am_fd mt_SR_isKind.1 12 = (.if_icmp .ne 7,3,19,0,0,0,.retAddr 0) := rfl
theorem fd_SR_isKind_15 : am_fd mt_SR_isKind.1 15 = (.iconst 1,1,0,0,0,0,.int 1) := rfl
theorem fd_SR_isKind_16 : am_fd mt_SR_isKind.1 16 = (.goto 4,3,20,0,0,0,.retAddr 0) := rfl
theorem fd_SR_isKind_19 : am_fd mt_SR_isKind.1 19 = (.iconst 0,1,0,0,0,0,.int 0) := rfl
theorem fd_SR_isKind_20 : am_fd mt_SR_isKind.1 20 = (.ireturn,1,1,0,0,0,.retAddr 0) := rfl
theorem fd_RunList_countUpTo_0 : am_fd mt_RunList_countUpTo.1 0 = (.iconst 0,1,0,0,0,0,.int 0) := rfl
theorem fd_RunList_countUpTo_1 : am_fd mt_RunList_countUpTo.1 1 = (.istore_n 2,1,2,0,0,0,.retAddr 0) := rfl
theorem fd_RunList_countUpTo_2 : am_fd mt_RunList_countUpTo.1 2 = (.iload_n 2,1,2,0,0,0,.retAddr 0) := rfl
theorem fd_RunList_countUpTo_3 : am_fd mt_RunList_countUpTo.1 3 = (.aload_n 0,1,0,0,0,0,.retAddr 0) := rfl
theorem fd_RunList_countUpTo_4 : am_fd mt_RunList_countUpTo.1 4 = (.getfield 17,3,1,0,6,6,.retAddr 0) := rfl
theorem fd_RunList_countUpTo_7 : am_fd mt_RunList_countUpTo.1 7 = (.if_icmp .ge 28,3,35,0,0,0,.retAddr 0) := rfl
theorem fd_RunList_countUpTo_10 : am_fd mt_RunList_countUpTo.1 10 = (.iload_n 2,1,2,0,0,0,.retAddr 0) := rfl
theorem fd_RunList_countUpTo_11 : am_fd mt_RunList_countUpTo.1 11 = (.bipush 9,2,0,0,0,0,.int 9) := rfl
theorem fd_RunList_countUpTo_13 : am_fd mt_RunList_countUpTo.1 13 = (.if_icmp .ge 22,3,35,0,0,0,.retAddr 0) := rfl
theorem fd_RunList_countUpTo_16 : am_fd mt_RunList_countUpTo.1 16 = (.aload_n 0,1,0,0,0,0,.retAddr 0) := rfl
theorem fd_RunList_countUpTo_17 : am_fd mt_RunList_countUpTo.1 17 = (.getfield 11,3,0,2,6,6,.retAddr 0) := rfl
theorem fd_RunList_countUpTo_20 : am_fd mt_RunList_countUpTo.1 20 = (.iload_n 2,1,2,0,0,0,.retAddr 0) := rfl
theorem fd_RunList_countUpTo_21 : am_fd mt_RunList_countUpTo.1 21 = (.aaload,1,0,0,0,0,.retAddr 0) := rfl
theorem fd_RunList_countUpTo_22 : am_fd mt_RunList_countUpTo.1 22 = (.getfield 28,3,1,0,5,5,.retAddr 0) := rfl
theorem fd_RunList_countUpTo_25 : am_fd mt_RunList_countUpTo.1 25 = (.iload_n 1,1,1,0,0,0,.retAddr 0) := rfl
theorem fd_RunList_countUpTo_26 : am_fd mt_RunList_countUpTo.1 26 = (.if_icmp .gt 9,3,35,0,0,0,.retAddr 0) := rfl
theorem fd_RunList_countUpTo_29 : am_fd mt_RunList_countUpTo.1 29 = (.iinc 2 1,3,2,0,0,0,.int 1) := rfl
theorem fd_RunList_countUpTo_32 : am_fd mt_RunList_countUpTo.1 32 = (.goto (-30),3,2,0,0,0,.retAddr 0) := rfl
theorem fd_RunList_countUpTo_35 : am_fd mt_RunList_countUpTo.1 35 = (.iload_n 2,1,2,0,0,0,.retAddr 0) := rfl
theorem fd_RunList_countUpTo_36 : am_fd mt_RunList_countUpTo.1 36 = (.ireturn,1,0,0,0,0,.retAddr 0) := rfl
theorem fd_SR_mergeRuns_0 : am_fd mt_SR_mergeRuns.1 0 = (.aload_n 0,1,0,0,0,0,.retAddr 0) := rfl
theorem fd_SR_mergeRuns_1 : am_fd mt_SR_mergeRuns.1 1 = (.getfield 19,3,3,2,1,1,.retAddr 0) := rfl
theorem fd_SR_mergeRuns_4 : am_fd mt_SR_mergeRuns.1 4 = (.iconst 0,1,0,0,0,0,.int 0) := rfl
theorem fd_SR_mergeRuns_5 : am_fd mt_SR_mergeRuns.1 5 = (.invokevirtual 156,3,46,2,6,0,.retAddr 0) := rfl
theorem fd_SR_mergeRuns_8 : am_fd mt_SR_mergeRuns.1 8 = (.ifCond .ne 6,3,14,0,0,0,.retAddr 0) := rfl
theorem fd_SR_mergeRuns_11 : am_fd mt_SR_mergeRuns.1 11 = (.ldc 196,2,0,0,0,0,.int (-1000000)) := rfl
theorem fd_SR_mergeRuns_13 : am_fd mt_SR_mergeRuns.1 13 = (.ireturn,1,0,0,0,0,.retAddr 0) := rfl
theorem fd_SR_mergeRuns_14 : am_fd mt_SR_mergeRuns.1 14 = (.iconst 0,1,0,0,0,0,.int 0) := rfl
theorem fd_SR_mergeRuns_15 : am_fd mt_SR_mergeRuns.1 15 = (.istore_n 1,1,1,0,0,0,.retAddr 0) := rfl
theorem fd_SR_mergeRuns_16 : am_fd mt_SR_mergeRuns.1 16 = (.iconst 0,1,0,0,0,0,.int 0) := rfl
theorem fd_SR_mergeRuns_17 : am_fd mt_SR_mergeRuns.1 17 = (.istore_n 2,1,2,0,0,0,.retAddr 0) := rfl
theorem fd_SR_mergeRuns_18 : am_fd mt_SR_mergeRuns.1 18 = (.iconst 0,1,0,0,0,0,.int 0) := rfl
theorem fd_SR_mergeRuns_19 : am_fd mt_SR_mergeRuns.1 19 = (.istore_n 3,1,3,0,0,0,.retAddr 0) := rfl
theorem fd_SR_mergeRuns_20 : am_fd mt_SR_mergeRuns.1 20 = (.iinc 1 1,3,1,0,0,0,.int 1) := rfl
theorem fd_SR_mergeRuns_23 : am_fd mt_SR_mergeRuns.1 23 = (.aload_n 0,1,0,0,0,0,.retAddr 0) := rfl
theorem fd_SR_mergeRuns_24 : am_fd mt_SR_mergeRuns.1 24 = (.getfield 19,3,3,2,1,1,.retAddr 0) := rfl
theorem fd_SR_mergeRuns_27 : am_fd mt_SR_mergeRuns.1 27 = (.iload_n 1,1,1,0,0,0,.retAddr 0) := rfl
theorem fd_SR_mergeRuns_28 : am_fd mt_SR_mergeRuns.1 28 = (.invokevirtual 156,3,46,2,6,0,.retAddr 0) := rfl
theorem fd_SR_mergeRuns_31 : am_fd mt_SR_mergeRuns.1 31 = (.istore 4,2,4,0,0,0,.retAddr 0) := rfl
theorem fd_SR_mergeRuns_33 : am_fd mt_SR_mergeRuns.1 33 = (.aload_n 0,1,0,0,0,0,.retAddr 0) := rfl
theorem fd_SR_mergeRuns_34 : am_fd mt_SR_mergeRuns.1 34 = (.aload_n 0,1,0,0,0,0,.retAddr 0) := rfl
theorem fd_SR_mergeRuns_35 : am_fd mt_SR_mergeRuns.1 35 = (.getfield 19,3,3,2,1,1,.retAddr 0) := rfl
theorem fd_SR_mergeRuns_38 : am_fd mt_SR_mergeRuns.1 38 = (.iload_n 2,1,2,0,0,0,.retAddr 0) := rfl
theorem fd_SR_mergeRuns_39 : am_fd mt_SR_mergeRuns.1 39 = (.iload 4,2,4,0,0,0,.retAddr 0) := rfl
theorem fd_SR_mergeRuns_41 : am_fd mt_SR_mergeRuns.1 41 = (.invokevirtual 197,3,48,4,1,0,.retAddr 0) := rfl
theorem fd_SR_mergeRuns_44 : am_fd mt_SR_mergeRuns.1 44 = (.ifCond .ne 6,3,50,0,0,0,.retAddr 0) := rfl
theorem fd_SR_mergeRuns_47 : am_fd mt_SR_mergeRuns.1 47 = (.ldc 196,2,0,0,0,0,.int (-1000000)) := rfl
theorem fd_SR_mergeRuns_49 : am_fd mt_SR_mergeRuns.1 49 = (.ireturn,1,0,0,0,0,.retAddr 0) := rfl
theorem fd_SR_mergeRuns_50 : am_fd mt_SR_mergeRuns.1 50 = (.iload 4,2,4,0,0,0,.retAddr 0) := rfl
theorem fd_SR_mergeRuns_52 : am_fd mt_SR_mergeRuns.1 52 = (.istore_n 2,1,2,0,0,0,.retAddr 0) := rfl
theorem fd_SR_mergeRuns_53 : am_fd mt_SR_mergeRuns.1 53 = (.aload_n 0,1,0,0,0,0,.retAddr 0) := rfl
theorem fd_SR_mergeRuns_54 : am_fd mt_SR_mergeRuns.1 54 = (.iload_n 2,1,2,0,0,0,.retAddr 0) := rfl
theorem fd_SR_mergeRuns_55 : am_fd mt_SR_mergeRuns.1 55 = (.invokevirtual 201,3,50,2,1,0,.retAddr 0) := rfl
theorem fd_SR_mergeRuns_58 : am_fd mt_SR_mergeRuns.1 58 = (.aload_n 0,1,0,0,0,0,.retAddr 0) := rfl
theorem fd_SR_mergeRuns_59 : am_fd mt_SR_mergeRuns.1 59 = (.iload_n 1,1,1,0,0,0,.retAddr 0) := rfl
theorem fd_SR_mergeRuns_60 : am_fd mt_SR_mergeRuns.1 60 = (.invokestatic 204,3,61,1,0,0,.retAddr 0) := rfl
theorem fd_SR_mergeRuns_63 : am_fd mt_SR_mergeRuns.1 63 = (.invokevirtual 182,3,62,2,1,0,.retAddr 0) := rfl
theorem fd_SR_mergeRuns_66 : am_fd mt_SR_mergeRuns.1 66 = (.istore_n 3,1,3,0,0,0,.retAddr 0) := rfl
theorem fd_SR_mergeRuns_67 : am_fd mt_SR_mergeRuns.1 67 = (.iload_n 1,1,1,0,0,0,.retAddr 0) := rfl
theorem fd_SR_mergeRuns_68 : am_fd mt_SR_mergeRuns.1 68 = (.iconst 3,1,0,0,0,0,.int 3) := rfl
theorem fd_SR_mergeRuns_69 : am_fd mt_SR_mergeRuns.1 69 = (.if_icmp .ge 11,3,80,0,0,0,.retAddr 0) := rfl
theorem fd_SR_mergeRuns_72 : am_fd mt_SR_mergeRuns.1 72 = (.iload_n 3,1,3,0,0,0,.retAddr 0) := rfl
theorem fd_SR_mergeRuns_73 : am_fd mt_SR_mergeRuns.1 73 = (.iload_n 1,1,1,0,0,0,.retAddr 0) := rfl
theorem fd_SR_mergeRuns_74 : am_fd mt_SR_mergeRuns.1 74 = (.invokestatic 204,3,61,1,0,0,.retAddr 0) := rfl
theorem fd_SR_mergeRuns_77 : am_fd mt_SR_mergeRuns.1 77 = (.if_icmp .gt (-57),3,20,0,0,0,.retAddr 0) := rfl
theorem fd_SR_mergeRuns_80 : am_fd mt_SR_mergeRuns.1 80 = (.iload_n 3,1,3,0,0,0,.retAddr 0) := rfl
theorem fd_SR_mergeRuns_81 : am_fd mt_SR_mergeRuns.1 81 = (.aload_n 0,1,0,0,0,0,.retAddr 0) := rfl
theorem fd_SR_mergeRuns_82 : am_fd mt_SR_mergeRuns.1 82 = (.getfield 86,3,1,2,1,1,.retAddr 0) := rfl
theorem fd_SR_mergeRuns_85 : am_fd mt_SR_mergeRuns.1 85 = (.getfield 179,3,4,0,9,9,.retAddr 0) := rfl
theorem fd_SR_mergeRuns_88 : am_fd mt_SR_mergeRuns.1 88 = (.if_icmp .le 6,3,94,0,0,0,.retAddr 0) := rfl
theorem fd_SR_mergeRuns_91 : am_fd mt_SR_mergeRuns.1 91 = (.ldc 196,2,0,0,0,0,.int (-1000000)) := rfl
theorem fd_SR_mergeRuns_93 : am_fd mt_SR_mergeRuns.1 93 = (.ireturn,1,0,0,0,0,.retAddr 0) := rfl
theorem fd_SR_mergeRuns_94 : am_fd mt_SR_mergeRuns.1 94 = (.aload_n 0,1,0,0,0,0,.retAddr 0) := rfl
theorem fd_SR_mergeRuns_95 : am_fd mt_SR_mergeRuns.1 95 = (.iload_n 1,1,1,0,0,0,.retAddr 0) := rfl
theorem fd_SR_mergeRuns_96 : am_fd mt_SR_mergeRuns.1 96 = (.iload_n 2,1,2,0,0,0,.retAddr 0) := rfl
theorem fd_SR_mergeRuns_97 : am_fd mt_SR_mergeRuns.1 97 = (.iload_n 3,1,3,0,0,0,.retAddr 0) := rfl
theorem fd_SR_mergeRuns_98 : am_fd mt_SR_mergeRuns.1 98 = (.invokevirtual 207,3,73,4,1,0,.retAddr 0) := rfl
theorem fd_SR_mergeRuns_101 : am_fd mt_SR_mergeRuns.1 101 = (.ireturn,1,0,0,0,0,.retAddr 0) := rfl
theorem fd_SR_readRuns_0 : am_fd mt_SR_readRuns.1 0 = (.iload_n 2,1,2,0,0,0,.retAddr 0) := rfl
theorem fd_SR_readRuns_1 : am_fd mt_SR_readRuns.1 1 = (.istore 4,2,4,0,0,0,.retAddr 0) := rfl
theorem fd_SR_readRuns_3 : am_fd mt_SR_readRuns.1 3 = (.iload 4,2,4,0,0,0,.retAddr 0) := rfl
theorem fd_SR_readRuns_5 : am_fd mt_SR_readRuns.1 5 = (.iload_n 3,1,3,0,0,0,.retAddr 0) := rfl
theorem fd_SR_readRuns_6 : am_fd mt_SR_readRuns.1 6 = (.if_icmp .ge 76,3,82,0,0,0,.retAddr 0) := rfl
theorem fd_SR_readRuns_9 : am_fd mt_SR_readRuns.1 9 = (.iload 4,2,4,0,0,0,.retAddr 0) := rfl
theorem fd_SR_readRuns_11 : am_fd mt_SR_readRuns.1 11 = (.bipush 9,2,0,0,0,0,.int 9) := rfl
theorem fd_SR_readRuns_13 : am_fd mt_SR_readRuns.1 13 = (.if_icmp .ge 69,3,82,0,0,0,.retAddr 0) := rfl
theorem fd_SR_readRuns_16 : am_fd mt_SR_readRuns.1 16 = (.aload_n 1,1,1,0,0,0,.retAddr 0) := rfl
theorem fd_SR_readRuns_17 : am_fd mt_SR_readRuns.1 17 = (.getfield 167,3,0,2,6,6,.retAddr 0) := rfl
theorem fd_SR_readRuns_20 : am_fd mt_SR_readRuns.1 20 = (.iload 4,2,4,0,0,0,.retAddr 0) := rfl
theorem fd_SR_readRuns_22 : am_fd mt_SR_readRuns.1 22 = (.aaload,1,0,0,0,0,.retAddr 0) := rfl
theorem fd_SR_readRuns_23 : am_fd mt_SR_readRuns.1 23 = (.astore 5,2,5,0,0,0,.retAddr 0) := rfl
theorem fd_SR_readRuns_25 : am_fd mt_SR_readRuns.1 25 = (.aload 5,2,5,0,0,0,.retAddr 0) := rfl
theorem fd_SR_readRuns_27 : am_fd mt_SR_readRuns.1 27 = (.getfield 224,3,3,0,5,5,.retAddr 0) := rfl
theorem fd_SR_readRuns_30 : am_fd mt_SR_readRuns.1 30 = (.istore 6,2,6,0,0,0,.retAddr 0) := rfl
theorem fd_SR_readRuns_32 : am_fd mt_SR_readRuns.1 32 = (.iconst 0,1,0,0,0,0,.int 0) := rfl
theorem fd_SR_readRuns_33 : am_fd mt_SR_readRuns.1 33 = (.istore 7,2,7,0,0,0,.retAddr 0) := rfl
theorem fd_SR_readRuns_35 : am_fd mt_SR_readRuns.1 35 = (.iload 7,2,7,0,0,0,.retAddr 0) := rfl
theorem fd_SR_readRuns_37 : am_fd mt_SR_readRuns.1 37 = (.aload 5,2,5,0,0,0,.retAddr 0) := rfl
theorem fd_SR_readRuns_39 : am_fd mt_SR_readRuns.1 39 = (.getfield 227,3,4,0,5,5,.retAddr 0) := rfl
theorem fd_SR_readRuns_42 : am_fd mt_SR_readRuns.1 42 = (.if_icmp .ge 34,3,76,0,0,0,.retAddr 0) := rfl
theorem fd_SR_readRuns_45 : am_fd mt_SR_readRuns.1 45 = (.aload_n 0,1,0,0,0,0,.retAddr 0) := rfl
theorem fd_SR_readRuns_46 : am_fd mt_SR_readRuns.1 46 = (.getfield 79,3,0,2,1,1,.retAddr 0) := rfl
theorem fd_SR_readRuns_49 : am_fd mt_SR_readRuns.1 49 = (.iload 6,2,6,0,0,0,.retAddr 0) := rfl
theorem fd_SR_readRuns_51 : am_fd mt_SR_readRuns.1 51 = (.invokevirtual 230,3,49,2,4,0,.retAddr 0) := rfl
theorem fd_SR_readRuns_54 : am_fd mt_SR_readRuns.1 54 = (.ifCond .ne 5,3,59,0,0,0,.retAddr 0) := rfl
theorem fd_SR_readRuns_57 : am_fd mt_SR_readRuns.1 57 = (.iconst 0,1,0,0,0,0,.int 0) := rfl
theorem fd_SR_readRuns_58 : am_fd mt_SR_readRuns.1 58 = (.ireturn,1,1,0,0,0,.retAddr 0) := rfl
theorem fd_SR_readRuns_59 : am_fd mt_SR_readRuns.1 59 = (.aload_n 0,1,0,0,0,0,.retAddr 0) := rfl
theorem fd_SR_readRuns_60 : am_fd mt_SR_readRuns.1 60 = (.getfield 86,3,1,2,1,1,.retAddr 0) := rfl
theorem fd_SR_readRuns_63 : am_fd mt_SR_readRuns.1 63 = (.iload 6,2,6,0,0,0,.retAddr 0) := rfl
theorem fd_SR_readRuns_65 : am_fd mt_SR_readRuns.1 65 = (.invokevirtual 233,3,25,2,9,0,.retAddr 0) := rfl
theorem fd_SR_readRuns_68 : am_fd mt_SR_readRuns.1 68 = (.istore 6,2,6,0,0,0,.retAddr 0) := rfl
theorem fd_SR_readRuns_70 : am_fd mt_SR_readRuns.1 70 = (.iinc 7 1,3,7,0,0,0,.int 1) := rfl
theorem fd_SR_readRuns_73 : am_fd mt_SR_readRuns.1 73 = (.goto (-38),3,35,0,0,0,.retAddr 0) := rfl
theorem fd_SR_readRuns_76 : am_fd mt_SR_readRuns.1 76 = (.iinc 4 1,3,4,0,0,0,.int 1) := rfl
theorem fd_SR_readRuns_79 : am_fd mt_SR_readRuns.1 79 = (.goto (-76),3,3,0,0,0,.retAddr 0) := rfl
theorem fd_SR_readRuns_82 : am_fd mt_SR_readRuns.1 82 = (.iconst 1,1,0,0,0,0,.int 1) := rfl
theorem fd_SR_readRuns_83 : am_fd mt_SR_readRuns.1 83 = (.ireturn,1,1,0,0,0,.retAddr 0) := rfl
theorem fd_Pages_readsRight_0 : am_fd mt_Pages_readsRight.1 0 = (.aload_n 0,1,0,0,0,0,.retAddr 0) := rfl
theorem fd_Pages_readsRight_1 : am_fd mt_Pages_readsRight.1 1 = (.dup,1,0,0,0,0,.retAddr 0) := rfl
theorem fd_Pages_readsRight_2 : am_fd mt_Pages_readsRight.1 2 = (.getfield 9,3,3,0,4,4,.retAddr 0) := rfl
theorem fd_Pages_readsRight_5 : am_fd mt_Pages_readsRight.1 5 = (.iconst 1,1,0,0,0,0,.int 1) := rfl
theorem fd_Pages_readsRight_6 : am_fd mt_Pages_readsRight.1 6 = (.iadd,1,0,0,0,0,.retAddr 0) := rfl
theorem fd_Pages_readsRight_7 : am_fd mt_Pages_readsRight.1 7 = (.putfield 9,3,3,0,4,4,.retAddr 0) := rfl
theorem fd_Pages_readsRight_10 : am_fd mt_Pages_readsRight.1 10 = (.aload_n 0,1,0,0,0,0,.retAddr 0) := rfl
theorem fd_Pages_readsRight_11 : am_fd mt_Pages_readsRight.1 11 = (.iload_n 1,1,1,0,0,0,.retAddr 0) := rfl
theorem fd_Pages_readsRight_12 : am_fd mt_Pages_readsRight.1 12 = (.invokevirtual 46,3,23,2,4,0,.retAddr 0) := rfl
theorem fd_Pages_readsRight_15 : am_fd mt_Pages_readsRight.1 15 = (.ireturn,1,1,0,0,0,.retAddr 0) := rfl
theorem fd_SR_blendRuns_0 : am_fd mt_SR_blendRuns.1 0 = (.aload_n 0,1,0,0,0,0,.retAddr 0) := rfl
theorem fd_SR_blendRuns_1 : am_fd mt_SR_blendRuns.1 1 = (.getfield 95,3,5,2,1,1,.retAddr 0) := rfl
theorem fd_SR_blendRuns_4 : am_fd mt_SR_blendRuns.1 4 = (.iload_n 1,1,1,0,0,0,.retAddr 0) := rfl
theorem fd_SR_blendRuns_5 : am_fd mt_SR_blendRuns.1 5 = (.aload_n 0,1,0,0,0,0,.retAddr 0) := rfl
theorem fd_SR_blendRuns_6 : am_fd mt_SR_blendRuns.1 6 = (.getfield 19,3,3,2,1,1,.retAddr 0) := rfl
theorem fd_SR_blendRuns_9 : am_fd mt_SR_blendRuns.1 9 = (.getfield 243,3,1,0,6,6,.retAddr 0) := rfl
theorem fd_SR_blendRuns_12 : am_fd mt_SR_blendRuns.1 12 = (.if_icmp .ne 7,3,19,0,0,0,.retAddr 0) := rfl
theorem fd_SR_blendRuns_15 : am_fd mt_SR_blendRuns.1 15 = (.iconst 1,1,0,0,0,0,.int 1) := rfl
theorem fd_SR_blendRuns_16 : am_fd mt_SR_blendRuns.1 16 = (.goto 4,3,20,0,0,0,.retAddr 0) := rfl
theorem fd_SR_blendRuns_19 : am_fd mt_SR_blendRuns.1 19 = (.iconst 0,1,0,0,0,0,.int 0) := rfl
theorem fd_SR_blendRuns_20 : am_fd mt_SR_blendRuns.1 20 = (.invokevirtual 236,3,51,2,2,0,.retAddr 0) := rfl
theorem fd_SR_blendRuns_23 : am_fd mt_SR_blendRuns.1 23 = (.iconst 0,1,0,0,0,0,.int 0) := rfl
theorem fd_SR_blendRuns_24 : am_fd mt_SR_blendRuns.1 24 = (.istore_n 2,1,2,0,0,0,.retAddr 0) := rfl
theorem fd_SR_blendRuns_25 : am_fd mt_SR_blendRuns.1 25 = (.iload_n 2,1,2,0,0,0,.retAddr 0) := rfl
theorem fd_SR_blendRuns_26 : am_fd mt_SR_blendRuns.1 26 = (.iload_n 1,1,1,0,0,0,.retAddr 0) := rfl
theorem fd_SR_blendRuns_27 : am_fd mt_SR_blendRuns.1 27 = (.if_icmp .ge 34,3,61,0,0,0,.retAddr 0) := rfl
theorem fd_SR_blendRuns_30 : am_fd mt_SR_blendRuns.1 30 = (.iload_n 2,1,2,0,0,0,.retAddr 0) := rfl
theorem fd_SR_blendRuns_31 : am_fd mt_SR_blendRuns.1 31 = (.bipush 9,2,0,0,0,0,.int 9) := rfl
theorem fd_SR_blendRuns_33 : am_fd mt_SR_blendRuns.1 33 = (.if_icmp .ge 28,3,61,0,0,0,.retAddr 0) := rfl
theorem fd_SR_blendRuns_36 : am_fd mt_SR_blendRuns.1 36 = (.aload_n 0,1,0,0,0,0,.retAddr 0) := rfl
theorem fd_SR_blendRuns_37 : am_fd mt_SR_blendRuns.1 37 = (.getfield 95,3,5,2,1,1,.retAddr 0) := rfl
theorem fd_SR_blendRuns_40 : am_fd mt_SR_blendRuns.1 40 = (.aload_n 0,1,0,0,0,0,.retAddr 0) := rfl
theorem fd_SR_blendRuns_41 : am_fd mt_SR_blendRuns.1 41 = (.getfield 19,3,3,2,1,1,.retAddr 0) := rfl
theorem fd_SR_blendRuns_44 : am_fd mt_SR_blendRuns.1 44 = (.getfield 167,3,0,2,6,6,.retAddr 0) := rfl
theorem fd_SR_blendRuns_47 : am_fd mt_SR_blendRuns.1 47 = (.iload_n 2,1,2,0,0,0,.retAddr 0) := rfl
theorem fd_SR_blendRuns_48 : am_fd mt_SR_blendRuns.1 48 = (.aaload,1,0,0,0,0,.retAddr 0) := rfl
theorem fd_SR_blendRuns_49 : am_fd mt_SR_blendRuns.1 49 = (.ldc2_w 244,3,0,0,0,0,.long (-9223372036854775808)) := rfl
theorem fd_SR_blendRuns_52 : am_fd mt_SR_blendRuns.1 52 = (.invokevirtual 246,3,52,3,2,0,.retAddr 0) := rfl
theorem fd_SR_blendRuns_55 : am_fd mt_SR_blendRuns.1 55 = (.iinc 2 1,3,2,0,0,0,.int 1) := rfl
theorem fd_SR_blendRuns_58 : am_fd mt_SR_blendRuns.1 58 = (.goto (-33),3,25,0,0,0,.retAddr 0) := rfl
theorem fd_SR_blendRuns_61 : am_fd mt_SR_blendRuns.1 61 = (.return_,1,0,0,0,0,.retAddr 0) := rfl
theorem fd_Blend_begin_0 : am_fd mt_Blend_begin.1 0 = (.aload_n 0,1,0,0,0,0,.retAddr 0) := rfl
theorem fd_Blend_begin_1 : am_fd mt_Blend_begin.1 1 = (.iload_n 1,1,1,0,0,0,.retAddr 0) := rfl
theorem fd_Blend_begin_2 : am_fd mt_Blend_begin.1 2 = (.putfield 41,3,7,3,2,2,.retAddr 0) := rfl
theorem fd_Blend_begin_5 : am_fd mt_Blend_begin.1 5 = (.aload_n 0,1,0,0,0,0,.retAddr 0) := rfl
theorem fd_Blend_begin_6 : am_fd mt_Blend_begin.1 6 = (.iconst 0,1,0,0,0,0,.int 0) := rfl
theorem fd_Blend_begin_7 : am_fd mt_Blend_begin.1 7 = (.putfield 34,3,5,0,2,2,.retAddr 0) := rfl
theorem fd_Blend_begin_10 : am_fd mt_Blend_begin.1 10 = (.aload_n 0,1,0,0,0,0,.retAddr 0) := rfl
theorem fd_Blend_begin_11 : am_fd mt_Blend_begin.1 11 = (.iconst 0,1,0,0,0,0,.int 0) := rfl
theorem fd_Blend_begin_12 : am_fd mt_Blend_begin.1 12 = (.putfield 38,3,6,0,2,2,.retAddr 0) := rfl
theorem fd_Blend_begin_15 : am_fd mt_Blend_begin.1 15 = (.return_,1,0,0,0,0,.retAddr 0) := rfl
theorem fd_Blend_addRun_0 : am_fd mt_Blend_addRun.1 0 = (.aload_n 0,1,0,0,0,0,.retAddr 0) := rfl
theorem fd_Blend_addRun_1 : am_fd mt_Blend_addRun.1 1 = (.getfield 38,3,6,0,2,2,.retAddr 0) := rfl
theorem fd_Blend_addRun_4 : am_fd mt_Blend_addRun.1 4 = (.bipush 9,2,0,0,0,0,.int 9) := rfl
theorem fd_Blend_addRun_6 : am_fd mt_Blend_addRun.1 6 = (.if_icmp .ge 42,3,48,0,0,0,.retAddr 0) := rfl
theorem fd_Blend_addRun_9 : am_fd mt_Blend_addRun.1 9 = (.aload_n 0,1,0,0,0,0,.retAddr 0) := rfl
theorem fd_Blend_addRun_10 : am_fd mt_Blend_addRun.1 10 = (.getfield 24,3,3,2,2,2,.retAddr 0) := rfl
theorem fd_Blend_addRun_13 : am_fd mt_Blend_addRun.1 13 = (.aload_n 0,1,0,0,0,0,.retAddr 0) := rfl
theorem fd_Blend_addRun_14 : am_fd mt_Blend_addRun.1 14 = (.getfield 38,3,6,0,2,2,.retAddr 0) := rfl
theorem fd_Blend_addRun_17 : am_fd mt_Blend_addRun.1 17 = (.aaload,1,0,0,0,0,.retAddr 0) := rfl
theorem fd_Blend_addRun_18 : am_fd mt_Blend_addRun.1 18 = (.astore 4,2,4,0,0,0,.retAddr 0) := rfl
theorem fd_Blend_addRun_20 : am_fd mt_Blend_addRun.1 20 = (.aload_n 0,1,0,0,0,0,.retAddr 0) := rfl
theorem fd_Blend_addRun_21 : am_fd mt_Blend_addRun.1 21 = (.dup,1,0,0,0,0,.retAddr 0) := rfl
theorem fd_Blend_addRun_22 : am_fd mt_Blend_addRun.1 22 = (.getfield 38,3,6,0,2,2,.retAddr 0) := rfl
theorem fd_Blend_addRun_25 : am_fd mt_Blend_addRun.1 25 = (.iconst 1,1,0,0,0,0,.int 1) := rfl
theorem fd_Blend_addRun_26 : am_fd mt_Blend_addRun.1 26 = (.iadd,1,0,0,0,0,.retAddr 0) := rfl
theorem fd_Blend_addRun_27 : am_fd mt_Blend_addRun.1 27 = (.putfield 38,3,6,0,2,2,.retAddr 0) := rfl
theorem fd_Blend_addRun_30 : am_fd mt_Blend_addRun.1 30 = (.aload 4,2,4,0,0,0,.retAddr 0) := rfl
theorem fd_Blend_addRun_32 : am_fd mt_Blend_addRun.1 32 = (.aload_n 1,1,1,0,0,0,.retAddr 0) := rfl
theorem fd_Blend_addRun_33 : am_fd mt_Blend_addRun.1 33 = (.lload_n 2,1,2,0,0,0,.retAddr 0) := rfl
theorem fd_Blend_addRun_34 : am_fd mt_Blend_addRun.1 34 = (.invokevirtual 67,3,53,3,7,0,.retAddr 0) := rfl
theorem fd_Blend_addRun_37 : am_fd mt_Blend_addRun.1 37 = (.aload 4,2,4,0,0,0,.retAddr 0) := rfl
theorem fd_Blend_addRun_39 : am_fd mt_Blend_addRun.1 39 = (.invokevirtual 70,3,55,1,7,0,.retAddr 0) := rfl
theorem fd_Blend_addRun_42 : am_fd mt_Blend_addRun.1 42 = (.aload_n 0,1,0,0,0,0,.retAddr 0) := rfl
theorem fd_Blend_addRun_43 : am_fd mt_Blend_addRun.1 43 = (.aload 4,2,4,0,0,0,.retAddr 0) := rfl
theorem fd_Blend_addRun_45 : am_fd mt_Blend_addRun.1 45 = (.invokevirtual 63,3,60,2,2,0,.retAddr 0) := rfl
theorem fd_Blend_addRun_48 : am_fd mt_Blend_addRun.1 48 = (.return_,1,0,0,0,0,.retAddr 0) := rfl
theorem fd_RunStream_start_0 : am_fd mt_RunStream_start.1 0 = (.aload_n 0,1,0,0,0,0,.retAddr 0) := rfl
theorem fd_RunStream_start_1 : am_fd mt_RunStream_start.1 1 = (.aload_n 1,1,1,0,0,0,.retAddr 0) := rfl
theorem fd_RunStream_start_2 : am_fd mt_RunStream_start.1 2 = (.getfield 35,3,3,0,5,5,.retAddr 0) := rfl
theorem fd_RunStream_start_5 : am_fd mt_RunStream_start.1 5 = (.putfield 9,3,6,0,7,7,.retAddr 0) := rfl
theorem fd_RunStream_start_8 : am_fd mt_RunStream_start.1 8 = (.aload_n 0,1,0,0,0,0,.retAddr 0) := rfl
theorem fd_RunStream_start_9 : am_fd mt_RunStream_start.1 9 = (.aload_n 1,1,1,0,0,0,.retAddr 0) := rfl
theorem fd_RunStream_start_10 : am_fd mt_RunStream_start.1 10 = (.getfield 40,3,4,0,5,5,.retAddr 0) := rfl
theorem fd_RunStream_start_13 : am_fd mt_RunStream_start.1 13 = (.putfield 15,3,7,0,7,7,.retAddr 0) := rfl
theorem fd_RunStream_start_16 : am_fd mt_RunStream_start.1 16 = (.aload_n 0,1,0,0,0,0,.retAddr 0) := rfl
theorem fd_RunStream_start_17 : am_fd mt_RunStream_start.1 17 = (.iconst 0,1,0,0,0,0,.int 0) := rfl
theorem fd_RunStream_start_18 : am_fd mt_RunStream_start.1 18 = (.putfield 18,3,8,0,7,7,.retAddr 0) := rfl
theorem fd_RunStream_start_21 : am_fd mt_RunStream_start.1 21 = (.aload_n 0,1,0,0,0,0,.retAddr 0) := rfl
theorem fd_RunStream_start_22 : am_fd mt_RunStream_start.1 22 = (.getfield 15,3,7,0,7,7,.retAddr 0) := rfl
theorem fd_RunStream_start_25 : am_fd mt_RunStream_start.1 25 = (.iconst 1,1,0,0,0,0,.int 1) := rfl
theorem fd_RunStream_start_26 : am_fd mt_RunStream_start.1 26 = (.if_icmp .le 53,3,79,0,0,0,.retAddr 0) := rfl
theorem fd_RunStream_start_29 : am_fd mt_RunStream_start.1 29 = (.aload_n 0,1,0,0,0,0,.retAddr 0) := rfl
theorem fd_RunStream_start_30 : am_fd mt_RunStream_start.1 30 = (.getfield 31,3,5,2,7,7,.retAddr 0) := rfl
theorem fd_RunStream_start_33 : am_fd mt_RunStream_start.1 33 = (.aload_n 0,1,0,0,0,0,.retAddr 0) := rfl
theorem fd_RunStream_start_34 : am_fd mt_RunStream_start.1 34 = (.getfield 31,3,5,2,7,7,.retAddr 0) := rfl
theorem fd_RunStream_start_37 : am_fd mt_RunStream_start.1 37 = (.aload_n 0,1,0,0,0,0,.retAddr 0) := rfl
theorem fd_RunStream_start_38 : am_fd mt_RunStream_start.1 38 = (.getfield 9,3,6,0,7,7,.retAddr 0) := rfl
theorem fd_RunStream_start_41 : am_fd mt_RunStream_start.1 41 = (.invokevirtual 43,3,25,2,9,0,.retAddr 0) := rfl
theorem fd_RunStream_start_44 : am_fd mt_RunStream_start.1 44 = (.lload_n 2,1,2,0,0,0,.retAddr 0) := rfl
theorem fd_RunStream_start_45 : am_fd mt_RunStream_start.1 45 = (.invokevirtual 49,3,54,3,9,0,.retAddr 0) := rfl
theorem fd_RunStream_start_48 : am_fd mt_RunStream_start.1 48 = (.ifCond .ne 31,3,79,0,0,0,.retAddr 0) := rfl
theorem fd_RunStream_start_51 : am_fd mt_RunStream_start.1 51 = (.aload_n 0,1,0,0,0,0,.retAddr 0) := rfl
theorem fd_RunStream_start_52 : am_fd mt_RunStream_start.1 52 = (.aload_n 0,1,0,0,0,0,.retAddr 0) := rfl
theorem fd_RunStream_start_53 : am_fd mt_RunStream_start.1 53 = (.getfield 31,3,5,2,7,7,.retAddr 0) := rfl
theorem fd_RunStream_start_56 : am_fd mt_RunStream_start.1 56 = (.aload_n 0,1,0,0,0,0,.retAddr 0) := rfl
theorem fd_RunStream_start_57 : am_fd mt_RunStream_start.1 57 = (.getfield 9,3,6,0,7,7,.retAddr 0) := rfl
theorem fd_RunStream_start_60 : am_fd mt_RunStream_start.1 60 = (.invokevirtual 43,3,25,2,9,0,.retAddr 0) := rfl
theorem fd_RunStream_start_63 : am_fd mt_RunStream_start.1 63 = (.putfield 9,3,6,0,7,7,.retAddr 0) := rfl
theorem fd_RunStream_start_66 : am_fd mt_RunStream_start.1 66 = (.aload_n 0,1,0,0,0,0,.retAddr 0) := rfl
theorem fd_RunStream_start_67 : am_fd mt_RunStream_start.1 67 = (.dup,1,0,0,0,0,.retAddr 0) := rfl
theorem fd_RunStream_start_68 : am_fd mt_RunStream_start.1 68 = (.getfield 15,3,7,0,7,7,.retAddr 0) := rfl
theorem fd_RunStream_start_71 : am_fd mt_RunStream_start.1 71 = (.iconst 1,1,0,0,0,0,.int 1) := rfl
theorem fd_RunStream_start_72 : am_fd mt_RunStream_start.1 72 = (.isub,1,0,0,0,0,.retAddr 0) := rfl
theorem fd_RunStream_start_73 : am_fd mt_RunStream_start.1 73 = (.putfield 15,3,7,0,7,7,.retAddr 0) := rfl
theorem fd_RunStream_start_76 : am_fd mt_RunStream_start.1 76 = (.goto (-55),3,21,0,0,0,.retAddr 0) := rfl
theorem fd_RunStream_start_79 : am_fd mt_RunStream_start.1 79 = (.return_,1,0,0,0,0,.retAddr 0) := rfl
theorem fd_Space_beginsAbove_0 : am_fd mt_Space_beginsAbove.1 0 = (.aload_n 0,1,0,0,0,0,.retAddr 0) := rfl
theorem fd_Space_beginsAbove_1 : am_fd mt_Space_beginsAbove.1 1 = (.iload_n 1,1,1,0,0,0,.retAddr 0) := rfl
theorem fd_Space_beginsAbove_2 : am_fd mt_Space_beginsAbove.1 2 = (.invokevirtual 35,3,26,2,9,0,.retAddr 0) := rfl
theorem fd_Space_beginsAbove_5 : am_fd mt_Space_beginsAbove.1 5 = (.ifCond .eq 14,3,19,0,0,0,.retAddr 0) := rfl
theorem fd_Space_beginsAbove_8 : am_fd mt_Space_beginsAbove.1 8 = (.aload_n 0,1,0,0,0,0,.retAddr 0) := rfl
theorem fd_Space_beginsAbove_9 : am_fd mt_Space_beginsAbove.1 9 = (.getfield 22,3,3,2,9,9,.retAddr 0) := rfl
theorem fd_Space_beginsAbove_12 : am_fd mt_Space_beginsAbove.1 12 = (.iload_n 1,1,1,0,0,0,.retAddr 0) := rfl
theorem fd_Space_beginsAbove_13 : am_fd mt_Space_beginsAbove.1 13 = (.laload,1,0,0,0,0,.retAddr 0) := rfl
theorem fd_Space_beginsAbove_14 : am_fd mt_Space_beginsAbove.1 14 = (.lload_n 2,1,2,0,0,0,.retAddr 0) := rfl
theorem fd_Space_beginsAbove_15 : am_fd mt_Space_beginsAbove.1 15 = (.lcmp,1,0,0,0,0,.retAddr 0) := rfl
theorem fd_Space_beginsAbove_16 : am_fd mt_Space_beginsAbove.1 16 = (.ifCond .le 7,3,23,0,0,0,.retAddr 0) := rfl
theorem fd_Space_beginsAbove_19 : am_fd mt_Space_beginsAbove.1 19 = (.iconst 1,1,0,0,0,0,.int 1) := rfl
theorem fd_Space_beginsAbove_20 : am_fd mt_Space_beginsAbove.1 20 = (.goto 4,3,24,0,0,0,.retAddr 0) := rfl
theorem fd_Space_beginsAbove_23 : am_fd mt_Space_beginsAbove.1 23 = (.iconst 0,1,0,0,0,0,.int 0) := rfl
theorem fd_Space_beginsAbove_24 : am_fd mt_Space_beginsAbove.1 24 = (.ireturn,1,1,0,0,0,.retAddr 0) := rfl
theorem fd_RunStream_step_0 : am_fd mt_RunStream_step.1 0 = (.aload_n 0,1,0,0,0,0,.retAddr 0) := rfl
theorem fd_RunStream_step_1 : am_fd mt_RunStream_step.1 1 = (.getfield 18,3,8,0,7,7,.retAddr 0) := rfl
theorem fd_RunStream_step_4 : am_fd mt_RunStream_step.1 4 = (.ifCond .ne 73,3,77,0,0,0,.retAddr 0) := rfl
theorem fd_RunStream_step_7 : am_fd mt_RunStream_step.1 7 = (.aload_n 0,1,0,0,0,0,.retAddr 0) := rfl
theorem fd_RunStream_step_8 : am_fd mt_RunStream_step.1 8 = (.getfield 15,3,7,0,7,7,.retAddr 0) := rfl
theorem fd_RunStream_step_11 : am_fd mt_RunStream_step.1 11 = (.ifCond .le 66,3,77,0,0,0,.retAddr 0) := rfl
theorem fd_RunStream_step_14 : am_fd mt_RunStream_step.1 14 = (.aload_n 0,1,0,0,0,0,.retAddr 0) := rfl
theorem fd_RunStream_step_15 : am_fd mt_RunStream_step.1 15 = (.getfield 9,3,6,0,7,7,.retAddr 0) := rfl
theorem fd_RunStream_step_18 : am_fd mt_RunStream_step.1 18 = (.istore_n 1,1,1,0,0,0,.retAddr 0) := rfl
theorem fd_RunStream_step_19 : am_fd mt_RunStream_step.1 19 = (.aload_n 0,1,0,0,0,0,.retAddr 0) := rfl
theorem fd_RunStream_step_20 : am_fd mt_RunStream_step.1 20 = (.dup,1,0,0,0,0,.retAddr 0) := rfl
theorem fd_RunStream_step_21 : am_fd mt_RunStream_step.1 21 = (.getfield 15,3,7,0,7,7,.retAddr 0) := rfl
theorem fd_RunStream_step_24 : am_fd mt_RunStream_step.1 24 = (.iconst 1,1,0,0,0,0,.int 1) := rfl
theorem fd_RunStream_step_25 : am_fd mt_RunStream_step.1 25 = (.isub,1,0,0,0,0,.retAddr 0) := rfl
theorem fd_RunStream_step_26 : am_fd mt_RunStream_step.1 26 = (.putfield 15,3,7,0,7,7,.retAddr 0) := rfl
theorem fd_RunStream_step_29 : am_fd mt_RunStream_step.1 29 = (.aload_n 0,1,0,0,0,0,.retAddr 0) := rfl
theorem fd_RunStream_step_30 : am_fd mt_RunStream_step.1 30 = (.aload_n 0,1,0,0,0,0,.retAddr 0) := rfl
theorem fd_RunStream_step_31 : am_fd mt_RunStream_step.1 31 = (.getfield 31,3,5,2,7,7,.retAddr 0) := rfl
theorem fd_RunStream_step_34 : am_fd mt_RunStream_step.1 34 = (.iload_n 1,1,1,0,0,0,.retAddr 0) := rfl
theorem fd_RunStream_step_35 : am_fd mt_RunStream_step.1 35 = (.invokevirtual 43,3,25,2,9,0,.retAddr 0) := rfl
theorem fd_RunStream_step_38 : am_fd mt_RunStream_step.1 38 = (.putfield 9,3,6,0,7,7,.retAddr 0) := rfl
theorem fd_RunStream_step_41 : am_fd mt_RunStream_step.1 41 = (.aload_n 0,1,0,0,0,0,.retAddr 0) := rfl
theorem fd_RunStream_step_42 : am_fd mt_RunStream_step.1 42 = (.aload_n 0,1,0,0,0,0,.retAddr 0) := rfl
theorem fd_RunStream_step_43 : am_fd mt_RunStream_step.1 43 = (.getfield 27,3,4,2,7,7,.retAddr 0) := rfl
theorem fd_RunStream_step_46 : am_fd mt_RunStream_step.1 46 = (.iload_n 1,1,1,0,0,0,.retAddr 0) := rfl
theorem fd_RunStream_step_47 : am_fd mt_RunStream_step.1 47 = (.iconst 4,1,0,0,0,0,.int 4) := rfl
theorem fd_RunStream_step_48 : am_fd mt_RunStream_step.1 48 = (.invokevirtual 53,3,56,3,4,0,.retAddr 0) := rfl
theorem fd_RunStream_step_51 : am_fd mt_RunStream_step.1 51 = (.putfield 18,3,8,0,7,7,.retAddr 0) := rfl
theorem fd_RunStream_step_54 : am_fd mt_RunStream_step.1 54 = (.aload_n 0,1,0,0,0,0,.retAddr 0) := rfl
theorem fd_RunStream_step_55 : am_fd mt_RunStream_step.1 55 = (.iload_n 1,1,1,0,0,0,.retAddr 0) := rfl
theorem fd_RunStream_step_56 : am_fd mt_RunStream_step.1 56 = (.sipush 128,3,0,0,0,0,.int 128) := rfl
theorem fd_RunStream_step_59 : am_fd mt_RunStream_step.1 59 = (.imul,1,0,0,0,0,.retAddr 0) := rfl
theorem fd_RunStream_step_60 : am_fd mt_RunStream_step.1 60 = (.iconst 5,1,0,0,0,0,.int 5) := rfl
theorem fd_RunStream_step_61 : am_fd mt_RunStream_step.1 61 = (.iadd,1,0,0,0,0,.retAddr 0) := rfl
theorem fd_RunStream_step_62 : am_fd mt_RunStream_step.1 62 = (.putfield 21,3,9,0,7,7,.retAddr 0) := rfl
theorem fd_RunStream_step_65 : am_fd mt_RunStream_step.1 65 = (.aload_n 0,1,0,0,0,0,.retAddr 0) := rfl
theorem fd_RunStream_step_66 : am_fd mt_RunStream_step.1 66 = (.iload_n 1,1,1,0,0,0,.retAddr 0) := rfl
theorem fd_RunStream_step_67 : am_fd mt_RunStream_step.1 67 = (.sipush 128,3,0,0,0,0,.int 128) := rfl
theorem fd_RunStream_step_70 : am_fd mt_RunStream_step.1 70 = (.imul,1,0,0,0,0,.retAddr 0) := rfl
theorem fd_RunStream_step_71 : am_fd mt_RunStream_step.1 71 = (.bipush 120,2,0,0,0,0,.int 120) := rfl
theorem fd_RunStream_step_73 : am_fd mt_RunStream_step.1 73 = (.iadd,1,0,0,0,0,.retAddr 0) := rfl
theorem fd_RunStream_step_74 : am_fd mt_RunStream_step.1 74 = (.putfield 24,3,10,0,7,7,.retAddr 0) := rfl
theorem fd_RunStream_step_77 : am_fd mt_RunStream_step.1 77 = (.aload_n 0,1,0,0,0,0,.retAddr 0) := rfl
theorem fd_RunStream_step_78 : am_fd mt_RunStream_step.1 78 = (.aload_n 0,1,0,0,0,0,.retAddr 0) := rfl
theorem fd_RunStream_step_79 : am_fd mt_RunStream_step.1 79 = (.getfield 18,3,8,0,7,7,.retAddr 0) := rfl
theorem fd_RunStream_step_82 : am_fd mt_RunStream_step.1 82 = (.ifCond .le 7,3,89,0,0,0,.retAddr 0) := rfl
theorem fd_RunStream_step_85 : am_fd mt_RunStream_step.1 85 = (.iconst 1,1,0,0,0,0,.int 1) := rfl
theorem fd_RunStream_step_86 : am_fd mt_RunStream_step.1 86 = (.goto 4,3,90,0,0,0,.retAddr 0) := rfl
theorem fd_RunStream_step_89 : am_fd mt_RunStream_step.1 89 = (.iconst 0,1,0,0,0,0,.int 0) := rfl
theorem fd_RunStream_step_90 : am_fd mt_RunStream_step.1 90 = (.putfield 59,3,0,3,7,7,.retAddr 0) := rfl
theorem fd_RunStream_step_93 : am_fd mt_RunStream_step.1 93 = (.aload_n 0,1,0,0,0,0,.retAddr 0) := rfl
theorem fd_RunStream_step_94 : am_fd mt_RunStream_step.1 94 = (.getfield 59,3,0,0,7,7,.retAddr 0) := rfl
theorem fd_RunStream_step_97 : am_fd mt_RunStream_step.1 97 = (.ifCond .eq 45,3,142,0,0,0,.retAddr 0) := rfl
theorem fd_RunStream_step_100 : am_fd mt_RunStream_step.1 100 = (.aload_n 0,1,0,0,0,0,.retAddr 0) := rfl
theorem fd_RunStream_step_101 : am_fd mt_RunStream_step.1 101 = (.dup,1,0,0,0,0,.retAddr 0) := rfl
theorem fd_RunStream_step_102 : am_fd mt_RunStream_step.1 102 = (.getfield 18,3,8,0,7,7,.retAddr 0) := rfl
theorem fd_RunStream_step_105 : am_fd mt_RunStream_step.1 105 = (.iconst 1,1,0,0,0,0,.int 1) := rfl
theorem fd_RunStream_step_106 : am_fd mt_RunStream_step.1 106 = (.isub,1,0,0,0,0,.retAddr 0) := rfl
theorem fd_RunStream_step_107 : am_fd mt_RunStream_step.1 107 = (.putfield 18,3,8,0,7,7,.retAddr 0) := rfl
theorem fd_RunStream_step_110 : am_fd mt_RunStream_step.1 110 = (.aload_n 0,1,0,0,0,0,.retAddr 0) := rfl
theorem fd_RunStream_step_111 : am_fd mt_RunStream_step.1 111 = (.invokevirtual 63,3,57,1,7,0,.retAddr 0) := rfl
theorem fd_RunStream_step_114 : am_fd mt_RunStream_step.1 114 = (.aload_n 0,1,0,0,0,0,.retAddr 0) := rfl
theorem fd_RunStream_step_115 : am_fd mt_RunStream_step.1 115 = (.aload_n 0,1,0,0,0,0,.retAddr 0) := rfl
theorem fd_RunStream_step_116 : am_fd mt_RunStream_step.1 116 = (.invokevirtual 66,3,58,1,7,0,.retAddr 0) := rfl
theorem fd_RunStream_step_119 : am_fd mt_RunStream_step.1 119 = (.putfield 70,3,2,0,7,7,.retAddr 0) := rfl
theorem fd_RunStream_step_122 : am_fd mt_RunStream_step.1 122 = (.aload_n 0,1,0,0,0,0,.retAddr 0) := rfl
theorem fd_RunStream_step_123 : am_fd mt_RunStream_step.1 123 = (.aload_n 0,1,0,0,0,0,.retAddr 0) := rfl
theorem fd_RunStream_step_124 : am_fd mt_RunStream_step.1 124 = (.getfield 70,3,2,0,7,7,.retAddr 0) := rfl
theorem fd_RunStream_step_127 : am_fd mt_RunStream_step.1 127 = (.iconst 2,1,0,0,0,0,.int 2) := rfl
theorem fd_RunStream_step_128 : am_fd mt_RunStream_step.1 128 = (.if_icmp .ne 7,3,135,0,0,0,.retAddr 0) := rfl
theorem fd_RunStream_step_131 : am_fd mt_RunStream_step.1 131 = (.lconst 0,1,0,0,0,0,.long 0) := rfl
theorem fd_RunStream_step_132 : am_fd mt_RunStream_step.1 132 = (.goto 7,3,139,0,0,0,.retAddr 0) := rfl
theorem fd_RunStream_step_135 : am_fd mt_RunStream_step.1 135 = (.aload_n 0,1,0,0,0,0,.retAddr 0) := rfl
theorem fd_RunStream_step_136 : am_fd mt_RunStream_step.1 136 = (.invokevirtual 73,3,59,1,7,0,.retAddr 0) := rfl
theorem fd_RunStream_step_139 : am_fd mt_RunStream_step.1 139 = (.putfield 77,3,3,1,7,7,.retAddr 0) := rfl
theorem fd_RunStream_step_142 : am_fd mt_RunStream_step.1 142 = (.return_,1,0,0,0,0,.retAddr 0) := rfl
theorem fd_Pages_peek_0 : am_fd mt_Pages_peek.1 0 = (.aload_n 0,1,0,0,0,0,.retAddr 0) := rfl
theorem fd_Pages_peek_1 : am_fd mt_Pages_peek.1 1 = (.iload_n 1,1,1,0,0,0,.retAddr 0) := rfl
theorem fd_Pages_peek_2 : am_fd mt_Pages_peek.1 2 = (.invokevirtual 35,3,19,2,4,0,.retAddr 0) := rfl
theorem fd_Pages_peek_5 : am_fd mt_Pages_peek.1 5 = (.ifCond .eq 33,3,38,0,0,0,.retAddr 0) := rfl
theorem fd_Pages_peek_8 : am_fd mt_Pages_peek.1 8 = (.iload_n 2,1,2,0,0,0,.retAddr 0) := rfl
theorem fd_Pages_peek_9 : am_fd mt_Pages_peek.1 9 = (.ifCond .lt 29,3,38,0,0,0,.retAddr 0) := rfl
theorem fd_Pages_peek_12 : am_fd mt_Pages_peek.1 12 = (.iload_n 2,1,2,0,0,0,.retAddr 0) := rfl
theorem fd_Pages_peek_13 : am_fd mt_Pages_peek.1 13 = (.sipush 128,3,0,0,0,0,.int 128) := rfl
theorem fd_Pages_peek_16 : am_fd mt_Pages_peek.1 16 = (.if_icmp .ge 22,3,38,0,0,0,.retAddr 0) := rfl
theorem fd_Pages_peek_19 : am_fd mt_Pages_peek.1 19 = (.aload_n 0,1,0,0,0,0,.retAddr 0) := rfl
theorem fd_Pages_peek_20 : am_fd mt_Pages_peek.1 20 = (.getfield 27,3,1,2,4,4,.retAddr 0) := rfl
theorem fd_Pages_peek_23 : am_fd mt_Pages_peek.1 23 = (.iload_n 1,1,1,0,0,0,.retAddr 0) := rfl
theorem fd_Pages_peek_24 : am_fd mt_Pages_peek.1 24 = (.sipush 128,3,0,0,0,0,.int 128) := rfl
theorem fd_Pages_peek_27 : am_fd mt_Pages_peek.1 27 = (.imul,1,0,0,0,0,.retAddr 0) := rfl
theorem fd_Pages_peek_28 : am_fd mt_Pages_peek.1 28 = (.iload_n 2,1,2,0,0,0,.retAddr 0) := rfl
theorem fd_Pages_peek_29 : am_fd mt_Pages_peek.1 29 = (.iadd,1,0,0,0,0,.retAddr 0) := rfl
theorem fd_Pages_peek_30 : am_fd mt_Pages_peek.1 30 = (.baload,1,0,0,0,0,.retAddr 0) := rfl
theorem fd_Pages_peek_31 : am_fd mt_Pages_peek.1 31 = (.sipush 255,3,0,0,0,0,.int 255) := rfl
theorem fd_Pages_peek_34 : am_fd mt_Pages_peek.1 34 = (.iand,1,0,0,0,0,.retAddr 0) := rfl
theorem fd_Pages_peek_35 : am_fd mt_Pages_peek.1 35 = (.goto 4,3,39,0,0,0,.retAddr 0) := rfl
theorem fd_Pages_peek_38 : am_fd mt_Pages_peek.1 38 = (.iconst 0,1,0,0,0,0,.int 0) := rfl
theorem fd_Pages_peek_39 : am_fd mt_Pages_peek.1 39 = (.ireturn,1,0,0,0,0,.retAddr 0) := rfl
theorem fd_RunStream_readKey_0 : am_fd mt_RunStream_readKey.1 0 = (.aload_n 0,1,0,0,0,0,.retAddr 0) := rfl
theorem fd_RunStream_readKey_1 : am_fd mt_RunStream_readKey.1 1 = (.getfield 81,3,1,1,7,7,.retAddr 0) := rfl
theorem fd_RunStream_readKey_4 : am_fd mt_RunStream_readKey.1 4 = (.ldc2_w 84,3,0,0,0,0,.long (-9223372036854775808)) := rfl
theorem fd_RunStream_readKey_7 : am_fd mt_RunStream_readKey.1 7 = (.lxor,1,0,0,0,0,.retAddr 0) := rfl
theorem fd_RunStream_readKey_8 : am_fd mt_RunStream_readKey.1 8 = (.lstore_n 1,1,1,0,0,0,.retAddr 0) := rfl
theorem fd_RunStream_readKey_9 : am_fd mt_RunStream_readKey.1 9 = (.aload_n 0,1,0,0,0,0,.retAddr 0) := rfl
theorem fd_RunStream_readKey_10 : am_fd mt_RunStream_readKey.1 10 = (.invokevirtual 66,3,58,1,7,0,.retAddr 0) := rfl
theorem fd_RunStream_readKey_13 : am_fd mt_RunStream_readKey.1 13 = (.istore_n 3,1,3,0,0,0,.retAddr 0) := rfl
theorem fd_RunStream_readKey_14 : am_fd mt_RunStream_readKey.1 14 = (.iload_n 3,1,3,0,0,0,.retAddr 0) := rfl
theorem fd_RunStream_readKey_15 : am_fd mt_RunStream_readKey.1 15 = (.bipush 8,2,0,0,0,0,.int 8) := rfl
theorem fd_RunStream_readKey_17 : am_fd mt_RunStream_readKey.1 17 = (.if_icmp .ge 40,3,57,0,0,0,.retAddr 0) := rfl
theorem fd_RunStream_readKey_20 : am_fd mt_RunStream_readKey.1 20 = (.bipush 56,2,0,0,0,0,.int 56) := rfl
theorem fd_RunStream_readKey_22 : am_fd mt_RunStream_readKey.1 22 = (.bipush 8,2,0,0,0,0,.int 8) := rfl
theorem fd_RunStream_readKey_24 : am_fd mt_RunStream_readKey.1 24 = (.iload_n 3,1,3,0,0,0,.retAddr 0) := rfl
theorem fd_RunStream_readKey_25 : am_fd mt_RunStream_readKey.1 25 = (.imul,1,0,0,0,0,.retAddr 0) := rfl
theorem fd_RunStream_readKey_26 : am_fd mt_RunStream_readKey.1 26 = (.isub,1,0,0,0,0,.retAddr 0) := rfl
theorem fd_RunStream_readKey_27 : am_fd mt_RunStream_readKey.1 27 = (.istore 4,2,4,0,0,0,.retAddr 0) := rfl
theorem fd_RunStream_readKey_29 : am_fd mt_RunStream_readKey.1 29 = (.lload_n 1,1,1,0,0,0,.retAddr 0) := rfl
theorem fd_RunStream_readKey_30 : am_fd mt_RunStream_readKey.1 30 = (.ldc2_w 86,3,0,0,0,0,.long 255) := rfl
theorem fd_RunStream_readKey_33 : am_fd mt_RunStream_readKey.1 33 = (.iload 4,2,4,0,0,0,.retAddr 0) := rfl
theorem fd_RunStream_readKey_35 : am_fd mt_RunStream_readKey.1 35 = (.lshl,1,0,0,0,0,.retAddr 0) := rfl
theorem fd_RunStream_readKey_36 : am_fd mt_RunStream_readKey.1 36 = (.ldc2_w 88,3,0,0,0,0,.long (-1)) := rfl
theorem fd_RunStream_readKey_39 : am_fd mt_RunStream_readKey.1 39 = (.lxor,1,0,0,0,0,.retAddr 0) := rfl
theorem fd_RunStream_readKey_40 : am_fd mt_RunStream_readKey.1 40 = (.land,1,0,0,0,0,.retAddr 0) := rfl
theorem fd_RunStream_readKey_41 : am_fd mt_RunStream_readKey.1 41 = (.aload_n 0,1,0,0,0,0,.retAddr 0) := rfl
theorem fd_RunStream_readKey_42 : am_fd mt_RunStream_readKey.1 42 = (.invokevirtual 66,3,58,1,7,0,.retAddr 0) := rfl
theorem fd_RunStream_readKey_45 : am_fd mt_RunStream_readKey.1 45 = (.i2l,1,0,0,0,0,.retAddr 0) := rfl
theorem fd_RunStream_readKey_46 : am_fd mt_RunStream_readKey.1 46 = (.iload 4,2,4,0,0,0,.retAddr 0) := rfl
theorem fd_RunStream_readKey_48 : am_fd mt_RunStream_readKey.1 48 = (.lshl,1,0,0,0,0,.retAddr 0) := rfl
theorem fd_RunStream_readKey_49 : am_fd mt_RunStream_readKey.1 49 = (.lor,1,0,0,0,0,.retAddr 0) := rfl
theorem fd_RunStream_readKey_50 : am_fd mt_RunStream_readKey.1 50 = (.lstore_n 1,1,1,0,0,0,.retAddr 0) := rfl
theorem fd_RunStream_readKey_51 : am_fd mt_RunStream_readKey.1 51 = (.iinc 3 1,3,3,0,0,0,.int 1) := rfl
theorem fd_RunStream_readKey_54 : am_fd mt_RunStream_readKey.1 54 = (.goto (-40),3,14,0,0,0,.retAddr 0) := rfl
theorem fd_RunStream_readKey_57 : am_fd mt_RunStream_readKey.1 57 = (.aload_n 0,1,0,0,0,0,.retAddr 0) := rfl
theorem fd_RunStream_readKey_58 : am_fd mt_RunStream_readKey.1 58 = (.lload_n 1,1,1,0,0,0,.retAddr 0) := rfl
theorem fd_RunStream_readKey_59 : am_fd mt_RunStream_readKey.1 59 = (.ldc2_w 84,3,0,0,0,0,.long (-9223372036854775808)) := rfl
theorem fd_RunStream_readKey_62 : am_fd mt_RunStream_readKey.1 62 = (.lxor,1,0,0,0,0,.retAddr 0) := rfl
theorem fd_RunStream_readKey_63 : am_fd mt_RunStream_readKey.1 63 = (.putfield 81,3,1,1,7,7,.retAddr 0) := rfl
theorem fd_RunStream_readKey_66 : am_fd mt_RunStream_readKey.1 66 = (.return_,1,0,0,0,0,.retAddr 0) := rfl
theorem fd_RunStream_nextOctet_0 : am_fd mt_RunStream_nextOctet.1 0 = (.aload_n 0,1,0,0,0,0,.retAddr 0) := rfl
theorem fd_RunStream_nextOctet_1 : am_fd mt_RunStream_nextOctet.1 1 = (.getfield 21,3,9,0,7,7,.retAddr 0) := rfl
theorem fd_RunStream_nextOctet_4 : am_fd mt_RunStream_nextOctet.1 4 = (.ifCond .lt 33,3,37,0,0,0,.retAddr 0) := rfl
theorem fd_RunStream_nextOctet_7 : am_fd mt_RunStream_nextOctet.1 7 = (.aload_n 0,1,0,0,0,0,.retAddr 0) := rfl
theorem fd_RunStream_nextOctet_8 : am_fd mt_RunStream_nextOctet.1 8 = (.getfield 21,3,9,0,7,7,.retAddr 0) := rfl
theorem fd_RunStream_nextOctet_11 : am_fd mt_RunStream_nextOctet.1 11 = (.aload_n 0,1,0,0,0,0,.retAddr 0) := rfl
theorem fd_RunStream_nextOctet_12 : am_fd mt_RunStream_nextOctet.1 12 = (.getfield 24,3,10,0,7,7,.retAddr 0) := rfl
theorem fd_RunStream_nextOctet_15 : am_fd mt_RunStream_nextOctet.1 15 = (.if_icmp .ge 22,3,37,0,0,0,.retAddr 0) := rfl
theorem fd_RunStream_nextOctet_18 : am_fd mt_RunStream_nextOctet.1 18 = (.aload_n 0,1,0,0,0,0,.retAddr 0) := rfl
theorem fd_RunStream_nextOctet_19 : am_fd mt_RunStream_nextOctet.1 19 = (.getfield 21,3,9,0,7,7,.retAddr 0) := rfl
theorem fd_RunStream_nextOctet_22 : am_fd mt_RunStream_nextOctet.1 22 = (.aload_n 0,1,0,0,0,0,.retAddr 0) := rfl
theorem fd_RunStream_nextOctet_23 : am_fd mt_RunStream_nextOctet.1 23 = (.getfield 27,3,4,2,7,7,.retAddr 0) := rfl
theorem fd_RunStream_nextOctet_26 : am_fd mt_RunStream_nextOctet.1 26 = (.getfield 90,3,1,2,4,4,.retAddr 0) := rfl
theorem fd_RunStream_nextOctet_29 : am_fd mt_RunStream_nextOctet.1 29 = (.arraylength,1,0,0,0,0,.retAddr 0) := rfl
theorem fd_RunStream_nextOctet_30 : am_fd mt_RunStream_nextOctet.1 30 = (.if_icmp .ge 7,3,37,0,0,0,.retAddr 0) := rfl
theorem fd_RunStream_nextOctet_33 : am_fd mt_RunStream_nextOctet.1 33 = (.iconst 1,1,0,0,0,0,.int 1) := rfl
theorem fd_RunStream_nextOctet_34 : am_fd mt_RunStream_nextOctet.1 34 = (.goto 4,3,38,0,0,0,.retAddr 0) := rfl
theorem fd_RunStream_nextOctet_37 : am_fd mt_RunStream_nextOctet.1 37 = (.iconst 0,1,0,0,0,0,.int 0) := rfl
theorem fd_RunStream_nextOctet_38 : am_fd mt_RunStream_nextOctet.1 38 = (.istore_n 1,1,1,0,0,0,.retAddr 0) := rfl
theorem fd_RunStream_nextOctet_39 : am_fd mt_RunStream_nextOctet.1 39 = (.iload_n 1,1,1,0,0,0,.retAddr 0) := rfl
theorem fd_RunStream_nextOctet_40 : am_fd mt_RunStream_nextOctet.1 40 = (.ifCond .eq 22,3,62,0,0,0,.retAddr 0) := rfl
theorem fd_RunStream_nextOctet_43 : am_fd mt_RunStream_nextOctet.1 43 = (.aload_n 0,1,0,0,0,0,.retAddr 0) := rfl
theorem fd_RunStream_nextOctet_44 : am_fd mt_RunStream_nextOctet.1 44 = (.getfield 27,3,4,2,7,7,.retAddr 0) := rfl
theorem fd_RunStream_nextOctet_47 : am_fd mt_RunStream_nextOctet.1 47 = (.getfield 90,3,1,2,4,4,.retAddr 0) := rfl
theorem fd_RunStream_nextOctet_50 : am_fd mt_RunStream_nextOctet.1 50 = (.aload_n 0,1,0,0,0,0,.retAddr 0) := rfl
theorem fd_RunStream_nextOctet_51 : am_fd mt_RunStream_nextOctet.1 51 = (.getfield 21,3,9,0,7,7,.retAddr 0) := rfl
theorem fd_RunStream_nextOctet_54 : am_fd mt_RunStream_nextOctet.1 54 = (.baload,1,0,0,0,0,.retAddr 0) := rfl
theorem fd_RunStream_nextOctet_55 : am_fd mt_RunStream_nextOctet.1 55 = (.sipush 255,3,0,0,0,0,.int 255) := rfl
theorem fd_RunStream_nextOctet_58 : am_fd mt_RunStream_nextOctet.1 58 = (.iand,1,0,0,0,0,.retAddr 0) := rfl
theorem fd_RunStream_nextOctet_59 : am_fd mt_RunStream_nextOctet.1 59 = (.goto 4,3,63,0,0,0,.retAddr 0) := rfl
theorem fd_RunStream_nextOctet_62 : am_fd mt_RunStream_nextOctet.1 62 = (.iconst 0,1,0,0,0,0,.int 0) := rfl
theorem fd_RunStream_nextOctet_63 : am_fd mt_RunStream_nextOctet.1 63 = (.istore_n 2,1,2,0,0,0,.retAddr 0) := rfl
theorem fd_RunStream_nextOctet_64 : am_fd mt_RunStream_nextOctet.1 64 = (.aload_n 0,1,0,0,0,0,.retAddr 0) := rfl
theorem fd_RunStream_nextOctet_65 : am_fd mt_RunStream_nextOctet.1 65 = (.dup,1,0,0,0,0,.retAddr 0) := rfl
theorem fd_RunStream_nextOctet_66 : am_fd mt_RunStream_nextOctet.1 66 = (.getfield 21,3,9,0,7,7,.retAddr 0) := rfl
theorem fd_RunStream_nextOctet_69 : am_fd mt_RunStream_nextOctet.1 69 = (.iconst 1,1,0,0,0,0,.int 1) := rfl
theorem fd_RunStream_nextOctet_70 : am_fd mt_RunStream_nextOctet.1 70 = (.iadd,1,0,0,0,0,.retAddr 0) := rfl
theorem fd_RunStream_nextOctet_71 : am_fd mt_RunStream_nextOctet.1 71 = (.putfield 21,3,9,0,7,7,.retAddr 0) := rfl
theorem fd_RunStream_nextOctet_74 : am_fd mt_RunStream_nextOctet.1 74 = (.iload_n 2,1,2,0,0,0,.retAddr 0) := rfl
theorem fd_RunStream_nextOctet_75 : am_fd mt_RunStream_nextOctet.1 75 = (.ireturn,1,0,0,0,0,.retAddr 0) := rfl
theorem fd_RunStream_readValue_0 : am_fd mt_RunStream_readValue.1 0 = (.lconst 0,1,0,0,0,0,.long 0) := rfl
theorem fd_RunStream_readValue_1 : am_fd mt_RunStream_readValue.1 1 = (.lstore_n 1,1,1,0,0,0,.retAddr 0) := rfl
theorem fd_RunStream_readValue_2 : am_fd mt_RunStream_readValue.1 2 = (.iconst 1,1,0,0,0,0,.int 1) := rfl
theorem fd_RunStream_readValue_3 : am_fd mt_RunStream_readValue.1 3 = (.istore_n 3,1,3,0,0,0,.retAddr 0) := rfl
theorem fd_RunStream_readValue_4 : am_fd mt_RunStream_readValue.1 4 = (.iconst 0,1,0,0,0,0,.int 0) := rfl
theorem fd_RunStream_readValue_5 : am_fd mt_RunStream_readValue.1 5 = (.istore 4,2,4,0,0,0,.retAddr 0) := rfl
theorem fd_RunStream_readValue_7 : am_fd mt_RunStream_readValue.1 7 = (.iload 4,2,4,0,0,0,.retAddr 0) := rfl
theorem fd_RunStream_readValue_9 : am_fd mt_RunStream_readValue.1 9 = (.bipush 10,2,0,0,0,0,.int 10) := rfl
theorem fd_RunStream_readValue_11 : am_fd mt_RunStream_readValue.1 11 = (.if_icmp .ge 47,3,58,0,0,0,.retAddr 0) := rfl
theorem fd_RunStream_readValue_14 : am_fd mt_RunStream_readValue.1 14 = (.iload_n 3,1,3,0,0,0,.retAddr 0) := rfl
theorem fd_RunStream_readValue_15 : am_fd mt_RunStream_readValue.1 15 = (.ifCond .eq 43,3,58,0,0,0,.retAddr 0) := rfl
theorem fd_RunStream_readValue_18 : am_fd mt_RunStream_readValue.1 18 = (.aload_n 0,1,0,0,0,0,.retAddr 0) := rfl
theorem fd_RunStream_readValue_19 : am_fd mt_RunStream_readValue.1 19 = (.invokevirtual 66,3,58,1,7,0,.retAddr 0) := rfl
theorem fd_RunStream_readValue_22 : am_fd mt_RunStream_readValue.1 22 = (.istore 5,2,5,0,0,0,.retAddr 0) := rfl
theorem fd_RunStream_readValue_24 : am_fd mt_RunStream_readValue.1 24 = (.lload_n 1,1,1,0,0,0,.retAddr 0) := rfl
theorem fd_RunStream_readValue_25 : am_fd mt_RunStream_readValue.1 25 = (.iload 5,2,5,0,0,0,.retAddr 0) := rfl
theorem fd_RunStream_readValue_27 : am_fd mt_RunStream_readValue.1 27 = (.bipush 127,2,0,0,0,0,.int 127) := rfl
theorem fd_RunStream_readValue_29 : am_fd mt_RunStream_readValue.1 29 = (.iand,1,0,0,0,0,.retAddr 0) := rfl
theorem fd_RunStream_readValue_30 : am_fd mt_RunStream_readValue.1 30 = (.i2l,1,0,0,0,0,.retAddr 0) := rfl
theorem fd_RunStream_readValue_31 : am_fd mt_RunStream_readValue.1 31 = (.bipush 7,2,0,0,0,0,.int 7) := rfl
theorem fd_RunStream_readValue_33 : am_fd mt_RunStream_readValue.1 33 = (.iload 4,2,4,0,0,0,.retAddr 0) := rfl
theorem fd_RunStream_readValue_35 : am_fd mt_RunStream_readValue.1 35 = (.imul,1,0,0,0,0,.retAddr 0) := rfl
theorem fd_RunStream_readValue_36 : am_fd mt_RunStream_readValue.1 36 = (.lshl,1,0,0,0,0,.retAddr 0) := rfl
theorem fd_RunStream_readValue_37 : am_fd mt_RunStream_readValue.1 37 = (.lor,1,0,0,0,0,.retAddr 0) := rfl
theorem fd_RunStream_readValue_38 : am_fd mt_RunStream_readValue.1 38 = (.lstore_n 1,1,1,0,0,0,.retAddr 0) := rfl
theorem fd_RunStream_readValue_39 : am_fd mt_RunStream_readValue.1 39 = (.iload 5,2,5,0,0,0,.retAddr 0) := rfl
theorem fd_RunStream_readValue_41 : am_fd mt_RunStream_readValue.1 41 = (.bipush 127,2,0,0,0,0,.int 127) := rfl
theorem fd_RunStream_readValue_43 : am_fd mt_RunStream_readValue.1 43 = (.if_icmp .le 7,3,50,0,0,0,.retAddr 0) := rfl
theorem fd_RunStream_readValue_46 : am_fd mt_RunStream_readValue.1 46 = (.iconst 1,1,0,0,0,0,.int 1) := rfl
theorem fd_RunStream_readValue_47 : am_fd mt_RunStream_readValue.1 47 = (.goto 4,3,51,0,0,0,.retAddr 0) := rfl
theorem fd_RunStream_readValue_50 : am_fd mt_RunStream_readValue.1 50 = (.iconst 0,1,0,0,0,0,.int 0) := rfl
theorem fd_RunStream_readValue_51 : am_fd mt_RunStream_readValue.1 51 = (.istore_n 3,1,3,0,0,0,.retAddr 0) := rfl
theorem fd_RunStream_readValue_52 : am_fd mt_RunStream_readValue.1 52 = (.iinc 4 1,3,4,0,0,0,.int 1) := rfl
theorem fd_RunStream_readValue_55 : am_fd mt_RunStream_readValue.1 55 = (.goto (-48),3,7,0,0,0,.retAddr 0) := rfl
theorem fd_RunStream_readValue_58 : am_fd mt_RunStream_readValue.1 58 = (.lload_n 1,1,1,0,0,0,.retAddr 0) := rfl
theorem fd_RunStream_readValue_59 : am_fd mt_RunStream_readValue.1 59 = (.iconst 1,1,0,0,0,0,.int 1) := rfl
theorem fd_RunStream_readValue_60 : am_fd mt_RunStream_readValue.1 60 = (.lushr,1,0,0,0,0,.retAddr 0) := rfl
theorem fd_RunStream_readValue_61 : am_fd mt_RunStream_readValue.1 61 = (.lload_n 1,1,1,0,0,0,.retAddr 0) := rfl
theorem fd_RunStream_readValue_62 : am_fd mt_RunStream_readValue.1 62 = (.lconst 1,1,0,0,0,0,.long 1) := rfl
theorem fd_RunStream_readValue_63 : am_fd mt_RunStream_readValue.1 63 = (.land,1,0,0,0,0,.retAddr 0) := rfl
theorem fd_RunStream_readValue_64 : am_fd mt_RunStream_readValue.1 64 = (.lneg,1,0,0,0,0,.retAddr 0) := rfl
theorem fd_RunStream_readValue_65 : am_fd mt_RunStream_readValue.1 65 = (.lxor,1,0,0,0,0,.retAddr 0) := rfl
theorem fd_RunStream_readValue_66 : am_fd mt_RunStream_readValue.1 66 = (.lreturn,1,0,0,0,0,.retAddr 0) := rfl
theorem fd_Blend_addInput_0 : am_fd mt_Blend_addInput.1 0 = (.aload_n 0,1,0,0,0,0,.retAddr 0) := rfl
theorem fd_Blend_addInput_1 : am_fd mt_Blend_addInput.1 1 = (.getfield 34,3,5,0,2,2,.retAddr 0) := rfl
theorem fd_Blend_addInput_4 : am_fd mt_Blend_addInput.1 4 = (.bipush 10,2,0,0,0,0,.int 10) := rfl
theorem fd_Blend_addInput_6 : am_fd mt_Blend_addInput.1 6 = (.if_icmp .ge 23,3,29,0,0,0,.retAddr 0) := rfl
theorem fd_Blend_addInput_9 : am_fd mt_Blend_addInput.1 9 = (.aload_n 0,1,0,0,0,0,.retAddr 0) := rfl
theorem fd_Blend_addInput_10 : am_fd mt_Blend_addInput.1 10 = (.getfield 30,3,4,2,2,2,.retAddr 0) := rfl
theorem fd_Blend_addInput_13 : am_fd mt_Blend_addInput.1 13 = (.aload_n 0,1,0,0,0,0,.retAddr 0) := rfl
theorem fd_Blend_addInput_14 : am_fd mt_Blend_addInput.1 14 = (.getfield 34,3,5,0,2,2,.retAddr 0) := rfl
theorem fd_Blend_addInput_17 : am_fd mt_Blend_addInput.1 17 = (.aload_n 1,1,1,0,0,0,.retAddr 0) := rfl
theorem fd_Blend_addInput_18 : am_fd mt_Blend_addInput.1 18 = (.aastore,1,7,11,203,0,.retAddr 0) := rfl
theorem fd_Blend_addInput_19 : am_fd mt_Blend_addInput.1 19 = (.aload_n 0,1,0,0,0,0,.retAddr 0) := rfl
theorem fd_Blend_addInput_20 : am_fd mt_Blend_addInput.1 20 = (.dup,1,0,0,0,0,.retAddr 0) := rfl
theorem fd_Blend_addInput_21 : am_fd mt_Blend_addInput.1 21 = (.getfield 34,3,5,0,2,2,.retAddr 0) := rfl
theorem fd_Blend_addInput_24 : am_fd mt_Blend_addInput.1 24 = (.iconst 1,1,0,0,0,0,.int 1) := rfl
theorem fd_Blend_addInput_25 : am_fd mt_Blend_addInput.1 25 = (.iadd,1,0,0,0,0,.retAddr 0) := rfl
theorem fd_Blend_addInput_26 : am_fd mt_Blend_addInput.1 26 = (.putfield 34,3,5,0,2,2,.retAddr 0) := rfl
theorem fd_Blend_addInput_29 : am_fd mt_Blend_addInput.1 29 = (.return_,1,0,0,0,0,.retAddr 0) := rfl
theorem fd_SR_mostPages_0 : am_fd mt_SR_mostPages.1 0 = (.iload_n 0,1,0,0,0,0,.retAddr 0) := rfl
theorem fd_SR_mostPages_1 : am_fd mt_SR_mostPages.1 1 = (.iconst 1,1,0,0,0,0,.int 1) := rfl
theorem fd_SR_mostPages_2 : am_fd mt_SR_mostPages.1 2 = (.if_icmp .ne 8,3,10,0,0,0,.retAddr 0) := rfl
theorem fd_SR_mostPages_5 : am_fd mt_SR_mostPages.1 5 = (.bipush 8,2,0,0,0,0,.int 8) := rfl
theorem fd_SR_mostPages_7 : am_fd mt_SR_mostPages.1 7 = (.goto 16,3,23,0,0,0,.retAddr 0) := rfl
theorem fd_SR_mostPages_10 : am_fd mt_SR_mostPages.1 10 = (.iload_n 0,1,0,0,0,0,.retAddr 0) := rfl
theorem fd_SR_mostPages_11 : am_fd mt_SR_mostPages.1 11 = (.iconst 2,1,0,0,0,0,.int 2) := rfl
theorem fd_SR_mostPages_12 : am_fd mt_SR_mostPages.1 12 = (.if_icmp .ne 8,3,20,0,0,0,.retAddr 0) := rfl
theorem fd_SR_mostPages_15 : am_fd mt_SR_mostPages.1 15 = (.bipush 24,2,0,0,0,0,.int 24) := rfl
theorem fd_SR_mostPages_17 : am_fd mt_SR_mostPages.1 17 = (.goto 6,3,23,0,0,0,.retAddr 0) := rfl
theorem fd_SR_mostPages_20 : am_fd mt_SR_mostPages.1 20 = (.sipush 1024,3,0,0,0,0,.int 1024) := rfl
theorem fd_SR_mostPages_23 : am_fd mt_SR_mostPages.1 23 = (.ireturn,1,0,0,0,0,.retAddr 0) := rfl
theorem fd_SR_countPages_0 : am_fd mt_SR_countPages.1 0 = (.iconst 0,1,0,0,0,0,.int 0) := rfl
theorem fd_SR_countPages_1 : am_fd mt_SR_countPages.1 1 = (.istore_n 2,1,2,0,0,0,.retAddr 0) := rfl
theorem fd_SR_countPages_2 : am_fd mt_SR_countPages.1 2 = (.iconst 0,1,0,0,0,0,.int 0) := rfl
theorem fd_SR_countPages_3 : am_fd mt_SR_countPages.1 3 = (.istore_n 3,1,3,0,0,0,.retAddr 0) := rfl
theorem fd_SR_countPages_4 : am_fd mt_SR_countPages.1 4 = (.iload_n 3,1,3,0,0,0,.retAddr 0) := rfl
theorem fd_SR_countPages_5 : am_fd mt_SR_countPages.1 5 = (.ldc 250,2,0,0,0,0,.int 1000000) := rfl
theorem fd_SR_countPages_7 : am_fd mt_SR_countPages.1 7 = (.if_icmp .ge 84,3,91,0,0,0,.retAddr 0) := rfl
theorem fd_SR_countPages_10 : am_fd mt_SR_countPages.1 10 = (.iload_n 2,1,2,0,0,0,.retAddr 0) := rfl
theorem fd_SR_countPages_11 : am_fd mt_SR_countPages.1 11 = (.iload_n 1,1,1,0,0,0,.retAddr 0) := rfl
theorem fd_SR_countPages_12 : am_fd mt_SR_countPages.1 12 = (.if_icmp .gt 79,3,91,0,0,0,.retAddr 0) := rfl
theorem fd_SR_countPages_15 : am_fd mt_SR_countPages.1 15 = (.aload_n 0,1,0,0,0,0,.retAddr 0) := rfl
theorem fd_SR_countPages_16 : am_fd mt_SR_countPages.1 16 = (.getfield 95,3,5,2,1,1,.retAddr 0) := rfl
theorem fd_SR_countPages_19 : am_fd mt_SR_countPages.1 19 = (.invokevirtual 251,3,63,1,2,0,.retAddr 0) := rfl
theorem fd_SR_countPages_22 : am_fd mt_SR_countPages.1 22 = (.ifCond .eq 69,3,91,0,0,0,.retAddr 0) := rfl
theorem fd_SR_countPages_25 : am_fd mt_SR_countPages.1 25 = (.iload_n 2,1,2,0,0,0,.retAddr 0) := rfl
theorem fd_SR_countPages_26 : am_fd mt_SR_countPages.1 26 = (.ifCond .eq 27,3,53,0,0,0,.retAddr 0) := rfl
theorem fd_SR_countPages_29 : am_fd mt_SR_countPages.1 29 = (.aload_n 0,1,0,0,0,0,.retAddr 0) := rfl
theorem fd_SR_countPages_30 : am_fd mt_SR_countPages.1 30 = (.getfield 37,3,8,2,1,1,.retAddr 0) := rfl
theorem fd_SR_countPages_33 : am_fd mt_SR_countPages.1 33 = (.aload_n 0,1,0,0,0,0,.retAddr 0) := rfl
theorem fd_SR_countPages_34 : am_fd mt_SR_countPages.1 34 = (.getfield 95,3,5,2,1,1,.retAddr 0) := rfl
theorem fd_SR_countPages_37 : am_fd mt_SR_countPages.1 37 = (.getfield 255,3,1,1,2,2,.retAddr 0) := rfl
theorem fd_SR_countPages_40 : am_fd mt_SR_countPages.1 40 = (.aload_n 0,1,0,0,0,0,.retAddr 0) := rfl
theorem fd_SR_countPages_41 : am_fd mt_SR_countPages.1 41 = (.getfield 95,3,5,2,1,1,.retAddr 0) := rfl
theorem fd_SR_countPages_44 : am_fd mt_SR_countPages.1 44 = (.getfield 259,3,0,2,2,2,.retAddr 0) := rfl
theorem fd_SR_countPages_47 : am_fd mt_SR_countPages.1 47 = (.invokevirtual 262,3,66,3,8,0,.retAddr 0) := rfl
theorem fd_SR_countPages_50 : am_fd mt_SR_countPages.1 50 = (.ifCond .ne 14,3,64,0,0,0,.retAddr 0) := rfl
theorem fd_SR_countPages_53 : am_fd mt_SR_countPages.1 53 = (.iinc 2 1,3,2,0,0,0,.int 1) := rfl
theorem fd_SR_countPages_56 : am_fd mt_SR_countPages.1 56 = (.aload_n 0,1,0,0,0,0,.retAddr 0) := rfl
theorem fd_SR_countPages_57 : am_fd mt_SR_countPages.1 57 = (.getfield 37,3,8,2,1,1,.retAddr 0) := rfl
theorem fd_SR_countPages_60 : am_fd mt_SR_countPages.1 60 = (.iconst 0,1,0,0,0,0,.int 0) := rfl
theorem fd_SR_countPages_61 : am_fd mt_SR_countPages.1 61 = (.invokevirtual 266,3,70,2,8,0,.retAddr 0) := rfl
theorem fd_SR_countPages_64 : am_fd mt_SR_countPages.1 64 = (.aload_n 0,1,0,0,0,0,.retAddr 0) := rfl
theorem fd_SR_countPages_65 : am_fd mt_SR_countPages.1 65 = (.getfield 37,3,8,2,1,1,.retAddr 0) := rfl
theorem fd_SR_countPages_68 : am_fd mt_SR_countPages.1 68 = (.aload_n 0,1,0,0,0,0,.retAddr 0) := rfl
theorem fd_SR_countPages_69 : am_fd mt_SR_countPages.1 69 = (.getfield 95,3,5,2,1,1,.retAddr 0) := rfl
theorem fd_SR_countPages_72 : am_fd mt_SR_countPages.1 72 = (.getfield 255,3,1,1,2,2,.retAddr 0) := rfl
theorem fd_SR_countPages_75 : am_fd mt_SR_countPages.1 75 = (.aload_n 0,1,0,0,0,0,.retAddr 0) := rfl
theorem fd_SR_countPages_76 : am_fd mt_SR_countPages.1 76 = (.getfield 95,3,5,2,1,1,.retAddr 0) := rfl
theorem fd_SR_countPages_79 : am_fd mt_SR_countPages.1 79 = (.getfield 259,3,0,2,2,2,.retAddr 0) := rfl
theorem fd_SR_countPages_82 : am_fd mt_SR_countPages.1 82 = (.invokevirtual 269,3,71,3,8,0,.retAddr 0) := rfl
theorem fd_SR_countPages_85 : am_fd mt_SR_countPages.1 85 = (.iinc 3 1,3,3,0,0,0,.int 1) := rfl
theorem fd_SR_countPages_88 : am_fd mt_SR_countPages.1 88 = (.goto (-84),3,4,0,0,0,.retAddr 0) := rfl
theorem fd_SR_countPages_91 : am_fd mt_SR_countPages.1 91 = (.iload_n 2,1,2,0,0,0,.retAddr 0) := rfl
theorem fd_SR_countPages_92 : am_fd mt_SR_countPages.1 92 = (.ireturn,1,0,0,0,0,.retAddr 0) := rfl
theorem fd_Blend_advance_0 : am_fd mt_Blend_advance.1 0 = (.iconst 0,1,0,0,0,0,.int 0) := rfl
theorem fd_Blend_advance_1 : am_fd mt_Blend_advance.1 1 = (.istore_n 1,1,1,0,0,0,.retAddr 0) := rfl
theorem fd_Blend_advance_2 : am_fd mt_Blend_advance.1 2 = (.iload_n 1,1,1,0,0,0,.retAddr 0) := rfl
theorem fd_Blend_advance_3 : am_fd mt_Blend_advance.1 3 = (.ldc 71,2,0,0,0,0,.int 1000000) := rfl
theorem fd_Blend_advance_5 : am_fd mt_Blend_advance.1 5 = (.if_icmp .ge 116,3,121,0,0,0,.retAddr 0) := rfl
theorem fd_Blend_advance_8 : am_fd mt_Blend_advance.1 8 = (.aload_n 0,1,0,0,0,0,.retAddr 0) := rfl
theorem fd_Blend_advance_9 : am_fd mt_Blend_advance.1 9 = (.invokevirtual 72,3,64,1,2,0,.retAddr 0) := rfl
theorem fd_Blend_advance_12 : am_fd mt_Blend_advance.1 12 = (.ifCond .eq 109,3,121,0,0,0,.retAddr 0) := rfl
theorem fd_Blend_advance_15 : am_fd mt_Blend_advance.1 15 = (.aload_n 0,1,0,0,0,0,.retAddr 0) := rfl
theorem fd_Blend_advance_16 : am_fd mt_Blend_advance.1 16 = (.getfield 12,3,0,2,2,2,.retAddr 0) := rfl
theorem fd_Blend_advance_19 : am_fd mt_Blend_advance.1 19 = (.iconst 0,1,0,0,0,0,.int 0) := rfl
theorem fd_Blend_advance_20 : am_fd mt_Blend_advance.1 20 = (.lconst 0,1,0,0,0,0,.long 0) := rfl
theorem fd_Blend_advance_21 : am_fd mt_Blend_advance.1 21 = (.invokevirtual 76,3,39,3,3,0,.retAddr 0) := rfl
theorem fd_Blend_advance_24 : am_fd mt_Blend_advance.1 24 = (.iconst 0,1,0,0,0,0,.int 0) := rfl
theorem fd_Blend_advance_25 : am_fd mt_Blend_advance.1 25 = (.istore_n 2,1,2,0,0,0,.retAddr 0) := rfl
theorem fd_Blend_advance_26 : am_fd mt_Blend_advance.1 26 = (.iload_n 2,1,2,0,0,0,.retAddr 0) := rfl
theorem fd_Blend_advance_27 : am_fd mt_Blend_advance.1 27 = (.aload_n 0,1,0,0,0,0,.retAddr 0) := rfl
theorem fd_Blend_advance_28 : am_fd mt_Blend_advance.1 28 = (.getfield 34,3,5,0,2,2,.retAddr 0) := rfl
theorem fd_Blend_advance_31 : am_fd mt_Blend_advance.1 31 = (.if_icmp .ge 54,3,85,0,0,0,.retAddr 0) := rfl
theorem fd_Blend_advance_34 : am_fd mt_Blend_advance.1 34 = (.aload_n 0,1,0,0,0,0,.retAddr 0) := rfl
theorem fd_Blend_advance_35 : am_fd mt_Blend_advance.1 35 = (.getfield 30,3,4,2,2,2,.retAddr 0) := rfl
theorem fd_Blend_advance_38 : am_fd mt_Blend_advance.1 38 = (.iload_n 2,1,2,0,0,0,.retAddr 0) := rfl
theorem fd_Blend_advance_39 : am_fd mt_Blend_advance.1 39 = (.aaload,1,0,0,0,0,.retAddr 0) := rfl
theorem fd_Blend_advance_40 : am_fd mt_Blend_advance.1 40 = (.astore_n 3,1,3,0,0,0,.retAddr 0) := rfl
theorem fd_Blend_advance_41 : am_fd mt_Blend_advance.1 41 = (.aload_n 3,1,3,0,0,0,.retAddr 0) := rfl
theorem fd_Blend_advance_42 : am_fd mt_Blend_advance.1 42 = (.getfield 80,3,0,0,7,11,.retAddr 0) := rfl
theorem fd_Blend_advance_45 : am_fd mt_Blend_advance.1 45 = (.ifCond .eq 34,3,79,0,0,0,.retAddr 0) := rfl
theorem fd_Blend_advance_48 : am_fd mt_Blend_advance.1 48 = (.aload_n 3,1,3,0,0,0,.retAddr 0) := rfl
theorem fd_Blend_advance_49 : am_fd mt_Blend_advance.1 49 = (.getfield 83,3,1,1,7,11,.retAddr 0) := rfl
theorem fd_Blend_advance_52 : am_fd mt_Blend_advance.1 52 = (.aload_n 0,1,0,0,0,0,.retAddr 0) := rfl
theorem fd_Blend_advance_53 : am_fd mt_Blend_advance.1 53 = (.getfield 18,3,1,1,2,2,.retAddr 0) := rfl
theorem fd_Blend_advance_56 : am_fd mt_Blend_advance.1 56 = (.lcmp,1,0,0,0,0,.retAddr 0) := rfl
theorem fd_Blend_advance_57 : am_fd mt_Blend_advance.1 57 = (.ifCond .ne 22,3,79,0,0,0,.retAddr 0) := rfl
theorem fd_Blend_advance_60 : am_fd mt_Blend_advance.1 60 = (.aload_n 0,1,0,0,0,0,.retAddr 0) := rfl
theorem fd_Blend_advance_61 : am_fd mt_Blend_advance.1 61 = (.getfield 12,3,0,2,2,2,.retAddr 0) := rfl
theorem fd_Blend_advance_64 : am_fd mt_Blend_advance.1 64 = (.aload_n 3,1,3,0,0,0,.retAddr 0) := rfl
theorem fd_Blend_advance_65 : am_fd mt_Blend_advance.1 65 = (.getfield 84,3,2,0,7,11,.retAddr 0) := rfl
theorem fd_Blend_advance_68 : am_fd mt_Blend_advance.1 68 = (.aload_n 3,1,3,0,0,0,.retAddr 0) := rfl
theorem fd_Blend_advance_69 : am_fd mt_Blend_advance.1 69 = (.getfield 87,3,3,1,7,11,.retAddr 0) := rfl
theorem fd_Blend_advance_72 : am_fd mt_Blend_advance.1 72 = (.invokevirtual 90,3,40,3,3,0,.retAddr 0) := rfl
theorem fd_Blend_advance_75 : am_fd mt_Blend_advance.1 75 = (.aload_n 3,1,3,0,0,0,.retAddr 0) := rfl
theorem fd_Blend_advance_76 : am_fd mt_Blend_advance.1 76 = (.invokevirtual 93,3,55,1,7,11,.ref 65) := rfl
theorem fd_Blend_advance_79 : am_fd mt_Blend_advance.1 79 = (.iinc 2 1,3,2,0,0,0,.int 1) := rfl
theorem fd_Blend_advance_82 : am_fd mt_Blend_advance.1 82 = (.goto (-56),3,26,0,0,0,.retAddr 0) := rfl
theorem fd_Blend_advance_85 : am_fd mt_Blend_advance.1 85 = (.aload_n 0,1,0,0,0,0,.retAddr 0) := rfl
theorem fd_Blend_advance_86 : am_fd mt_Blend_advance.1 86 = (.getfield 41,3,7,0,2,2,.retAddr 0) := rfl
theorem fd_Blend_advance_89 : am_fd mt_Blend_advance.1 89 = (.ifCond .ne 5,3,94,0,0,0,.retAddr 0) := rfl
theorem fd_Blend_advance_92 : am_fd mt_Blend_advance.1 92 = (.iconst 1,1,0,0,0,0,.int 1) := rfl
theorem fd_Blend_advance_93 : am_fd mt_Blend_advance.1 93 = (.ireturn,1,1,0,0,0,.retAddr 0) := rfl
theorem fd_Blend_advance_94 : am_fd mt_Blend_advance.1 94 = (.aload_n 0,1,0,0,0,0,.retAddr 0) := rfl
theorem fd_Blend_advance_95 : am_fd mt_Blend_advance.1 95 = (.getfield 12,3,0,2,2,2,.retAddr 0) := rfl
theorem fd_Blend_advance_98 : am_fd mt_Blend_advance.1 98 = (.getfield 94,3,0,0,3,3,.retAddr 0) := rfl
theorem fd_Blend_advance_101 : am_fd mt_Blend_advance.1 101 = (.iconst 2,1,0,0,0,0,.int 2) := rfl
theorem fd_Blend_advance_102 : am_fd mt_Blend_advance.1 102 = (.if_icmp .eq 13,3,115,0,0,0,.retAddr 0) := rfl
theorem fd_Blend_advance_105 : am_fd mt_Blend_advance.1 105 = (.aload_n 0,1,0,0,0,0,.retAddr 0) := rfl
theorem fd_Blend_advance_106 : am_fd mt_Blend_advance.1 106 = (.getfield 12,3,0,2,2,2,.retAddr 0) := rfl
theorem fd_Blend_advance_109 : am_fd mt_Blend_advance.1 109 = (.iconst 1,1,0,0,0,0,.int 1) := rfl
theorem fd_Blend_advance_110 : am_fd mt_Blend_advance.1 110 = (.putfield 94,3,0,0,3,3,.retAddr 0) := rfl
theorem fd_Blend_advance_113 : am_fd mt_Blend_advance.1 113 = (.iconst 1,1,0,0,0,0,.int 1) := rfl
theorem fd_Blend_advance_114 : am_fd mt_Blend_advance.1 114 = (.ireturn,1,1,0,0,0,.retAddr 0) := rfl
theorem fd_Blend_advance_115 : am_fd mt_Blend_advance.1 115 = (.iinc 1 1,3,1,0,0,0,.int 1) := rfl
theorem fd_Blend_advance_118 : am_fd mt_Blend_advance.1 118 = (.goto (-116),3,2,0,0,0,.retAddr 0) := rfl
theorem fd_Blend_advance_121 : am_fd mt_Blend_advance.1 121 = (.iconst 0,1,0,0,0,0,.int 0) := rfl
theorem fd_Blend_advance_122 : am_fd mt_Blend_advance.1 122 = (.ireturn,1,1,0,0,0,.retAddr 0) := rfl
theorem fd_Blend_findLeast_0 : am_fd mt_Blend_findLeast.1 0 = (.iconst 0,1,0,0,0,0,.int 0) := rfl
theorem fd_Blend_findLeast_1 : am_fd mt_Blend_findLeast.1 1 = (.istore_n 1,1,1,0,0,0,.retAddr 0) := rfl
theorem fd_Blend_findLeast_2 : am_fd mt_Blend_findLeast.1 2 = (.iconst 0,1,0,0,0,0,.int 0) := rfl
theorem fd_Blend_findLeast_3 : am_fd mt_Blend_findLeast.1 3 = (.istore_n 2,1,2,0,0,0,.retAddr 0) := rfl
theorem fd_Blend_findLeast_4 : am_fd mt_Blend_findLeast.1 4 = (.iload_n 2,1,2,0,0,0,.retAddr 0) := rfl
theorem fd_Blend_findLeast_5 : am_fd mt_Blend_findLeast.1 5 = (.aload_n 0,1,0,0,0,0,.retAddr 0) := rfl
theorem fd_Blend_findLeast_6 : am_fd mt_Blend_findLeast.1 6 = (.getfield 34,3,5,0,2,2,.retAddr 0) := rfl
theorem fd_Blend_findLeast_9 : am_fd mt_Blend_findLeast.1 9 = (.if_icmp .ge 49,3,58,0,0,0,.retAddr 0) := rfl
theorem fd_Blend_findLeast_12 : am_fd mt_Blend_findLeast.1 12 = (.aload_n 0,1,0,0,0,0,.retAddr 0) := rfl
theorem fd_Blend_findLeast_13 : am_fd mt_Blend_findLeast.1 13 = (.getfield 30,3,4,2,2,2,.retAddr 0) := rfl
theorem fd_Blend_findLeast_16 : am_fd mt_Blend_findLeast.1 16 = (.iload_n 2,1,2,0,0,0,.retAddr 0) := rfl
theorem fd_Blend_findLeast_17 : am_fd mt_Blend_findLeast.1 17 = (.aaload,1,0,0,0,0,.retAddr 0) := rfl
theorem fd_Blend_findLeast_18 : am_fd mt_Blend_findLeast.1 18 = (.astore_n 3,1,3,0,0,0,.retAddr 0) := rfl
theorem fd_Blend_findLeast_19 : am_fd mt_Blend_findLeast.1 19 = (.aload_n 3,1,3,0,0,0,.retAddr 0) := rfl
theorem fd_Blend_findLeast_20 : am_fd mt_Blend_findLeast.1 20 = (.getfield 80,3,0,0,7,11,.retAddr 0) := rfl
theorem fd_Blend_findLeast_23 : am_fd mt_Blend_findLeast.1 23 = (.ifCond .eq 29,3,52,0,0,0,.retAddr 0) := rfl
theorem fd_Blend_findLeast_26 : am_fd mt_Blend_findLeast.1 26 = (.iload_n 1,1,1,0,0,0,.retAddr 0) := rfl
theorem fd_Blend_findLeast_27 : am_fd mt_Blend_findLeast.1 27 = (.ifCond .eq 15,3,42,0,0,0,.retAddr 0) := rfl
theorem fd_Blend_findLeast_30 : am_fd mt_Blend_findLeast.1 30 = (.aload_n 3,1,3,0,0,0,.retAddr 0) := rfl
theorem fd_Blend_findLeast_31 : am_fd mt_Blend_findLeast.1 31 = (.getfield 83,3,1,1,7,11,.retAddr 0) := rfl
theorem fd_Blend_findLeast_34 : am_fd mt_Blend_findLeast.1 34 = (.aload_n 0,1,0,0,0,0,.retAddr 0) := rfl
theorem fd_Blend_findLeast_35 : am_fd mt_Blend_findLeast.1 35 = (.getfield 18,3,1,1,2,2,.retAddr 0) := rfl
theorem fd_Blend_findLeast_38 : am_fd mt_Blend_findLeast.1 38 = (.lcmp,1,0,0,0,0,.retAddr 0) := rfl
theorem fd_Blend_findLeast_39 : am_fd mt_Blend_findLeast.1 39 = (.ifCond .ge 13,3,52,0,0,0,.retAddr 0) := rfl
theorem fd_Blend_findLeast_42 : am_fd mt_Blend_findLeast.1 42 = (.aload_n 0,1,0,0,0,0,.retAddr 0) := rfl
theorem fd_Blend_findLeast_43 : am_fd mt_Blend_findLeast.1 43 = (.aload_n 3,1,3,0,0,0,.retAddr 0) := rfl
theorem fd_Blend_findLeast_44 : am_fd mt_Blend_findLeast.1 44 = (.getfield 83,3,1,1,7,11,.retAddr 0) := rfl
theorem fd_Blend_findLeast_47 : am_fd mt_Blend_findLeast.1 47 = (.putfield 18,3,1,1,2,2,.retAddr 0) := rfl
theorem fd_Blend_findLeast_50 : am_fd mt_Blend_findLeast.1 50 = (.iconst 1,1,0,0,0,0,.int 1) := rfl
theorem fd_Blend_findLeast_51 : am_fd mt_Blend_findLeast.1 51 = (.istore_n 1,1,1,0,0,0,.retAddr 0) := rfl
theorem fd_Blend_findLeast_52 : am_fd mt_Blend_findLeast.1 52 = (.iinc 2 1,3,2,0,0,0,.int 1) := rfl
theorem fd_Blend_findLeast_55 : am_fd mt_Blend_findLeast.1 55 = (.goto (-51),3,4,0,0,0,.retAddr 0) := rfl
theorem fd_Blend_findLeast_58 : am_fd mt_Blend_findLeast.1 58 = (.iload_n 1,1,1,0,0,0,.retAddr 0) := rfl
theorem fd_Blend_findLeast_59 : am_fd mt_Blend_findLeast.1 59 = (.ireturn,1,1,0,0,0,.retAddr 0) := rfl
theorem fd_TableStream_step_0 : am_fd mt_TableStream_step.1 0 = (.aload_n 0,1,0,0,0,0,.retAddr 0) := rfl
theorem fd_TableStream_step_1 : am_fd mt_TableStream_step.1 1 = (.aload_n 0,1,0,0,0,0,.retAddr 0) := rfl
theorem fd_TableStream_step_2 : am_fd mt_TableStream_step.1 2 = (.getfield 9,3,5,0,11,11,.retAddr 0) := rfl
theorem fd_TableStream_step_5 : am_fd mt_TableStream_step.1 5 = (.aload_n 0,1,0,0,0,0,.retAddr 0) := rfl
theorem fd_TableStream_step_6 : am_fd mt_TableStream_step.1 6 = (.getfield 15,3,4,2,11,11,.retAddr 0) := rfl
theorem fd_TableStream_step_9 : am_fd mt_TableStream_step.1 9 = (.getfield 19,3,4,0,10,10,.retAddr 0) := rfl
theorem fd_TableStream_step_12 : am_fd mt_TableStream_step.1 12 = (.if_icmp .ge 16,3,28,0,0,0,.retAddr 0) := rfl
theorem fd_TableStream_step_15 : am_fd mt_TableStream_step.1 15 = (.aload_n 0,1,0,0,0,0,.retAddr 0) := rfl
theorem fd_TableStream_step_16 : am_fd mt_TableStream_step.1 16 = (.getfield 9,3,5,0,11,11,.retAddr 0) := rfl
theorem fd_TableStream_step_19 : am_fd mt_TableStream_step.1 19 = (.bipush 64,2,0,0,0,0,.int 64) := rfl
theorem fd_TableStream_step_21 : am_fd mt_TableStream_step.1 21 = (.if_icmp .ge 7,3,28,0,0,0,.retAddr 0) := rfl
theorem fd_TableStream_step_24 : am_fd mt_TableStream_step.1 24 = (.iconst 1,1,0,0,0,0,.int 1) := rfl
theorem fd_TableStream_step_25 : am_fd mt_TableStream_step.1 25 = (.goto 4,3,29,0,0,0,.retAddr 0) := rfl
theorem fd_TableStream_step_28 : am_fd mt_TableStream_step.1 28 = (.iconst 0,1,0,0,0,0,.int 0) := rfl
theorem fd_TableStream_step_29 : am_fd mt_TableStream_step.1 29 = (.putfield 24,3,0,3,11,11,.retAddr 0) := rfl
theorem fd_TableStream_step_32 : am_fd mt_TableStream_step.1 32 = (.aload_n 0,1,0,0,0,0,.retAddr 0) := rfl
theorem fd_TableStream_step_33 : am_fd mt_TableStream_step.1 33 = (.getfield 24,3,0,0,11,11,.retAddr 0) := rfl
theorem fd_TableStream_step_36 : am_fd mt_TableStream_step.1 36 = (.ifCond .eq 61,3,97,0,0,0,.retAddr 0) := rfl
theorem fd_TableStream_step_39 : am_fd mt_TableStream_step.1 39 = (.aload_n 0,1,0,0,0,0,.retAddr 0) := rfl
theorem fd_TableStream_step_40 : am_fd mt_TableStream_step.1 40 = (.aload_n 0,1,0,0,0,0,.retAddr 0) := rfl
theorem fd_TableStream_step_41 : am_fd mt_TableStream_step.1 41 = (.getfield 15,3,4,2,11,11,.retAddr 0) := rfl
theorem fd_TableStream_step_44 : am_fd mt_TableStream_step.1 44 = (.getfield 28,3,0,2,10,10,.retAddr 0) := rfl
theorem fd_TableStream_step_47 : am_fd mt_TableStream_step.1 47 = (.aload_n 0,1,0,0,0,0,.retAddr 0) := rfl
theorem fd_TableStream_step_48 : am_fd mt_TableStream_step.1 48 = (.getfield 9,3,5,0,11,11,.retAddr 0) := rfl
theorem fd_TableStream_step_51 : am_fd mt_TableStream_step.1 51 = (.laload,1,0,0,0,0,.retAddr 0) := rfl
theorem fd_TableStream_step_52 : am_fd mt_TableStream_step.1 52 = (.putfield 32,3,1,1,11,11,.retAddr 0) := rfl
theorem fd_TableStream_step_55 : am_fd mt_TableStream_step.1 55 = (.aload_n 0,1,0,0,0,0,.retAddr 0) := rfl
theorem fd_TableStream_step_56 : am_fd mt_TableStream_step.1 56 = (.aload_n 0,1,0,0,0,0,.retAddr 0) := rfl
theorem fd_TableStream_step_57 : am_fd mt_TableStream_step.1 57 = (.getfield 15,3,4,2,11,11,.retAddr 0) := rfl
theorem fd_TableStream_step_60 : am_fd mt_TableStream_step.1 60 = (.getfield 36,3,1,2,10,10,.retAddr 0) := rfl
theorem fd_TableStream_step_63 : am_fd mt_TableStream_step.1 63 = (.aload_n 0,1,0,0,0,0,.retAddr 0) := rfl
theorem fd_TableStream_step_64 : am_fd mt_TableStream_step.1 64 = (.getfield 9,3,5,0,11,11,.retAddr 0) := rfl
theorem fd_TableStream_step_67 : am_fd mt_TableStream_step.1 67 = (.iaload,1,0,0,0,0,.retAddr 0) := rfl
theorem fd_TableStream_step_68 : am_fd mt_TableStream_step.1 68 = (.putfield 40,3,2,0,11,11,.retAddr 0) := rfl
theorem fd_TableStream_step_71 : am_fd mt_TableStream_step.1 71 = (.aload_n 0,1,0,0,0,0,.retAddr 0) := rfl
theorem fd_TableStream_step_72 : am_fd mt_TableStream_step.1 72 = (.aload_n 0,1,0,0,0,0,.retAddr 0) := rfl
theorem fd_TableStream_step_73 : am_fd mt_TableStream_step.1 73 = (.getfield 15,3,4,2,11,11,.retAddr 0) := rfl
theorem fd_TableStream_step_76 : am_fd mt_TableStream_step.1 76 = (.getfield 43,3,2,2,10,10,.retAddr 0) := rfl
theorem fd_TableStream_step_79 : am_fd mt_TableStream_step.1 79 = (.aload_n 0,1,0,0,0,0,.retAddr 0) := rfl
theorem fd_TableStream_step_80 : am_fd mt_TableStream_step.1 80 = (.getfield 9,3,5,0,11,11,.retAddr 0) := rfl
theorem fd_TableStream_step_83 : am_fd mt_TableStream_step.1 83 = (.laload,1,0,0,0,0,.retAddr 0) := rfl
theorem fd_TableStream_step_84 : am_fd mt_TableStream_step.1 84 = (.putfield 46,3,3,1,11,11,.retAddr 0) := rfl
theorem fd_TableStream_step_87 : am_fd mt_TableStream_step.1 87 = (.aload_n 0,1,0,0,0,0,.retAddr 0) := rfl
theorem fd_TableStream_step_88 : am_fd mt_TableStream_step.1 88 = (.dup,1,0,0,0,0,.retAddr 0) := rfl
theorem fd_TableStream_step_89 : am_fd mt_TableStream_step.1 89 = (.getfield 9,3,5,0,11,11,.retAddr 0) := rfl
theorem fd_TableStream_step_92 : am_fd mt_TableStream_step.1 92 = (.iconst 1,1,0,0,0,0,.int 1) := rfl
theorem fd_TableStream_step_93 : am_fd mt_TableStream_step.1 93 = (.iadd,1,0,0,0,0,.retAddr 0) := rfl
theorem fd_TableStream_step_94 : am_fd mt_TableStream_step.1 94 = (.putfield 9,3,5,0,11,11,.retAddr 0) := rfl
theorem fd_TableStream_step_97 : am_fd mt_TableStream_step.1 97 = (.return_,1,0,0,0,0,.retAddr 0) := rfl
theorem fd_Sheet_fits_0 : am_fd mt_Sheet_fits.1 0 = (.bipush 9,2,0,0,0,0,.int 9) := rfl
theorem fd_Sheet_fits_2 : am_fd mt_Sheet_fits.1 2 = (.aload_n 0,1,0,0,0,0,.retAddr 0) := rfl
theorem fd_Sheet_fits_3 : am_fd mt_Sheet_fits.1 3 = (.lload_n 1,1,1,0,0,0,.retAddr 0) := rfl
theorem fd_Sheet_fits_4 : am_fd mt_Sheet_fits.1 4 = (.invokevirtual 39,3,67,2,8,0,.retAddr 0) := rfl
theorem fd_Sheet_fits_7 : am_fd mt_Sheet_fits.1 7 = (.isub,1,0,0,0,0,.retAddr 0) := rfl
theorem fd_Sheet_fits_8 : am_fd mt_Sheet_fits.1 8 = (.iconst 1,1,0,0,0,0,.int 1) := rfl
theorem fd_Sheet_fits_9 : am_fd mt_Sheet_fits.1 9 = (.iadd,1,0,0,0,0,.retAddr 0) := rfl
theorem fd_Sheet_fits_10 : am_fd mt_Sheet_fits.1 10 = (.istore 4,2,4,0,0,0,.retAddr 0) := rfl
theorem fd_Sheet_fits_12 : am_fd mt_Sheet_fits.1 12 = (.aload_n 3,1,3,0,0,0,.retAddr 0) := rfl
theorem fd_Sheet_fits_13 : am_fd mt_Sheet_fits.1 13 = (.getfield 43,3,0,0,3,3,.retAddr 0) := rfl
theorem fd_Sheet_fits_16 : am_fd mt_Sheet_fits.1 16 = (.iconst 2,1,0,0,0,0,.int 2) := rfl
theorem fd_Sheet_fits_17 : am_fd mt_Sheet_fits.1 17 = (.if_icmp .eq 18,3,35,0,0,0,.retAddr 0) := rfl
theorem fd_Sheet_fits_20 : am_fd mt_Sheet_fits.1 20 = (.iload 4,2,4,0,0,0,.retAddr 0) := rfl
theorem fd_Sheet_fits_22 : am_fd mt_Sheet_fits.1 22 = (.aload_n 3,1,3,0,0,0,.retAddr 0) := rfl
theorem fd_Sheet_fits_23 : am_fd mt_Sheet_fits.1 23 = (.getfield 48,3,1,1,3,3,.retAddr 0) := rfl
theorem fd_Sheet_fits_26 : am_fd mt_Sheet_fits.1 26 = (.invokestatic 51,3,68,1,0,0,.retAddr 0) := rfl
theorem fd_Sheet_fits_29 : am_fd mt_Sheet_fits.1 29 = (.invokestatic 55,3,69,1,0,0,.retAddr 0) := rfl
theorem fd_Sheet_fits_32 : am_fd mt_Sheet_fits.1 32 = (.iadd,1,0,0,0,0,.retAddr 0) := rfl
theorem fd_Sheet_fits_33 : am_fd mt_Sheet_fits.1 33 = (.istore 4,2,4,0,0,0,.retAddr 0) := rfl
theorem fd_Sheet_fits_35 : am_fd mt_Sheet_fits.1 35 = (.aload_n 0,1,0,0,0,0,.retAddr 0) := rfl
theorem fd_Sheet_fits_36 : am_fd mt_Sheet_fits.1 36 = (.getfield 15,3,1,0,8,8,.retAddr 0) := rfl
theorem fd_Sheet_fits_39 : am_fd mt_Sheet_fits.1 39 = (.iload 4,2,4,0,0,0,.retAddr 0) := rfl
theorem fd_Sheet_fits_41 : am_fd mt_Sheet_fits.1 41 = (.iadd,1,0,0,0,0,.retAddr 0) := rfl
theorem fd_Sheet_fits_42 : am_fd mt_Sheet_fits.1 42 = (.bipush 120,2,0,0,0,0,.int 120) := rfl
theorem fd_Sheet_fits_44 : am_fd mt_Sheet_fits.1 44 = (.if_icmp .gt 7,3,51,0,0,0,.retAddr 0) := rfl
theorem fd_Sheet_fits_47 : am_fd mt_Sheet_fits.1 47 = (.iconst 1,1,0,0,0,0,.int 1) := rfl
theorem fd_Sheet_fits_48 : am_fd mt_Sheet_fits.1 48 = (.goto 4,3,52,0,0,0,.retAddr 0) := rfl
theorem fd_Sheet_fits_51 : am_fd mt_Sheet_fits.1 51 = (.iconst 0,1,0,0,0,0,.int 0) := rfl
theorem fd_Sheet_fits_52 : am_fd mt_Sheet_fits.1 52 = (.ireturn,1,1,0,0,0,.retAddr 0) := rfl
theorem fd_Sheet_shared_0 : am_fd mt_Sheet_shared.1 0 = (.lload_n 1,1,1,0,0,0,.retAddr 0) := rfl
theorem fd_Sheet_shared_1 : am_fd mt_Sheet_shared.1 1 = (.aload_n 0,1,0,0,0,0,.retAddr 0) := rfl
theorem fd_Sheet_shared_2 : am_fd mt_Sheet_shared.1 2 = (.getfield 26,3,4,1,8,8,.retAddr 0) := rfl
theorem fd_Sheet_shared_5 : am_fd mt_Sheet_shared.1 5 = (.lxor,1,0,0,0,0,.retAddr 0) := rfl
theorem fd_Sheet_shared_6 : am_fd mt_Sheet_shared.1 6 = (.lstore_n 3,1,3,0,0,0,.retAddr 0) := rfl
theorem fd_Sheet_shared_7 : am_fd mt_Sheet_shared.1 7 = (.iconst 0,1,0,0,0,0,.int 0) := rfl
theorem fd_Sheet_shared_8 : am_fd mt_Sheet_shared.1 8 = (.istore 5,2,5,0,0,0,.retAddr 0) := rfl
theorem fd_Sheet_shared_10 : am_fd mt_Sheet_shared.1 10 = (.aload_n 0,1,0,0,0,0,.retAddr 0) := rfl
theorem fd_Sheet_shared_11 : am_fd mt_Sheet_shared.1 11 = (.getfield 19,3,2,0,8,8,.retAddr 0) := rfl
theorem fd_Sheet_shared_14 : am_fd mt_Sheet_shared.1 14 = (.ifCond .le 35,3,49,0,0,0,.retAddr 0) := rfl
theorem fd_Sheet_shared_17 : am_fd mt_Sheet_shared.1 17 = (.iload 5,2,5,0,0,0,.retAddr 0) := rfl
theorem fd_Sheet_shared_19 : am_fd mt_Sheet_shared.1 19 = (.bipush 8,2,0,0,0,0,.int 8) := rfl
theorem fd_Sheet_shared_21 : am_fd mt_Sheet_shared.1 21 = (.if_icmp .ge 28,3,49,0,0,0,.retAddr 0) := rfl
theorem fd_Sheet_shared_24 : am_fd mt_Sheet_shared.1 24 = (.lload_n 3,1,3,0,0,0,.retAddr 0) := rfl
theorem fd_Sheet_shared_25 : am_fd mt_Sheet_shared.1 25 = (.bipush 56,2,0,0,0,0,.int 56) := rfl
theorem fd_Sheet_shared_27 : am_fd mt_Sheet_shared.1 27 = (.bipush 8,2,0,0,0,0,.int 8) := rfl
theorem fd_Sheet_shared_29 : am_fd mt_Sheet_shared.1 29 = (.iload 5,2,5,0,0,0,.retAddr 0) := rfl
theorem fd_Sheet_shared_31 : am_fd mt_Sheet_shared.1 31 = (.imul,1,0,0,0,0,.retAddr 0) := rfl
theorem fd_Sheet_shared_32 : am_fd mt_Sheet_shared.1 32 = (.isub,1,0,0,0,0,.retAddr 0) := rfl
theorem fd_Sheet_shared_33 : am_fd mt_Sheet_shared.1 33 = (.lushr,1,0,0,0,0,.retAddr 0) := rfl
theorem fd_Sheet_shared_34 : am_fd mt_Sheet_shared.1 34 = (.ldc2_w 66,3,0,0,0,0,.long 255) := rfl
theorem fd_Sheet_shared_37 : am_fd mt_Sheet_shared.1 37 = (.land,1,0,0,0,0,.retAddr 0) := rfl
theorem fd_Sheet_shared_38 : am_fd mt_Sheet_shared.1 38 = (.lconst 0,1,0,0,0,0,.long 0) := rfl
theorem fd_Sheet_shared_39 : am_fd mt_Sheet_shared.1 39 = (.lcmp,1,0,0,0,0,.retAddr 0) := rfl
theorem fd_Sheet_shared_40 : am_fd mt_Sheet_shared.1 40 = (.ifCond .ne 9,3,49,0,0,0,.retAddr 0) := rfl
theorem fd_Sheet_shared_43 : am_fd mt_Sheet_shared.1 43 = (.iinc 5 1,3,5,0,0,0,.int 1) := rfl
theorem fd_Sheet_shared_46 : am_fd mt_Sheet_shared.1 46 = (.goto (-36),3,10,0,0,0,.retAddr 0) := rfl
theorem fd_Sheet_shared_49 : am_fd mt_Sheet_shared.1 49 = (.iload 5,2,5,0,0,0,.retAddr 0) := rfl
theorem fd_Sheet_shared_51 : am_fd mt_Sheet_shared.1 51 = (.ireturn,1,0,0,0,0,.retAddr 0) := rfl
theorem fd_Sheet_folded_0 : am_fd mt_Sheet_folded.1 0 = (.lload_n 0,1,0,0,0,0,.retAddr 0) := rfl
theorem fd_Sheet_folded_1 : am_fd mt_Sheet_folded.1 1 = (.lconst 0,1,0,0,0,0,.long 0) := rfl
theorem fd_Sheet_folded_2 : am_fd mt_Sheet_folded.1 2 = (.lcmp,1,0,0,0,0,.retAddr 0) := rfl
theorem fd_Sheet_folded_3 : am_fd mt_Sheet_folded.1 3 = (.ifCond .ge 15,3,18,0,0,0,.retAddr 0) := rfl
theorem fd_Sheet_folded_6 : am_fd mt_Sheet_folded.1 6 = (.ldc2_w 68,3,0,0,0,0,.long (-1)) := rfl
theorem fd_Sheet_folded_9 : am_fd mt_Sheet_folded.1 9 = (.lload_n 0,1,0,0,0,0,.retAddr 0) := rfl
theorem fd_Sheet_folded_10 : am_fd mt_Sheet_folded.1 10 = (.ldc2_w 70,3,0,0,0,0,.long 2) := rfl
theorem fd_Sheet_folded_13 : am_fd mt_Sheet_folded.1 13 = (.lmul,1,0,0,0,0,.retAddr 0) := rfl
theorem fd_Sheet_folded_14 : am_fd mt_Sheet_folded.1 14 = (.lsub,1,0,0,0,0,.retAddr 0) := rfl
theorem fd_Sheet_folded_15 : am_fd mt_Sheet_folded.1 15 = (.goto 8,3,23,0,0,0,.retAddr 0) := rfl
theorem fd_Sheet_folded_18 : am_fd mt_Sheet_folded.1 18 = (.lload_n 0,1,0,0,0,0,.retAddr 0) := rfl
theorem fd_Sheet_folded_19 : am_fd mt_Sheet_folded.1 19 = (.ldc2_w 70,3,0,0,0,0,.long 2) := rfl
theorem fd_Sheet_folded_22 : am_fd mt_Sheet_folded.1 22 = (.lmul,1,0,0,0,0,.retAddr 0) := rfl
theorem fd_Sheet_folded_23 : am_fd mt_Sheet_folded.1 23 = (.lreturn,1,0,0,0,0,.retAddr 0) := rfl
theorem fd_Sheet_sizeOf_0 : am_fd mt_Sheet_sizeOf.1 0 = (.iconst 1,1,0,0,0,0,.int 1) := rfl
theorem fd_Sheet_sizeOf_1 : am_fd mt_Sheet_sizeOf.1 1 = (.istore_n 2,1,2,0,0,0,.retAddr 0) := rfl
theorem fd_Sheet_sizeOf_2 : am_fd mt_Sheet_sizeOf.1 2 = (.iload_n 2,1,2,0,0,0,.retAddr 0) := rfl
theorem fd_Sheet_sizeOf_3 : am_fd mt_Sheet_sizeOf.1 3 = (.bipush 10,2,0,0,0,0,.int 10) := rfl
theorem fd_Sheet_sizeOf_5 : am_fd mt_Sheet_sizeOf.1 5 = (.if_icmp .ge 20,3,25,0,0,0,.retAddr 0) := rfl
theorem fd_Sheet_sizeOf_8 : am_fd mt_Sheet_sizeOf.1 8 = (.lload_n 0,1,0,0,0,0,.retAddr 0) := rfl
theorem fd_Sheet_sizeOf_9 : am_fd mt_Sheet_sizeOf.1 9 = (.bipush 7,2,0,0,0,0,.int 7) := rfl
theorem fd_Sheet_sizeOf_11 : am_fd mt_Sheet_sizeOf.1 11 = (.iload_n 2,1,2,0,0,0,.retAddr 0) := rfl
theorem fd_Sheet_sizeOf_12 : am_fd mt_Sheet_sizeOf.1 12 = (.imul,1,0,0,0,0,.retAddr 0) := rfl
theorem fd_Sheet_sizeOf_13 : am_fd mt_Sheet_sizeOf.1 13 = (.lushr,1,0,0,0,0,.retAddr 0) := rfl
theorem fd_Sheet_sizeOf_14 : am_fd mt_Sheet_sizeOf.1 14 = (.lconst 0,1,0,0,0,0,.long 0) := rfl
theorem fd_Sheet_sizeOf_15 : am_fd mt_Sheet_sizeOf.1 15 = (.lcmp,1,0,0,0,0,.retAddr 0) := rfl
theorem fd_Sheet_sizeOf_16 : am_fd mt_Sheet_sizeOf.1 16 = (.ifCond .eq 9,3,25,0,0,0,.retAddr 0) := rfl
theorem fd_Sheet_sizeOf_19 : am_fd mt_Sheet_sizeOf.1 19 = (.iinc 2 1,3,2,0,0,0,.int 1) := rfl
theorem fd_Sheet_sizeOf_22 : am_fd mt_Sheet_sizeOf.1 22 = (.goto (-20),3,2,0,0,0,.retAddr 0) := rfl
theorem fd_Sheet_sizeOf_25 : am_fd mt_Sheet_sizeOf.1 25 = (.iload_n 2,1,2,0,0,0,.retAddr 0) := rfl
theorem fd_Sheet_sizeOf_26 : am_fd mt_Sheet_sizeOf.1 26 = (.ireturn,1,0,0,0,0,.retAddr 0) := rfl
theorem fd_Sheet_beginPage_0 : am_fd mt_Sheet_beginPage.1 0 = (.aload_n 0,1,0,0,0,0,.retAddr 0) := rfl
theorem fd_Sheet_beginPage_1 : am_fd mt_Sheet_beginPage.1 1 = (.invokevirtual 33,3,13,1,8,0,.retAddr 0) := rfl
theorem fd_Sheet_beginPage_4 : am_fd mt_Sheet_beginPage.1 4 = (.aload_n 0,1,0,0,0,0,.retAddr 0) := rfl
theorem fd_Sheet_beginPage_5 : am_fd mt_Sheet_beginPage.1 5 = (.iload_n 1,1,1,0,0,0,.retAddr 0) := rfl
theorem fd_Sheet_beginPage_6 : am_fd mt_Sheet_beginPage.1 6 = (.invokevirtual 36,3,14,2,8,0,.retAddr 0) := rfl
theorem fd_Sheet_beginPage_9 : am_fd mt_Sheet_beginPage.1 9 = (.aload_n 0,1,0,0,0,0,.retAddr 0) := rfl
theorem fd_Sheet_beginPage_10 : am_fd mt_Sheet_beginPage.1 10 = (.iconst 5,1,0,0,0,0,.int 5) := rfl
theorem fd_Sheet_beginPage_11 : am_fd mt_Sheet_beginPage.1 11 = (.putfield 15,3,1,0,8,8,.retAddr 0) := rfl
theorem fd_Sheet_beginPage_14 : am_fd mt_Sheet_beginPage.1 14 = (.return_,1,0,0,0,0,.retAddr 0) := rfl
theorem fd_Sheet_append_0 : am_fd mt_Sheet_append.1 0 = (.aload_n 0,1,0,0,0,0,.retAddr 0) := rfl
theorem fd_Sheet_append_1 : am_fd mt_Sheet_append.1 1 = (.lload_n 1,1,1,0,0,0,.retAddr 0) := rfl
theorem fd_Sheet_append_2 : am_fd mt_Sheet_append.1 2 = (.invokevirtual 39,3,67,2,8,0,.retAddr 0) := rfl
theorem fd_Sheet_append_5 : am_fd mt_Sheet_append.1 5 = (.istore 4,2,4,0,0,0,.retAddr 0) := rfl
theorem fd_Sheet_append_7 : am_fd mt_Sheet_append.1 7 = (.lload_n 1,1,1,0,0,0,.retAddr 0) := rfl
theorem fd_Sheet_append_8 : am_fd mt_Sheet_append.1 8 = (.ldc2_w 58,3,0,0,0,0,.long (-9223372036854775808)) := rfl
theorem fd_Sheet_append_11 : am_fd mt_Sheet_append.1 11 = (.lxor,1,0,0,0,0,.retAddr 0) := rfl
theorem fd_Sheet_append_12 : am_fd mt_Sheet_append.1 12 = (.lstore 5,2,5,0,0,0,.retAddr 0) := rfl
theorem fd_Sheet_append_14 : am_fd mt_Sheet_append.1 14 = (.aload_n 0,1,0,0,0,0,.retAddr 0) := rfl
theorem fd_Sheet_append_15 : am_fd mt_Sheet_append.1 15 = (.iload 4,2,4,0,0,0,.retAddr 0) := rfl
theorem fd_Sheet_append_17 : am_fd mt_Sheet_append.1 17 = (.invokevirtual 29,3,15,2,8,0,.retAddr 0) := rfl
theorem fd_Sheet_append_20 : am_fd mt_Sheet_append.1 20 = (.iload 4,2,4,0,0,0,.retAddr 0) := rfl
theorem fd_Sheet_append_22 : am_fd mt_Sheet_append.1 22 = (.istore 7,2,7,0,0,0,.retAddr 0) := rfl
theorem fd_Sheet_append_24 : am_fd mt_Sheet_append.1 24 = (.iload 7,2,7,0,0,0,.retAddr 0) := rfl
theorem fd_Sheet_append_26 : am_fd mt_Sheet_append.1 26 = (.bipush 8,2,0,0,0,0,.int 8) := rfl
theorem fd_Sheet_append_28 : am_fd mt_Sheet_append.1 28 = (.if_icmp .ge 25,3,53,0,0,0,.retAddr 0) := rfl
theorem fd_Sheet_append_31 : am_fd mt_Sheet_append.1 31 = (.aload_n 0,1,0,0,0,0,.retAddr 0) := rfl
theorem fd_Sheet_append_32 : am_fd mt_Sheet_append.1 32 = (.lload 5,2,5,0,0,0,.retAddr 0) := rfl
theorem fd_Sheet_append_34 : am_fd mt_Sheet_append.1 34 = (.bipush 56,2,0,0,0,0,.int 56) := rfl
theorem fd_Sheet_append_36 : am_fd mt_Sheet_append.1 36 = (.bipush 8,2,0,0,0,0,.int 8) := rfl
theorem fd_Sheet_append_38 : am_fd mt_Sheet_append.1 38 = (.iload 7,2,7,0,0,0,.retAddr 0) := rfl
theorem fd_Sheet_append_40 : am_fd mt_Sheet_append.1 40 = (.imul,1,0,0,0,0,.retAddr 0) := rfl
theorem fd_Sheet_append_41 : am_fd mt_Sheet_append.1 41 = (.isub,1,0,0,0,0,.retAddr 0) := rfl
theorem fd_Sheet_append_42 : am_fd mt_Sheet_append.1 42 = (.lushr,1,0,0,0,0,.retAddr 0) := rfl
theorem fd_Sheet_append_43 : am_fd mt_Sheet_append.1 43 = (.l2i,1,0,0,0,0,.retAddr 0) := rfl
theorem fd_Sheet_append_44 : am_fd mt_Sheet_append.1 44 = (.invokevirtual 29,3,15,2,8,0,.retAddr 0) := rfl
theorem fd_Sheet_append_47 : am_fd mt_Sheet_append.1 47 = (.iinc 7 1,3,7,0,0,0,.int 1) := rfl
theorem fd_Sheet_append_50 : am_fd mt_Sheet_append.1 50 = (.goto (-26),3,24,0,0,0,.retAddr 0) := rfl
theorem fd_Sheet_append_53 : am_fd mt_Sheet_append.1 53 = (.aload_n 0,1,0,0,0,0,.retAddr 0) := rfl
theorem fd_Sheet_append_54 : am_fd mt_Sheet_append.1 54 = (.aload_n 3,1,3,0,0,0,.retAddr 0) := rfl
theorem fd_Sheet_append_55 : am_fd mt_Sheet_append.1 55 = (.getfield 43,3,0,0,3,3,.retAddr 0) := rfl
theorem fd_Sheet_append_58 : am_fd mt_Sheet_append.1 58 = (.invokevirtual 29,3,15,2,8,0,.retAddr 0) := rfl
theorem fd_Sheet_append_61 : am_fd mt_Sheet_append.1 61 = (.aload_n 3,1,3,0,0,0,.retAddr 0) := rfl
theorem fd_Sheet_append_62 : am_fd mt_Sheet_append.1 62 = (.getfield 43,3,0,0,3,3,.retAddr 0) := rfl
theorem fd_Sheet_append_65 : am_fd mt_Sheet_append.1 65 = (.iconst 2,1,0,0,0,0,.int 2) := rfl
theorem fd_Sheet_append_66 : am_fd mt_Sheet_append.1 66 = (.if_icmp .eq 14,3,80,0,0,0,.retAddr 0) := rfl
theorem fd_Sheet_append_69 : am_fd mt_Sheet_append.1 69 = (.aload_n 0,1,0,0,0,0,.retAddr 0) := rfl
theorem fd_Sheet_append_70 : am_fd mt_Sheet_append.1 70 = (.aload_n 3,1,3,0,0,0,.retAddr 0) := rfl
theorem fd_Sheet_append_71 : am_fd mt_Sheet_append.1 71 = (.getfield 48,3,1,1,3,3,.retAddr 0) := rfl
theorem fd_Sheet_append_74 : am_fd mt_Sheet_append.1 74 = (.invokestatic 51,3,68,1,0,0,.retAddr 0) := rfl
theorem fd_Sheet_append_77 : am_fd mt_Sheet_append.1 77 = (.invokevirtual 60,3,72,2,8,0,.retAddr 0) := rfl
theorem fd_Sheet_append_80 : am_fd mt_Sheet_append.1 80 = (.aload_n 0,1,0,0,0,0,.retAddr 0) := rfl
theorem fd_Sheet_append_81 : am_fd mt_Sheet_append.1 81 = (.getfield 19,3,2,0,8,8,.retAddr 0) := rfl
theorem fd_Sheet_append_84 : am_fd mt_Sheet_append.1 84 = (.ifCond .ne 8,3,92,0,0,0,.retAddr 0) := rfl
theorem fd_Sheet_append_87 : am_fd mt_Sheet_append.1 87 = (.aload_n 0,1,0,0,0,0,.retAddr 0) := rfl
theorem fd_Sheet_append_88 : am_fd mt_Sheet_append.1 88 = (.lload_n 1,1,1,0,0,0,.retAddr 0) := rfl
theorem fd_Sheet_append_89 : am_fd mt_Sheet_append.1 89 = (.putfield 22,3,3,1,8,8,.retAddr 0) := rfl
theorem fd_Sheet_append_92 : am_fd mt_Sheet_append.1 92 = (.aload_n 0,1,0,0,0,0,.retAddr 0) := rfl
theorem fd_Sheet_append_93 : am_fd mt_Sheet_append.1 93 = (.lload_n 1,1,1,0,0,0,.retAddr 0) := rfl
theorem fd_Sheet_append_94 : am_fd mt_Sheet_append.1 94 = (.putfield 26,3,4,1,8,8,.retAddr 0) := rfl
theorem fd_Sheet_append_97 : am_fd mt_Sheet_append.1 97 = (.aload_n 0,1,0,0,0,0,.retAddr 0) := rfl
theorem fd_Sheet_append_98 : am_fd mt_Sheet_append.1 98 = (.dup,1,0,0,0,0,.retAddr 0) := rfl
theorem fd_Sheet_append_99 : am_fd mt_Sheet_append.1 99 = (.getfield 19,3,2,0,8,8,.retAddr 0) := rfl
theorem fd_Sheet_append_102 : am_fd mt_Sheet_append.1 102 = (.iconst 1,1,0,0,0,0,.int 1) := rfl
theorem fd_Sheet_append_103 : am_fd mt_Sheet_append.1 103 = (.iadd,1,0,0,0,0,.retAddr 0) := rfl
theorem fd_Sheet_append_104 : am_fd mt_Sheet_append.1 104 = (.putfield 19,3,2,0,8,8,.retAddr 0) := rfl
theorem fd_Sheet_append_107 : am_fd mt_Sheet_append.1 107 = (.return_,1,0,0,0,0,.retAddr 0) := rfl
theorem fd_Sheet_appendValue_0 : am_fd mt_Sheet_appendValue.1 0 = (.lload_n 1,1,1,0,0,0,.retAddr 0) := rfl
theorem fd_Sheet_appendValue_1 : am_fd mt_Sheet_appendValue.1 1 = (.lstore_n 3,1,3,0,0,0,.retAddr 0) := rfl
theorem fd_Sheet_appendValue_2 : am_fd mt_Sheet_appendValue.1 2 = (.lload_n 1,1,1,0,0,0,.retAddr 0) := rfl
theorem fd_Sheet_appendValue_3 : am_fd mt_Sheet_appendValue.1 3 = (.invokestatic 55,3,69,1,0,0,.retAddr 0) := rfl
theorem fd_Sheet_appendValue_6 : am_fd mt_Sheet_appendValue.1 6 = (.istore 5,2,5,0,0,0,.retAddr 0) := rfl
theorem fd_Sheet_appendValue_8 : am_fd mt_Sheet_appendValue.1 8 = (.iload 5,2,5,0,0,0,.retAddr 0) := rfl
theorem fd_Sheet_appendValue_10 : am_fd mt_Sheet_appendValue.1 10 = (.iconst 1,1,0,0,0,0,.int 1) := rfl
theorem fd_Sheet_appendValue_11 : am_fd mt_Sheet_appendValue.1 11 = (.if_icmp .le 28,3,39,0,0,0,.retAddr 0) := rfl
theorem fd_Sheet_appendValue_14 : am_fd mt_Sheet_appendValue.1 14 = (.aload_n 0,1,0,0,0,0,.retAddr 0) := rfl
theorem fd_Sheet_appendValue_15 : am_fd mt_Sheet_appendValue.1 15 = (.lload_n 3,1,3,0,0,0,.retAddr 0) := rfl
theorem fd_Sheet_appendValue_16 : am_fd mt_Sheet_appendValue.1 16 = (.ldc2_w 64,3,0,0,0,0,.long 127) := rfl
theorem fd_Sheet_appendValue_19 : am_fd mt_Sheet_appendValue.1 19 = (.land,1,0,0,0,0,.retAddr 0) := rfl
theorem fd_Sheet_appendValue_20 : am_fd mt_Sheet_appendValue.1 20 = (.l2i,1,0,0,0,0,.retAddr 0) := rfl
theorem fd_Sheet_appendValue_21 : am_fd mt_Sheet_appendValue.1 21 = (.sipush 128,3,0,0,0,0,.int 128) := rfl
theorem fd_Sheet_appendValue_24 : am_fd mt_Sheet_appendValue.1 24 = (.ior,1,0,0,0,0,.retAddr 0) := rfl
theorem fd_Sheet_appendValue_25 : am_fd mt_Sheet_appendValue.1 25 = (.invokevirtual 29,3,15,2,8,0,.retAddr 0) := rfl
theorem fd_Sheet_appendValue_28 : am_fd mt_Sheet_appendValue.1 28 = (.lload_n 3,1,3,0,0,0,.retAddr 0) := rfl
theorem fd_Sheet_appendValue_29 : am_fd mt_Sheet_appendValue.1 29 = (.bipush 7,2,0,0,0,0,.int 7) := rfl
theorem fd_Sheet_appendValue_31 : am_fd mt_Sheet_appendValue.1 31 = (.lushr,1,0,0,0,0,.retAddr 0) := rfl
theorem fd_Sheet_appendValue_32 : am_fd mt_Sheet_appendValue.1 32 = (.lstore_n 3,1,3,0,0,0,.retAddr 0) := rfl
theorem fd_Sheet_appendValue_33 : am_fd mt_Sheet_appendValue.1 33 = (.iinc 5 (-1),3,5,0,0,0,.int (-1)) := rfl
theorem fd_Sheet_appendValue_36 : am_fd mt_Sheet_appendValue.1 36 = (.goto (-28),3,8,0,0,0,.retAddr 0) := rfl
theorem fd_Sheet_appendValue_39 : am_fd mt_Sheet_appendValue.1 39 = (.aload_n 0,1,0,0,0,0,.retAddr 0) := rfl
theorem fd_Sheet_appendValue_40 : am_fd mt_Sheet_appendValue.1 40 = (.lload_n 3,1,3,0,0,0,.retAddr 0) := rfl
theorem fd_Sheet_appendValue_41 : am_fd mt_Sheet_appendValue.1 41 = (.l2i,1,0,0,0,0,.retAddr 0) := rfl
theorem fd_Sheet_appendValue_42 : am_fd mt_Sheet_appendValue.1 42 = (.invokevirtual 29,3,15,2,8,0,.retAddr 0) := rfl
theorem fd_Sheet_appendValue_45 : am_fd mt_Sheet_appendValue.1 45 = (.return_,1,0,0,0,0,.retAddr 0) := rfl
theorem fd_SR_writeMerged_0 : am_fd mt_SR_writeMerged.1 0 = (.aload_n 0,1,0,0,0,0,.retAddr 0) := rfl
theorem fd_SR_writeMerged_1 : am_fd mt_SR_writeMerged.1 1 = (.getfield 86,3,1,2,1,1,.retAddr 0) := rfl
theorem fd_SR_writeMerged_4 : am_fd mt_SR_writeMerged.1 4 = (.getfield 179,3,4,0,9,9,.retAddr 0) := rfl
theorem fd_SR_writeMerged_7 : am_fd mt_SR_writeMerged.1 7 = (.istore 4,2,4,0,0,0,.retAddr 0) := rfl
theorem fd_SR_writeMerged_9 : am_fd mt_SR_writeMerged.1 9 = (.aload_n 0,1,0,0,0,0,.retAddr 0) := rfl
theorem fd_SR_writeMerged_10 : am_fd mt_SR_writeMerged.1 10 = (.getfield 19,3,3,2,1,1,.retAddr 0) := rfl
theorem fd_SR_writeMerged_13 : am_fd mt_SR_writeMerged.1 13 = (.getfield 167,3,0,2,6,6,.retAddr 0) := rfl
theorem fd_SR_writeMerged_16 : am_fd mt_SR_writeMerged.1 16 = (.iconst 0,1,0,0,0,0,.int 0) := rfl
theorem fd_SR_writeMerged_17 : am_fd mt_SR_writeMerged.1 17 = (.aaload,1,0,0,0,0,.retAddr 0) := rfl
theorem fd_SR_writeMerged_18 : am_fd mt_SR_writeMerged.1 18 = (.astore 5,2,5,0,0,0,.retAddr 0) := rfl
theorem fd_SR_writeMerged_20 : am_fd mt_SR_writeMerged.1 20 = (.iload_n 3,1,3,0,0,0,.retAddr 0) := rfl
theorem fd_SR_writeMerged_21 : am_fd mt_SR_writeMerged.1 21 = (.ifCond .le 25,3,46,0,0,0,.retAddr 0) := rfl
theorem fd_SR_writeMerged_24 : am_fd mt_SR_writeMerged.1 24 = (.aload_n 0,1,0,0,0,0,.retAddr 0) := rfl
theorem fd_SR_writeMerged_25 : am_fd mt_SR_writeMerged.1 25 = (.iload_n 2,1,2,0,0,0,.retAddr 0) := rfl
theorem fd_SR_writeMerged_26 : am_fd mt_SR_writeMerged.1 26 = (.invokevirtual 201,3,50,2,1,0,.retAddr 0) := rfl
theorem fd_SR_writeMerged_29 : am_fd mt_SR_writeMerged.1 29 = (.aload_n 0,1,0,0,0,0,.retAddr 0) := rfl
theorem fd_SR_writeMerged_30 : am_fd mt_SR_writeMerged.1 30 = (.iload_n 1,1,1,0,0,0,.retAddr 0) := rfl
theorem fd_SR_writeMerged_31 : am_fd mt_SR_writeMerged.1 31 = (.invokevirtual 185,3,74,2,1,0,.retAddr 0) := rfl
theorem fd_SR_writeMerged_34 : am_fd mt_SR_writeMerged.1 34 = (.astore 5,2,5,0,0,0,.retAddr 0) := rfl
theorem fd_SR_writeMerged_36 : am_fd mt_SR_writeMerged.1 36 = (.aload_n 0,1,0,0,0,0,.retAddr 0) := rfl
theorem fd_SR_writeMerged_37 : am_fd mt_SR_writeMerged.1 37 = (.getfield 61,3,15,0,1,1,.retAddr 0) := rfl
theorem fd_SR_writeMerged_40 : am_fd mt_SR_writeMerged.1 40 = (.ifCond .eq 6,3,46,0,0,0,.retAddr 0) := rfl
theorem fd_SR_writeMerged_43 : am_fd mt_SR_writeMerged.1 43 = (.ldc 211,2,0,0,0,0,.int (-2000000)) := rfl
theorem fd_SR_writeMerged_45 : am_fd mt_SR_writeMerged.1 45 = (.ireturn,1,0,0,0,0,.retAddr 0) := rfl
theorem fd_SR_writeMerged_46 : am_fd mt_SR_writeMerged.1 46 = (.iconst 0,1,0,0,0,0,.int 0) := rfl
theorem fd_SR_writeMerged_47 : am_fd mt_SR_writeMerged.1 47 = (.istore 6,2,6,0,0,0,.retAddr 0) := rfl
theorem fd_SR_writeMerged_49 : am_fd mt_SR_writeMerged.1 49 = (.iload 6,2,6,0,0,0,.retAddr 0) := rfl
theorem fd_SR_writeMerged_51 : am_fd mt_SR_writeMerged.1 51 = (.iload_n 2,1,2,0,0,0,.retAddr 0) := rfl
theorem fd_SR_writeMerged_52 : am_fd mt_SR_writeMerged.1 52 = (.if_icmp .ge 30,3,82,0,0,0,.retAddr 0) := rfl
theorem fd_SR_writeMerged_55 : am_fd mt_SR_writeMerged.1 55 = (.iload 6,2,6,0,0,0,.retAddr 0) := rfl
theorem fd_SR_writeMerged_57 : am_fd mt_SR_writeMerged.1 57 = (.bipush 9,2,0,0,0,0,.int 9) := rfl
theorem fd_SR_writeMerged_59 : am_fd mt_SR_writeMerged.1 59 = (.if_icmp .ge 23,3,82,0,0,0,.retAddr 0) := rfl
theorem fd_SR_writeMerged_62 : am_fd mt_SR_writeMerged.1 62 = (.aload_n 0,1,0,0,0,0,.retAddr 0) := rfl
theorem fd_SR_writeMerged_63 : am_fd mt_SR_writeMerged.1 63 = (.aload_n 0,1,0,0,0,0,.retAddr 0) := rfl
theorem fd_SR_writeMerged_64 : am_fd mt_SR_writeMerged.1 64 = (.getfield 19,3,3,2,1,1,.retAddr 0) := rfl
theorem fd_SR_writeMerged_67 : am_fd mt_SR_writeMerged.1 67 = (.getfield 167,3,0,2,6,6,.retAddr 0) := rfl
theorem fd_SR_writeMerged_70 : am_fd mt_SR_writeMerged.1 70 = (.iload 6,2,6,0,0,0,.retAddr 0) := rfl
theorem fd_SR_writeMerged_72 : am_fd mt_SR_writeMerged.1 72 = (.aaload,1,0,0,0,0,.retAddr 0) := rfl
theorem fd_SR_writeMerged_73 : am_fd mt_SR_writeMerged.1 73 = (.invokevirtual 212,3,83,2,1,0,.retAddr 0) := rfl
theorem fd_SR_writeMerged_76 : am_fd mt_SR_writeMerged.1 76 = (.iinc 6 1,3,6,0,0,0,.int 1) := rfl
theorem fd_SR_writeMerged_79 : am_fd mt_SR_writeMerged.1 79 = (.goto (-30),3,49,0,0,0,.retAddr 0) := rfl
theorem fd_SR_writeMerged_82 : am_fd mt_SR_writeMerged.1 82 = (.aload_n 0,1,0,0,0,0,.retAddr 0) := rfl
theorem fd_SR_writeMerged_83 : am_fd mt_SR_writeMerged.1 83 = (.getfield 19,3,3,2,1,1,.retAddr 0) := rfl
theorem fd_SR_writeMerged_86 : am_fd mt_SR_writeMerged.1 86 = (.iload_n 2,1,2,0,0,0,.retAddr 0) := rfl
theorem fd_SR_writeMerged_87 : am_fd mt_SR_writeMerged.1 87 = (.invokevirtual 215,3,85,2,6,0,.retAddr 0) := rfl
theorem fd_SR_writeMerged_90 : am_fd mt_SR_writeMerged.1 90 = (.iload_n 3,1,3,0,0,0,.retAddr 0) := rfl
theorem fd_SR_writeMerged_91 : am_fd mt_SR_writeMerged.1 91 = (.ifCond .le 12,3,103,0,0,0,.retAddr 0) := rfl
theorem fd_SR_writeMerged_94 : am_fd mt_SR_writeMerged.1 94 = (.aload_n 0,1,0,0,0,0,.retAddr 0) := rfl
theorem fd_SR_writeMerged_95 : am_fd mt_SR_writeMerged.1 95 = (.getfield 19,3,3,2,1,1,.retAddr 0) := rfl
theorem fd_SR_writeMerged_98 : am_fd mt_SR_writeMerged.1 98 = (.aload 5,2,5,0,0,0,.retAddr 0) := rfl
theorem fd_SR_writeMerged_100 : am_fd mt_SR_writeMerged.1 100 = (.invokevirtual 189,3,86,2,6,0,.retAddr 0) := rfl
theorem fd_SR_writeMerged_103 : am_fd mt_SR_writeMerged.1 103 = (.aload_n 0,1,0,0,0,0,.retAddr 0) := rfl
theorem fd_SR_writeMerged_104 : am_fd mt_SR_writeMerged.1 104 = (.invokevirtual 193,3,87,1,1,0,.retAddr 0) := rfl
theorem fd_SR_writeMerged_107 : am_fd mt_SR_writeMerged.1 107 = (.aload_n 0,1,0,0,0,0,.retAddr 0) := rfl
theorem fd_SR_writeMerged_108 : am_fd mt_SR_writeMerged.1 108 = (.getfield 61,3,15,0,1,1,.retAddr 0) := rfl
theorem fd_SR_writeMerged_111 : am_fd mt_SR_writeMerged.1 111 = (.ifCond .eq 8,3,119,0,0,0,.retAddr 0) := rfl
theorem fd_SR_writeMerged_114 : am_fd mt_SR_writeMerged.1 114 = (.ldc 211,2,0,0,0,0,.int (-2000000)) := rfl
theorem fd_SR_writeMerged_116 : am_fd mt_SR_writeMerged.1 116 = (.goto 13,3,129,0,0,0,.retAddr 0) := rfl
theorem fd_SR_writeMerged_119 : am_fd mt_SR_writeMerged.1 119 = (.aload_n 0,1,0,0,0,0,.retAddr 0) := rfl
theorem fd_SR_writeMerged_120 : am_fd mt_SR_writeMerged.1 120 = (.getfield 86,3,1,2,1,1,.retAddr 0) := rfl
theorem fd_SR_writeMerged_123 : am_fd mt_SR_writeMerged.1 123 = (.getfield 179,3,4,0,9,9,.retAddr 0) := rfl
theorem fd_SR_writeMerged_126 : am_fd mt_SR_writeMerged.1 126 = (.iload 4,2,4,0,0,0,.retAddr 0) := rfl
theorem fd_SR_writeMerged_128 : am_fd mt_SR_writeMerged.1 128 = (.isub,1,0,0,0,0,.retAddr 0) := rfl
theorem fd_SR_writeMerged_129 : am_fd mt_SR_writeMerged.1 129 = (.ireturn,1,0,0,0,0,.retAddr 0) := rfl
theorem fd_SR_writeRun_0 : am_fd mt_SR_writeRun.1 0 = (.new 172,3,5,0,9,0,.retAddr 0) := rfl
theorem fd_SR_writeRun_3 : am_fd mt_SR_writeRun.1 3 = (.dup,1,0,0,0,0,.retAddr 0) := rfl
theorem fd_SR_writeRun_4 : am_fd mt_SR_writeRun.1 4 = (.aload_n 0,1,0,0,0,0,.retAddr 0) := rfl
theorem fd_SR_writeRun_5 : am_fd mt_SR_writeRun.1 5 = (.getfield 55,3,13,0,1,1,.retAddr 0) := rfl
theorem fd_SR_writeRun_8 : am_fd mt_SR_writeRun.1 8 = (.iload_n 1,1,1,0,0,0,.retAddr 0) := rfl
theorem fd_SR_writeRun_9 : am_fd mt_SR_writeRun.1 9 = (.invokespecial 273,3,4,3,5,0,.retAddr 0) := rfl
theorem fd_SR_writeRun_12 : am_fd mt_SR_writeRun.1 12 = (.astore_n 2,1,2,0,0,0,.retAddr 0) := rfl
theorem fd_SR_writeRun_13 : am_fd mt_SR_writeRun.1 13 = (.aload_n 0,1,0,0,0,0,.retAddr 0) := rfl
theorem fd_SR_writeRun_14 : am_fd mt_SR_writeRun.1 14 = (.dup,1,0,0,0,0,.retAddr 0) := rfl
theorem fd_SR_writeRun_15 : am_fd mt_SR_writeRun.1 15 = (.getfield 55,3,13,0,1,1,.retAddr 0) := rfl
theorem fd_SR_writeRun_18 : am_fd mt_SR_writeRun.1 18 = (.iconst 1,1,0,0,0,0,.int 1) := rfl
theorem fd_SR_writeRun_19 : am_fd mt_SR_writeRun.1 19 = (.iadd,1,0,0,0,0,.retAddr 0) := rfl
theorem fd_SR_writeRun_20 : am_fd mt_SR_writeRun.1 20 = (.putfield 55,3,13,0,1,1,.retAddr 0) := rfl
theorem fd_SR_writeRun_23 : am_fd mt_SR_writeRun.1 23 = (.aload_n 0,1,0,0,0,0,.retAddr 0) := rfl
theorem fd_SR_writeRun_24 : am_fd mt_SR_writeRun.1 24 = (.getfield 86,3,1,2,1,1,.retAddr 0) := rfl
theorem fd_SR_writeRun_27 : am_fd mt_SR_writeRun.1 27 = (.iconst 2,1,0,0,0,0,.int 2) := rfl
theorem fd_SR_writeRun_28 : am_fd mt_SR_writeRun.1 28 = (.invokevirtual 276,3,75,2,9,0,.retAddr 0) := rfl
theorem fd_SR_writeRun_31 : am_fd mt_SR_writeRun.1 31 = (.istore_n 3,1,3,0,0,0,.retAddr 0) := rfl
theorem fd_SR_writeRun_32 : am_fd mt_SR_writeRun.1 32 = (.aload_n 2,1,2,0,0,0,.retAddr 0) := rfl
theorem fd_SR_writeRun_33 : am_fd mt_SR_writeRun.1 33 = (.iload_n 3,1,3,0,0,0,.retAddr 0) := rfl
theorem fd_SR_writeRun_34 : am_fd mt_SR_writeRun.1 34 = (.putfield 224,3,3,0,5,5,.retAddr 0) := rfl
theorem fd_SR_writeRun_37 : am_fd mt_SR_writeRun.1 37 = (.aload_n 0,1,0,0,0,0,.retAddr 0) := rfl
theorem fd_SR_writeRun_38 : am_fd mt_SR_writeRun.1 38 = (.getfield 37,3,8,2,1,1,.retAddr 0) := rfl
theorem fd_SR_writeRun_41 : am_fd mt_SR_writeRun.1 41 = (.aload_n 2,1,2,0,0,0,.retAddr 0) := rfl
theorem fd_SR_writeRun_42 : am_fd mt_SR_writeRun.1 42 = (.getfield 171,3,0,0,5,5,.retAddr 0) := rfl
theorem fd_SR_writeRun_45 : am_fd mt_SR_writeRun.1 45 = (.invokevirtual 266,3,70,2,8,0,.retAddr 0) := rfl
theorem fd_SR_writeRun_48 : am_fd mt_SR_writeRun.1 48 = (.iconst 0,1,0,0,0,0,.int 0) := rfl
theorem fd_SR_writeRun_49 : am_fd mt_SR_writeRun.1 49 = (.istore 4,2,4,0,0,0,.retAddr 0) := rfl
theorem fd_SR_writeRun_51 : am_fd mt_SR_writeRun.1 51 = (.iload 4,2,4,0,0,0,.retAddr 0) := rfl
theorem fd_SR_writeRun_53 : am_fd mt_SR_writeRun.1 53 = (.ldc 250,2,0,0,0,0,.int 1000000) := rfl
theorem fd_SR_writeRun_55 : am_fd mt_SR_writeRun.1 55 = (.if_icmp .ge 118,3,173,0,0,0,.retAddr 0) := rfl
theorem fd_SR_writeRun_58 : am_fd mt_SR_writeRun.1 58 = (.aload_n 0,1,0,0,0,0,.retAddr 0) := rfl
theorem fd_SR_writeRun_59 : am_fd mt_SR_writeRun.1 59 = (.getfield 95,3,5,2,1,1,.retAddr 0) := rfl
theorem fd_SR_writeRun_62 : am_fd mt_SR_writeRun.1 62 = (.invokevirtual 251,3,63,1,2,0,.retAddr 0) := rfl
theorem fd_SR_writeRun_65 : am_fd mt_SR_writeRun.1 65 = (.ifCond .eq 108,3,173,0,0,0,.retAddr 0) := rfl
theorem fd_SR_writeRun_68 : am_fd mt_SR_writeRun.1 68 = (.aload_n 0,1,0,0,0,0,.retAddr 0) := rfl
theorem fd_SR_writeRun_69 : am_fd mt_SR_writeRun.1 69 = (.getfield 37,3,8,2,1,1,.retAddr 0) := rfl
theorem fd_SR_writeRun_72 : am_fd mt_SR_writeRun.1 72 = (.aload_n 0,1,0,0,0,0,.retAddr 0) := rfl
theorem fd_SR_writeRun_73 : am_fd mt_SR_writeRun.1 73 = (.getfield 95,3,5,2,1,1,.retAddr 0) := rfl
theorem fd_SR_writeRun_76 : am_fd mt_SR_writeRun.1 76 = (.getfield 255,3,1,1,2,2,.retAddr 0) := rfl
theorem fd_SR_writeRun_79 : am_fd mt_SR_writeRun.1 79 = (.aload_n 0,1,0,0,0,0,.retAddr 0) := rfl
theorem fd_SR_writeRun_80 : am_fd mt_SR_writeRun.1 80 = (.getfield 95,3,5,2,1,1,.retAddr 0) := rfl
theorem fd_SR_writeRun_83 : am_fd mt_SR_writeRun.1 83 = (.getfield 259,3,0,2,2,2,.retAddr 0) := rfl
theorem fd_SR_writeRun_86 : am_fd mt_SR_writeRun.1 86 = (.invokevirtual 262,3,66,3,8,0,.retAddr 0) := rfl
theorem fd_SR_writeRun_89 : am_fd mt_SR_writeRun.1 89 = (.ifCond .ne 46,3,135,0,0,0,.retAddr 0) := rfl
theorem fd_SR_writeRun_92 : am_fd mt_SR_writeRun.1 92 = (.aload_n 0,1,0,0,0,0,.retAddr 0) := rfl
theorem fd_SR_writeRun_93 : am_fd mt_SR_writeRun.1 93 = (.getfield 86,3,1,2,1,1,.retAddr 0) := rfl
theorem fd_SR_writeRun_96 : am_fd mt_SR_writeRun.1 96 = (.iload_n 3,1,3,0,0,0,.retAddr 0) := rfl
theorem fd_SR_writeRun_97 : am_fd mt_SR_writeRun.1 97 = (.iconst 1,1,0,0,0,0,.int 1) := rfl
theorem fd_SR_writeRun_98 : am_fd mt_SR_writeRun.1 98 = (.iadd,1,0,0,0,0,.retAddr 0) := rfl
theorem fd_SR_writeRun_99 : am_fd mt_SR_writeRun.1 99 = (.invokevirtual 276,3,75,2,9,0,.retAddr 0) := rfl
theorem fd_SR_writeRun_102 : am_fd mt_SR_writeRun.1 102 = (.istore 5,2,5,0,0,0,.retAddr 0) := rfl
theorem fd_SR_writeRun_104 : am_fd mt_SR_writeRun.1 104 = (.aload_n 0,1,0,0,0,0,.retAddr 0) := rfl
theorem fd_SR_writeRun_105 : am_fd mt_SR_writeRun.1 105 = (.aload_n 2,1,2,0,0,0,.retAddr 0) := rfl
theorem fd_SR_writeRun_106 : am_fd mt_SR_writeRun.1 106 = (.iload_n 3,1,3,0,0,0,.retAddr 0) := rfl
theorem fd_SR_writeRun_107 : am_fd mt_SR_writeRun.1 107 = (.iload 5,2,5,0,0,0,.retAddr 0) := rfl
theorem fd_SR_writeRun_109 : am_fd mt_SR_writeRun.1 109 = (.invokevirtual 279,3,76,4,1,0,.retAddr 0) := rfl
theorem fd_SR_writeRun_112 : am_fd mt_SR_writeRun.1 112 = (.aload_n 0,1,0,0,0,0,.retAddr 0) := rfl
theorem fd_SR_writeRun_113 : am_fd mt_SR_writeRun.1 113 = (.getfield 61,3,15,0,1,1,.retAddr 0) := rfl
theorem fd_SR_writeRun_116 : am_fd mt_SR_writeRun.1 116 = (.ifCond .eq 5,3,121,0,0,0,.retAddr 0) := rfl
theorem fd_SR_writeRun_119 : am_fd mt_SR_writeRun.1 119 = (.aload_n 2,1,2,0,0,0,.retAddr 0) := rfl
theorem fd_SR_writeRun_120 : am_fd mt_SR_writeRun.1 120 = (.areturn,1,0,0,0,0,.retAddr 0) := rfl
theorem fd_SR_writeRun_121 : am_fd mt_SR_writeRun.1 121 = (.iload 5,2,5,0,0,0,.retAddr 0) := rfl
theorem fd_SR_writeRun_123 : am_fd mt_SR_writeRun.1 123 = (.istore_n 3,1,3,0,0,0,.retAddr 0) := rfl
theorem fd_SR_writeRun_124 : am_fd mt_SR_writeRun.1 124 = (.aload_n 0,1,0,0,0,0,.retAddr 0) := rfl
theorem fd_SR_writeRun_125 : am_fd mt_SR_writeRun.1 125 = (.getfield 37,3,8,2,1,1,.retAddr 0) := rfl
theorem fd_SR_writeRun_128 : am_fd mt_SR_writeRun.1 128 = (.aload_n 2,1,2,0,0,0,.retAddr 0) := rfl
theorem fd_SR_writeRun_129 : am_fd mt_SR_writeRun.1 129 = (.getfield 171,3,0,0,5,5,.retAddr 0) := rfl
theorem fd_SR_writeRun_132 : am_fd mt_SR_writeRun.1 132 = (.invokevirtual 266,3,70,2,8,0,.retAddr 0) := rfl
theorem fd_SR_writeRun_135 : am_fd mt_SR_writeRun.1 135 = (.aload_n 0,1,0,0,0,0,.retAddr 0) := rfl
theorem fd_SR_writeRun_136 : am_fd mt_SR_writeRun.1 136 = (.getfield 37,3,8,2,1,1,.retAddr 0) := rfl
theorem fd_SR_writeRun_139 : am_fd mt_SR_writeRun.1 139 = (.aload_n 0,1,0,0,0,0,.retAddr 0) := rfl
theorem fd_SR_writeRun_140 : am_fd mt_SR_writeRun.1 140 = (.getfield 95,3,5,2,1,1,.retAddr 0) := rfl
theorem fd_SR_writeRun_143 : am_fd mt_SR_writeRun.1 143 = (.getfield 255,3,1,1,2,2,.retAddr 0) := rfl
theorem fd_SR_writeRun_146 : am_fd mt_SR_writeRun.1 146 = (.aload_n 0,1,0,0,0,0,.retAddr 0) := rfl
theorem fd_SR_writeRun_147 : am_fd mt_SR_writeRun.1 147 = (.getfield 95,3,5,2,1,1,.retAddr 0) := rfl
theorem fd_SR_writeRun_150 : am_fd mt_SR_writeRun.1 150 = (.getfield 259,3,0,2,2,2,.retAddr 0) := rfl
theorem fd_SR_writeRun_153 : am_fd mt_SR_writeRun.1 153 = (.invokevirtual 269,3,71,3,8,0,.retAddr 0) := rfl
theorem fd_SR_writeRun_156 : am_fd mt_SR_writeRun.1 156 = (.aload_n 2,1,2,0,0,0,.retAddr 0) := rfl
theorem fd_SR_writeRun_157 : am_fd mt_SR_writeRun.1 157 = (.aload_n 0,1,0,0,0,0,.retAddr 0) := rfl
theorem fd_SR_writeRun_158 : am_fd mt_SR_writeRun.1 158 = (.getfield 95,3,5,2,1,1,.retAddr 0) := rfl
theorem fd_SR_writeRun_161 : am_fd mt_SR_writeRun.1 161 = (.getfield 255,3,1,1,2,2,.retAddr 0) := rfl
theorem fd_SR_writeRun_164 : am_fd mt_SR_writeRun.1 164 = (.invokevirtual 283,3,80,2,5,0,.retAddr 0) := rfl
theorem fd_SR_writeRun_167 : am_fd mt_SR_writeRun.1 167 = (.iinc 4 1,3,4,0,0,0,.int 1) := rfl
theorem fd_SR_writeRun_170 : am_fd mt_SR_writeRun.1 170 = (.goto (-119),3,51,0,0,0,.retAddr 0) := rfl
theorem fd_SR_writeRun_173 : am_fd mt_SR_writeRun.1 173 = (.aload_n 0,1,0,0,0,0,.retAddr 0) := rfl
theorem fd_SR_writeRun_174 : am_fd mt_SR_writeRun.1 174 = (.aload_n 2,1,2,0,0,0,.retAddr 0) := rfl
theorem fd_SR_writeRun_175 : am_fd mt_SR_writeRun.1 175 = (.iload_n 3,1,3,0,0,0,.retAddr 0) := rfl
theorem fd_SR_writeRun_176 : am_fd mt_SR_writeRun.1 176 = (.iconst 0,1,0,0,0,0,.int 0) := rfl
theorem fd_SR_writeRun_177 : am_fd mt_SR_writeRun.1 177 = (.invokevirtual 279,3,76,4,1,0,.retAddr 0) := rfl
theorem fd_SR_writeRun_180 : am_fd mt_SR_writeRun.1 180 = (.aload_n 2,1,2,0,0,0,.retAddr 0) := rfl
theorem fd_SR_writeRun_181 : am_fd mt_SR_writeRun.1 181 = (.areturn,1,0,0,0,0,.retAddr 0) := rfl
theorem fd_Space_leastFree_0 : am_fd mt_Space_leastFree.1 0 = (.iconst 2,1,0,0,0,0,.int 2) := rfl
theorem fd_Space_leastFree_1 : am_fd mt_Space_leastFree.1 1 = (.iload_n 1,1,1,0,0,0,.retAddr 0) := rfl
theorem fd_Space_leastFree_2 : am_fd mt_Space_leastFree.1 2 = (.invokestatic 29,3,0,0,1,0,.retAddr 0) := rfl
theorem fd_Space_leastFree_5 : am_fd mt_Space_leastFree.1 5 = (.istore_n 2,1,2,0,0,0,.retAddr 0) := rfl
theorem fd_Space_leastFree_6 : am_fd mt_Space_leastFree.1 6 = (.iload_n 2,1,2,0,0,0,.retAddr 0) := rfl
theorem fd_Space_leastFree_7 : am_fd mt_Space_leastFree.1 7 = (.aload_n 0,1,0,0,0,0,.retAddr 0) := rfl
theorem fd_Space_leastFree_8 : am_fd mt_Space_leastFree.1 8 = (.getfield 9,3,0,0,9,9,.retAddr 0) := rfl
theorem fd_Space_leastFree_11 : am_fd mt_Space_leastFree.1 11 = (.if_icmp .ge 20,3,31,0,0,0,.retAddr 0) := rfl
theorem fd_Space_leastFree_14 : am_fd mt_Space_leastFree.1 14 = (.aload_n 0,1,0,0,0,0,.retAddr 0) := rfl
theorem fd_Space_leastFree_15 : am_fd mt_Space_leastFree.1 15 = (.getfield 15,3,1,2,9,9,.retAddr 0) := rfl
theorem fd_Space_leastFree_18 : am_fd mt_Space_leastFree.1 18 = (.iload_n 2,1,2,0,0,0,.retAddr 0) := rfl
theorem fd_Space_leastFree_19 : am_fd mt_Space_leastFree.1 19 = (.iaload,1,0,0,0,0,.retAddr 0) := rfl
theorem fd_Space_leastFree_20 : am_fd mt_Space_leastFree.1 20 = (.ifCond .ne 5,3,25,0,0,0,.retAddr 0) := rfl
theorem fd_Space_leastFree_23 : am_fd mt_Space_leastFree.1 23 = (.iload_n 2,1,2,0,0,0,.retAddr 0) := rfl
theorem fd_Space_leastFree_24 : am_fd mt_Space_leastFree.1 24 = (.ireturn,1,0,0,0,0,.retAddr 0) := rfl
theorem fd_Space_leastFree_25 : am_fd mt_Space_leastFree.1 25 = (.iinc 2 1,3,2,0,0,0,.int 1) := rfl
theorem fd_Space_leastFree_28 : am_fd mt_Space_leastFree.1 28 = (.goto (-22),3,6,0,0,0,.retAddr 0) := rfl
theorem fd_Space_leastFree_31 : am_fd mt_Space_leastFree.1 31 = (.iconst 0,1,0,0,0,0,.int 0) := rfl
theorem fd_Space_leastFree_32 : am_fd mt_Space_leastFree.1 32 = (.ireturn,1,0,0,0,0,.retAddr 0) := rfl
theorem fd_SR_writePage_0 : am_fd mt_SR_writePage.1 0 = (.aload_n 0,1,0,0,0,0,.retAddr 0) := rfl
theorem fd_SR_writePage_1 : am_fd mt_SR_writePage.1 1 = (.getfield 37,3,8,2,1,1,.retAddr 0) := rfl
theorem fd_SR_writePage_4 : am_fd mt_SR_writePage.1 4 = (.iload_n 3,1,3,0,0,0,.retAddr 0) := rfl
theorem fd_SR_writePage_5 : am_fd mt_SR_writePage.1 5 = (.invokevirtual 287,3,77,2,8,0,.retAddr 0) := rfl
theorem fd_SR_writePage_8 : am_fd mt_SR_writePage.1 8 = (.aload_n 0,1,0,0,0,0,.retAddr 0) := rfl
theorem fd_SR_writePage_9 : am_fd mt_SR_writePage.1 9 = (.getfield 86,3,1,2,1,1,.retAddr 0) := rfl
theorem fd_SR_writePage_12 : am_fd mt_SR_writePage.1 12 = (.iload_n 2,1,2,0,0,0,.retAddr 0) := rfl
theorem fd_SR_writePage_13 : am_fd mt_SR_writePage.1 13 = (.iload_n 3,1,3,0,0,0,.retAddr 0) := rfl
theorem fd_SR_writePage_14 : am_fd mt_SR_writePage.1 14 = (.aload_n 0,1,0,0,0,0,.retAddr 0) := rfl
theorem fd_SR_writePage_15 : am_fd mt_SR_writePage.1 15 = (.getfield 37,3,8,2,1,1,.retAddr 0) := rfl
theorem fd_SR_writePage_18 : am_fd mt_SR_writePage.1 18 = (.getfield 290,3,3,1,8,8,.retAddr 0) := rfl
theorem fd_SR_writePage_21 : am_fd mt_SR_writePage.1 21 = (.invokevirtual 293,3,78,4,9,0,.retAddr 0) := rfl
theorem fd_SR_writePage_24 : am_fd mt_SR_writePage.1 24 = (.aload_n 1,1,1,0,0,0,.retAddr 0) := rfl
theorem fd_SR_writePage_25 : am_fd mt_SR_writePage.1 25 = (.dup,1,0,0,0,0,.retAddr 0) := rfl
theorem fd_SR_writePage_26 : am_fd mt_SR_writePage.1 26 = (.getfield 227,3,4,0,5,5,.retAddr 0) := rfl
theorem fd_SR_writePage_29 : am_fd mt_SR_writePage.1 29 = (.iconst 1,1,0,0,0,0,.int 1) := rfl
theorem fd_SR_writePage_30 : am_fd mt_SR_writePage.1 30 = (.iadd,1,0,0,0,0,.retAddr 0) := rfl
theorem fd_SR_writePage_31 : am_fd mt_SR_writePage.1 31 = (.putfield 227,3,4,0,5,5,.retAddr 0) := rfl
theorem fd_SR_writePage_34 : am_fd mt_SR_writePage.1 34 = (.aload_n 0,1,0,0,0,0,.retAddr 0) := rfl
theorem fd_SR_writePage_35 : am_fd mt_SR_writePage.1 35 = (.getfield 79,3,0,2,1,1,.retAddr 0) := rfl
theorem fd_SR_writePage_38 : am_fd mt_SR_writePage.1 38 = (.iload_n 2,1,2,0,0,0,.retAddr 0) := rfl
theorem fd_SR_writePage_39 : am_fd mt_SR_writePage.1 39 = (.aload_n 0,1,0,0,0,0,.retAddr 0) := rfl
theorem fd_SR_writePage_40 : am_fd mt_SR_writePage.1 40 = (.getfield 37,3,8,2,1,1,.retAddr 0) := rfl
theorem fd_SR_writePage_43 : am_fd mt_SR_writePage.1 43 = (.invokevirtual 297,3,79,3,4,0,.retAddr 0) := rfl
theorem fd_SR_writePage_46 : am_fd mt_SR_writePage.1 46 = (.ifCond .ne 7,3,53,0,0,0,.retAddr 0) := rfl
theorem fd_SR_writePage_49 : am_fd mt_SR_writePage.1 49 = (.aload_n 0,1,0,0,0,0,.retAddr 0) := rfl
theorem fd_SR_writePage_50 : am_fd mt_SR_writePage.1 50 = (.invokevirtual 301,3,28,1,1,0,.retAddr 0) := rfl
theorem fd_SR_writePage_53 : am_fd mt_SR_writePage.1 53 = (.return_,1,0,0,0,0,.retAddr 0) := rfl
theorem fd_Sheet_finishPage_0 : am_fd mt_Sheet_finishPage.1 0 = (.aload_n 0,1,0,0,0,0,.retAddr 0) := rfl
theorem fd_Sheet_finishPage_1 : am_fd mt_Sheet_finishPage.1 1 = (.getfield 9,3,0,2,8,8,.retAddr 0) := rfl
theorem fd_Sheet_finishPage_4 : am_fd mt_Sheet_finishPage.1 4 = (.iconst 2,1,0,0,0,0,.int 2) := rfl
theorem fd_Sheet_finishPage_5 : am_fd mt_Sheet_finishPage.1 5 = (.iload_n 1,1,1,0,0,0,.retAddr 0) := rfl
theorem fd_Sheet_finishPage_6 : am_fd mt_Sheet_finishPage.1 6 = (.bipush 8,2,0,0,0,0,.int 8) := rfl
theorem fd_Sheet_finishPage_8 : am_fd mt_Sheet_finishPage.1 8 = (.iushr,1,0,0,0,0,.retAddr 0) := rfl
theorem fd_Sheet_finishPage_9 : am_fd mt_Sheet_finishPage.1 9 = (.i2b,1,0,0,0,0,.retAddr 0) := rfl
theorem fd_Sheet_finishPage_10 : am_fd mt_Sheet_finishPage.1 10 = (.bastore,1,0,0,0,0,.retAddr 0) := rfl
theorem fd_Sheet_finishPage_11 : am_fd mt_Sheet_finishPage.1 11 = (.aload_n 0,1,0,0,0,0,.retAddr 0) := rfl
theorem fd_Sheet_finishPage_12 : am_fd mt_Sheet_finishPage.1 12 = (.getfield 9,3,0,2,8,8,.retAddr 0) := rfl
theorem fd_Sheet_finishPage_15 : am_fd mt_Sheet_finishPage.1 15 = (.iconst 3,1,0,0,0,0,.int 3) := rfl
theorem fd_Sheet_finishPage_16 : am_fd mt_Sheet_finishPage.1 16 = (.iload_n 1,1,1,0,0,0,.retAddr 0) := rfl
theorem fd_Sheet_finishPage_17 : am_fd mt_Sheet_finishPage.1 17 = (.i2b,1,0,0,0,0,.retAddr 0) := rfl
theorem fd_Sheet_finishPage_18 : am_fd mt_Sheet_finishPage.1 18 = (.bastore,1,0,0,0,0,.retAddr 0) := rfl
theorem fd_Sheet_finishPage_19 : am_fd mt_Sheet_finishPage.1 19 = (.aload_n 0,1,0,0,0,0,.retAddr 0) := rfl
theorem fd_Sheet_finishPage_20 : am_fd mt_Sheet_finishPage.1 20 = (.getfield 9,3,0,2,8,8,.retAddr 0) := rfl
theorem fd_Sheet_finishPage_23 : am_fd mt_Sheet_finishPage.1 23 = (.iconst 4,1,0,0,0,0,.int 4) := rfl
theorem fd_Sheet_finishPage_24 : am_fd mt_Sheet_finishPage.1 24 = (.aload_n 0,1,0,0,0,0,.retAddr 0) := rfl
theorem fd_Sheet_finishPage_25 : am_fd mt_Sheet_finishPage.1 25 = (.getfield 19,3,2,0,8,8,.retAddr 0) := rfl
theorem fd_Sheet_finishPage_28 : am_fd mt_Sheet_finishPage.1 28 = (.i2b,1,0,0,0,0,.retAddr 0) := rfl
theorem fd_Sheet_finishPage_29 : am_fd mt_Sheet_finishPage.1 29 = (.bastore,1,0,0,0,0,.retAddr 0) := rfl
theorem fd_Sheet_finishPage_30 : am_fd mt_Sheet_finishPage.1 30 = (.return_,1,0,0,0,0,.retAddr 0) := rfl
theorem fd_Space_claim_0 : am_fd mt_Space_claim.1 0 = (.aload_n 0,1,0,0,0,0,.retAddr 0) := rfl
theorem fd_Space_claim_1 : am_fd mt_Space_claim.1 1 = (.iload_n 1,1,1,0,0,0,.retAddr 0) := rfl
theorem fd_Space_claim_2 : am_fd mt_Space_claim.1 2 = (.invokevirtual 35,3,26,2,9,0,.retAddr 0) := rfl
theorem fd_Space_claim_5 : am_fd mt_Space_claim.1 5 = (.ifCond .ne 4,3,9,0,0,0,.retAddr 0) := rfl
theorem fd_Space_claim_8 : am_fd mt_Space_claim.1 8 = (.return_,1,0,0,0,0,.retAddr 0) := rfl
theorem fd_Space_claim_9 : am_fd mt_Space_claim.1 9 = (.aload_n 0,1,0,0,0,0,.retAddr 0) := rfl
theorem fd_Space_claim_10 : am_fd mt_Space_claim.1 10 = (.dup,1,0,0,0,0,.retAddr 0) := rfl
theorem fd_Space_claim_11 : am_fd mt_Space_claim.1 11 = (.getfield 26,3,4,0,9,9,.retAddr 0) := rfl
theorem fd_Space_claim_14 : am_fd mt_Space_claim.1 14 = (.aload_n 0,1,0,0,0,0,.retAddr 0) := rfl
theorem fd_Space_claim_15 : am_fd mt_Space_claim.1 15 = (.getfield 15,3,1,2,9,9,.retAddr 0) := rfl
theorem fd_Space_claim_18 : am_fd mt_Space_claim.1 18 = (.iload_n 1,1,1,0,0,0,.retAddr 0) := rfl
theorem fd_Space_claim_19 : am_fd mt_Space_claim.1 19 = (.iaload,1,0,0,0,0,.retAddr 0) := rfl
theorem fd_Space_claim_20 : am_fd mt_Space_claim.1 20 = (.ifCond .ne 7,3,27,0,0,0,.retAddr 0) := rfl
theorem fd_Space_claim_23 : am_fd mt_Space_claim.1 23 = (.iconst 1,1,0,0,0,0,.int 1) := rfl
theorem fd_Space_claim_24 : am_fd mt_Space_claim.1 24 = (.goto 4,3,28,0,0,0,.retAddr 0) := rfl
theorem fd_Space_claim_27 : am_fd mt_Space_claim.1 27 = (.iconst 0,1,0,0,0,0,.int 0) := rfl
theorem fd_Space_claim_28 : am_fd mt_Space_claim.1 28 = (.isub,1,0,0,0,0,.retAddr 0) := rfl
theorem fd_Space_claim_29 : am_fd mt_Space_claim.1 29 = (.putfield 26,3,4,0,9,9,.retAddr 0) := rfl
theorem fd_Space_claim_32 : am_fd mt_Space_claim.1 32 = (.aload_n 0,1,0,0,0,0,.retAddr 0) := rfl
theorem fd_Space_claim_33 : am_fd mt_Space_claim.1 33 = (.getfield 15,3,1,2,9,9,.retAddr 0) := rfl
theorem fd_Space_claim_36 : am_fd mt_Space_claim.1 36 = (.iload_n 1,1,1,0,0,0,.retAddr 0) := rfl
theorem fd_Space_claim_37 : am_fd mt_Space_claim.1 37 = (.dup2,1,0,0,0,0,.retAddr 0) := rfl
theorem fd_Space_claim_38 : am_fd mt_Space_claim.1 38 = (.iaload,1,0,0,0,0,.retAddr 0) := rfl
theorem fd_Space_claim_39 : am_fd mt_Space_claim.1 39 = (.iconst 1,1,0,0,0,0,.int 1) := rfl
theorem fd_Space_claim_40 : am_fd mt_Space_claim.1 40 = (.iadd,1,0,0,0,0,.retAddr 0) := rfl
theorem fd_Space_claim_41 : am_fd mt_Space_claim.1 41 = (.iastore,1,0,0,0,0,.retAddr 0) := rfl
theorem fd_Space_claim_42 : am_fd mt_Space_claim.1 42 = (.aload_n 0,1,0,0,0,0,.retAddr 0) := rfl
theorem fd_Space_claim_43 : am_fd mt_Space_claim.1 43 = (.getfield 19,3,2,2,9,9,.retAddr 0) := rfl
theorem fd_Space_claim_46 : am_fd mt_Space_claim.1 46 = (.iload_n 1,1,1,0,0,0,.retAddr 0) := rfl
theorem fd_Space_claim_47 : am_fd mt_Space_claim.1 47 = (.iload_n 2,1,2,0,0,0,.retAddr 0) := rfl
theorem fd_Space_claim_48 : am_fd mt_Space_claim.1 48 = (.iastore,1,0,0,0,0,.retAddr 0) := rfl
theorem fd_Space_claim_49 : am_fd mt_Space_claim.1 49 = (.aload_n 0,1,0,0,0,0,.retAddr 0) := rfl
theorem fd_Space_claim_50 : am_fd mt_Space_claim.1 50 = (.getfield 22,3,3,2,9,9,.retAddr 0) := rfl
theorem fd_Space_claim_53 : am_fd mt_Space_claim.1 53 = (.iload_n 1,1,1,0,0,0,.retAddr 0) := rfl
theorem fd_Space_claim_54 : am_fd mt_Space_claim.1 54 = (.lload_n 3,1,3,0,0,0,.retAddr 0) := rfl
theorem fd_Space_claim_55 : am_fd mt_Space_claim.1 55 = (.lastore,1,0,0,0,0,.retAddr 0) := rfl
theorem fd_Space_claim_56 : am_fd mt_Space_claim.1 56 = (.return_,1,0,0,0,0,.retAddr 0) := rfl
theorem fd_Pages_store_0 : am_fd mt_Pages_store.1 0 = (.aload_n 2,1,2,0,0,0,.retAddr 0) := rfl
theorem fd_Pages_store_1 : am_fd mt_Pages_store.1 1 = (.iload_n 1,1,1,0,0,0,.retAddr 0) := rfl
theorem fd_Pages_store_2 : am_fd mt_Pages_store.1 2 = (.invokevirtual 52,3,16,2,8,0,.retAddr 0) := rfl
theorem fd_Pages_store_5 : am_fd mt_Pages_store.1 5 = (.aload_n 0,1,0,0,0,0,.retAddr 0) := rfl
theorem fd_Pages_store_6 : am_fd mt_Pages_store.1 6 = (.dup,1,0,0,0,0,.retAddr 0) := rfl
theorem fd_Pages_store_7 : am_fd mt_Pages_store.1 7 = (.getfield 15,3,4,0,4,4,.retAddr 0) := rfl
theorem fd_Pages_store_10 : am_fd mt_Pages_store.1 10 = (.iconst 1,1,0,0,0,0,.int 1) := rfl
theorem fd_Pages_store_11 : am_fd mt_Pages_store.1 11 = (.iadd,1,0,0,0,0,.retAddr 0) := rfl
theorem fd_Pages_store_12 : am_fd mt_Pages_store.1 12 = (.putfield 15,3,4,0,4,4,.retAddr 0) := rfl
theorem fd_Pages_store_15 : am_fd mt_Pages_store.1 15 = (.aload_n 0,1,0,0,0,0,.retAddr 0) := rfl
theorem fd_Pages_store_16 : am_fd mt_Pages_store.1 16 = (.getfield 18,3,5,0,4,4,.retAddr 0) := rfl
theorem fd_Pages_store_19 : am_fd mt_Pages_store.1 19 = (.iconst 1,1,0,0,0,0,.int 1) := rfl
theorem fd_Pages_store_20 : am_fd mt_Pages_store.1 20 = (.if_icmp .eq 7,3,27,0,0,0,.retAddr 0) := rfl
theorem fd_Pages_store_23 : am_fd mt_Pages_store.1 23 = (.iconst 1,1,0,0,0,0,.int 1) := rfl
theorem fd_Pages_store_24 : am_fd mt_Pages_store.1 24 = (.goto 4,3,28,0,0,0,.retAddr 0) := rfl
theorem fd_Pages_store_27 : am_fd mt_Pages_store.1 27 = (.iconst 0,1,0,0,0,0,.int 0) := rfl
theorem fd_Pages_store_28 : am_fd mt_Pages_store.1 28 = (.istore_n 3,1,3,0,0,0,.retAddr 0) := rfl
theorem fd_Pages_store_29 : am_fd mt_Pages_store.1 29 = (.aload_n 0,1,0,0,0,0,.retAddr 0) := rfl
theorem fd_Pages_store_30 : am_fd mt_Pages_store.1 30 = (.iconst 0,1,0,0,0,0,.int 0) := rfl
theorem fd_Pages_store_31 : am_fd mt_Pages_store.1 31 = (.aload_n 0,1,0,0,0,0,.retAddr 0) := rfl
theorem fd_Pages_store_32 : am_fd mt_Pages_store.1 32 = (.getfield 18,3,5,0,4,4,.retAddr 0) := rfl
theorem fd_Pages_store_35 : am_fd mt_Pages_store.1 35 = (.iconst 1,1,0,0,0,0,.int 1) := rfl
theorem fd_Pages_store_36 : am_fd mt_Pages_store.1 36 = (.isub,1,0,0,0,0,.retAddr 0) := rfl
theorem fd_Pages_store_37 : am_fd mt_Pages_store.1 37 = (.invokestatic 56,3,0,0,1,0,.retAddr 0) := rfl
theorem fd_Pages_store_40 : am_fd mt_Pages_store.1 40 = (.putfield 18,3,5,0,4,4,.retAddr 0) := rfl
theorem fd_Pages_store_43 : am_fd mt_Pages_store.1 43 = (.aload_n 0,1,0,0,0,0,.retAddr 0) := rfl
theorem fd_Pages_store_44 : am_fd mt_Pages_store.1 44 = (.iload_n 1,1,1,0,0,0,.retAddr 0) := rfl
theorem fd_Pages_store_45 : am_fd mt_Pages_store.1 45 = (.aload_n 2,1,2,0,0,0,.retAddr 0) := rfl
theorem fd_Pages_store_46 : am_fd mt_Pages_store.1 46 = (.iload_n 3,1,3,0,0,0,.retAddr 0) := rfl
theorem fd_Pages_store_47 : am_fd mt_Pages_store.1 47 = (.ifCond .eq 9,3,56,0,0,0,.retAddr 0) := rfl
theorem fd_Pages_store_50 : am_fd mt_Pages_store.1 50 = (.sipush 128,3,0,0,0,0,.int 128) := rfl
theorem fd_Pages_store_53 : am_fd mt_Pages_store.1 53 = (.goto 7,3,60,0,0,0,.retAddr 0) := rfl
theorem fd_Pages_store_56 : am_fd mt_Pages_store.1 56 = (.aload_n 0,1,0,0,0,0,.retAddr 0) := rfl
theorem fd_Pages_store_57 : am_fd mt_Pages_store.1 57 = (.getfield 21,3,6,0,4,4,.retAddr 0) := rfl
theorem fd_Pages_store_60 : am_fd mt_Pages_store.1 60 = (.invokevirtual 61,3,18,4,4,0,.retAddr 0) := rfl
theorem fd_Pages_store_63 : am_fd mt_Pages_store.1 63 = (.aload_n 0,1,0,0,0,0,.retAddr 0) := rfl
theorem fd_Pages_store_64 : am_fd mt_Pages_store.1 64 = (.iload_n 1,1,1,0,0,0,.retAddr 0) := rfl
theorem fd_Pages_store_65 : am_fd mt_Pages_store.1 65 = (.invokevirtual 65,3,20,2,4,0,.retAddr 0) := rfl
theorem fd_Pages_store_68 : am_fd mt_Pages_store.1 68 = (.iload_n 3,1,3,0,0,0,.retAddr 0) := rfl
theorem fd_Pages_store_69 : am_fd mt_Pages_store.1 69 = (.ireturn,1,1,0,0,0,.retAddr 0) := rfl
theorem fd_Run_note_0 : am_fd mt_Run_note.1 0 = (.aload_n 0,1,0,0,0,0,.retAddr 0) := rfl
theorem fd_Run_note_1 : am_fd mt_Run_note.1 1 = (.getfield 20,3,5,0,5,5,.retAddr 0) := rfl
theorem fd_Run_note_4 : am_fd mt_Run_note.1 4 = (.ifCond .ne 8,3,12,0,0,0,.retAddr 0) := rfl
theorem fd_Run_note_7 : am_fd mt_Run_note.1 7 = (.aload_n 0,1,0,0,0,0,.retAddr 0) := rfl
theorem fd_Run_note_8 : am_fd mt_Run_note.1 8 = (.lload_n 1,1,1,0,0,0,.retAddr 0) := rfl
theorem fd_Run_note_9 : am_fd mt_Run_note.1 9 = (.putfield 23,3,6,1,5,5,.retAddr 0) := rfl
theorem fd_Run_note_12 : am_fd mt_Run_note.1 12 = (.aload_n 0,1,0,0,0,0,.retAddr 0) := rfl
theorem fd_Run_note_13 : am_fd mt_Run_note.1 13 = (.lload_n 1,1,1,0,0,0,.retAddr 0) := rfl
theorem fd_Run_note_14 : am_fd mt_Run_note.1 14 = (.putfield 27,3,7,1,5,5,.retAddr 0) := rfl
theorem fd_Run_note_17 : am_fd mt_Run_note.1 17 = (.aload_n 0,1,0,0,0,0,.retAddr 0) := rfl
theorem fd_Run_note_18 : am_fd mt_Run_note.1 18 = (.dup,1,0,0,0,0,.retAddr 0) := rfl
theorem fd_Run_note_19 : am_fd mt_Run_note.1 19 = (.getfield 20,3,5,0,5,5,.retAddr 0) := rfl
theorem fd_Run_note_22 : am_fd mt_Run_note.1 22 = (.iconst 1,1,0,0,0,0,.int 1) := rfl
theorem fd_Run_note_23 : am_fd mt_Run_note.1 23 = (.iadd,1,0,0,0,0,.retAddr 0) := rfl
theorem fd_Run_note_24 : am_fd mt_Run_note.1 24 = (.putfield 20,3,5,0,5,5,.retAddr 0) := rfl
theorem fd_Run_note_27 : am_fd mt_Run_note.1 27 = (.aload_n 0,1,0,0,0,0,.retAddr 0) := rfl
theorem fd_Run_note_28 : am_fd mt_Run_note.1 28 = (.lload_n 1,1,1,0,0,0,.retAddr 0) := rfl
theorem fd_Run_note_29 : am_fd mt_Run_note.1 29 = (.invokevirtual 39,3,81,2,5,0,.retAddr 0) := rfl
theorem fd_Run_note_32 : am_fd mt_Run_note.1 32 = (.lstore_n 3,1,3,0,0,0,.retAddr 0) := rfl
theorem fd_Run_note_33 : am_fd mt_Run_note.1 33 = (.aload_n 0,1,0,0,0,0,.retAddr 0) := rfl
theorem fd_Run_note_34 : am_fd mt_Run_note.1 34 = (.lload_n 3,1,3,0,0,0,.retAddr 0) := rfl
theorem fd_Run_note_35 : am_fd mt_Run_note.1 35 = (.bipush 55,2,0,0,0,0,.int 55) := rfl
theorem fd_Run_note_37 : am_fd mt_Run_note.1 37 = (.lushr,1,0,0,0,0,.retAddr 0) := rfl
theorem fd_Run_note_38 : am_fd mt_Run_note.1 38 = (.invokevirtual 43,3,82,2,5,0,.retAddr 0) := rfl
theorem fd_Run_note_41 : am_fd mt_Run_note.1 41 = (.aload_n 0,1,0,0,0,0,.retAddr 0) := rfl
theorem fd_Run_note_42 : am_fd mt_Run_note.1 42 = (.lload_n 3,1,3,0,0,0,.retAddr 0) := rfl
theorem fd_Run_note_43 : am_fd mt_Run_note.1 43 = (.bipush 46,2,0,0,0,0,.int 46) := rfl
theorem fd_Run_note_45 : am_fd mt_Run_note.1 45 = (.lushr,1,0,0,0,0,.retAddr 0) := rfl
theorem fd_Run_note_46 : am_fd mt_Run_note.1 46 = (.invokevirtual 43,3,82,2,5,0,.retAddr 0) := rfl
theorem fd_Run_note_49 : am_fd mt_Run_note.1 49 = (.aload_n 0,1,0,0,0,0,.retAddr 0) := rfl
theorem fd_Run_note_50 : am_fd mt_Run_note.1 50 = (.lload_n 3,1,3,0,0,0,.retAddr 0) := rfl
theorem fd_Run_note_51 : am_fd mt_Run_note.1 51 = (.bipush 37,2,0,0,0,0,.int 37) := rfl
theorem fd_Run_note_53 : am_fd mt_Run_note.1 53 = (.lushr,1,0,0,0,0,.retAddr 0) := rfl
theorem fd_Run_note_54 : am_fd mt_Run_note.1 54 = (.invokevirtual 43,3,82,2,5,0,.retAddr 0) := rfl
theorem fd_Run_note_57 : am_fd mt_Run_note.1 57 = (.return_,1,0,0,0,0,.retAddr 0) := rfl
theorem fd_Run_hashOf_0 : am_fd mt_Run_hashOf.1 0 = (.lload_n 1,1,1,0,0,0,.retAddr 0) := rfl
theorem fd_Run_hashOf_1 : am_fd mt_Run_hashOf.1 1 = (.ldc2_w 51,3,0,0,0,0,.long 7) := rfl
theorem fd_Run_hashOf_4 : am_fd mt_Run_hashOf.1 4 = (.aload_n 0,1,0,0,0,0,.retAddr 0) := rfl
theorem fd_Run_hashOf_5 : am_fd mt_Run_hashOf.1 5 = (.getfield 33,3,0,0,5,5,.retAddr 0) := rfl
theorem fd_Run_hashOf_8 : am_fd mt_Run_hashOf.1 8 = (.i2l,1,0,0,0,0,.retAddr 0) := rfl
theorem fd_Run_hashOf_9 : am_fd mt_Run_hashOf.1 9 = (.lmul,1,0,0,0,0,.retAddr 0) := rfl
theorem fd_Run_hashOf_10 : am_fd mt_Run_hashOf.1 10 = (.lxor,1,0,0,0,0,.retAddr 0) := rfl
theorem fd_Run_hashOf_11 : am_fd mt_Run_hashOf.1 11 = (.ldc2_w 53,3,0,0,0,0,.long (-7046029254386353131)) := rfl
theorem fd_Run_hashOf_14 : am_fd mt_Run_hashOf.1 14 = (.lmul,1,0,0,0,0,.retAddr 0) := rfl
theorem fd_Run_hashOf_15 : am_fd mt_Run_hashOf.1 15 = (.lreturn,1,0,0,0,0,.retAddr 0) := rfl
theorem fd_Run_setBit_0 : am_fd mt_Run_setBit.1 0 = (.aload_n 0,1,0,0,0,0,.retAddr 0) := rfl
theorem fd_Run_setBit_1 : am_fd mt_Run_setBit.1 1 = (.getfield 7,3,2,2,5,5,.retAddr 0) := rfl
theorem fd_Run_setBit_4 : am_fd mt_Run_setBit.1 4 = (.lload_n 1,1,1,0,0,0,.retAddr 0) := rfl
theorem fd_Run_setBit_5 : am_fd mt_Run_setBit.1 5 = (.bipush 6,2,0,0,0,0,.int 6) := rfl
theorem fd_Run_setBit_7 : am_fd mt_Run_setBit.1 7 = (.lushr,1,0,0,0,0,.retAddr 0) := rfl
theorem fd_Run_setBit_8 : am_fd mt_Run_setBit.1 8 = (.l2i,1,0,0,0,0,.retAddr 0) := rfl
theorem fd_Run_setBit_9 : am_fd mt_Run_setBit.1 9 = (.bipush 7,2,0,0,0,0,.int 7) := rfl
theorem fd_Run_setBit_11 : am_fd mt_Run_setBit.1 11 = (.iand,1,0,0,0,0,.retAddr 0) := rfl
theorem fd_Run_setBit_12 : am_fd mt_Run_setBit.1 12 = (.dup2,1,0,0,0,0,.retAddr 0) := rfl
theorem fd_Run_setBit_13 : am_fd mt_Run_setBit.1 13 = (.laload,1,0,0,0,0,.retAddr 0) := rfl
theorem fd_Run_setBit_14 : am_fd mt_Run_setBit.1 14 = (.lconst 1,1,0,0,0,0,.long 1) := rfl
theorem fd_Run_setBit_15 : am_fd mt_Run_setBit.1 15 = (.lload_n 1,1,1,0,0,0,.retAddr 0) := rfl
theorem fd_Run_setBit_16 : am_fd mt_Run_setBit.1 16 = (.ldc2_w 55,3,0,0,0,0,.long 63) := rfl
theorem fd_Run_setBit_19 : am_fd mt_Run_setBit.1 19 = (.land,1,0,0,0,0,.retAddr 0) := rfl
theorem fd_Run_setBit_20 : am_fd mt_Run_setBit.1 20 = (.l2i,1,0,0,0,0,.retAddr 0) := rfl
theorem fd_Run_setBit_21 : am_fd mt_Run_setBit.1 21 = (.lshl,1,0,0,0,0,.retAddr 0) := rfl
theorem fd_Run_setBit_22 : am_fd mt_Run_setBit.1 22 = (.lor,1,0,0,0,0,.retAddr 0) := rfl
theorem fd_Run_setBit_23 : am_fd mt_Run_setBit.1 23 = (.lastore,1,0,0,0,0,.retAddr 0) := rfl
theorem fd_Run_setBit_24 : am_fd mt_Run_setBit.1 24 = (.return_,1,0,0,0,0,.retAddr 0) := rfl
theorem fd_SR_letGo_0 : am_fd mt_SR_letGo.1 0 = (.aload_n 1,1,1,0,0,0,.retAddr 0) := rfl
theorem fd_SR_letGo_1 : am_fd mt_SR_letGo.1 1 = (.dup,1,0,0,0,0,.retAddr 0) := rfl
theorem fd_SR_letGo_2 : am_fd mt_SR_letGo.1 2 = (.getfield 218,3,8,0,5,5,.retAddr 0) := rfl
theorem fd_SR_letGo_5 : am_fd mt_SR_letGo.1 5 = (.iconst 1,1,0,0,0,0,.int 1) := rfl
theorem fd_SR_letGo_6 : am_fd mt_SR_letGo.1 6 = (.isub,1,0,0,0,0,.retAddr 0) := rfl
theorem fd_SR_letGo_7 : am_fd mt_SR_letGo.1 7 = (.putfield 218,3,8,0,5,5,.retAddr 0) := rfl
theorem fd_SR_letGo_10 : am_fd mt_SR_letGo.1 10 = (.aload_n 1,1,1,0,0,0,.retAddr 0) := rfl
theorem fd_SR_letGo_11 : am_fd mt_SR_letGo.1 11 = (.getfield 218,3,8,0,5,5,.retAddr 0) := rfl
theorem fd_SR_letGo_14 : am_fd mt_SR_letGo.1 14 = (.ifCond .ne 11,3,25,0,0,0,.retAddr 0) := rfl
theorem fd_SR_letGo_17 : am_fd mt_SR_letGo.1 17 = (.aload_n 0,1,0,0,0,0,.retAddr 0) := rfl
theorem fd_SR_letGo_18 : am_fd mt_SR_letGo.1 18 = (.getfield 86,3,1,2,1,1,.retAddr 0) := rfl
theorem fd_SR_letGo_21 : am_fd mt_SR_letGo.1 21 = (.aload_n 1,1,1,0,0,0,.retAddr 0) := rfl
theorem fd_SR_letGo_22 : am_fd mt_SR_letGo.1 22 = (.invokevirtual 221,3,84,2,9,0,.retAddr 0) := rfl
theorem fd_SR_letGo_25 : am_fd mt_SR_letGo.1 25 = (.return_,1,0,0,0,0,.retAddr 0) := rfl
theorem fd_Space_giveBack_0 : am_fd mt_Space_giveBack.1 0 = (.aload_n 1,1,1,0,0,0,.retAddr 0) := rfl
theorem fd_Space_giveBack_1 : am_fd mt_Space_giveBack.1 1 = (.getfield 39,3,3,0,5,5,.retAddr 0) := rfl
theorem fd_Space_giveBack_4 : am_fd mt_Space_giveBack.1 4 = (.istore_n 2,1,2,0,0,0,.retAddr 0) := rfl
theorem fd_Space_giveBack_5 : am_fd mt_Space_giveBack.1 5 = (.iconst 0,1,0,0,0,0,.int 0) := rfl
theorem fd_Space_giveBack_6 : am_fd mt_Space_giveBack.1 6 = (.istore_n 3,1,3,0,0,0,.retAddr 0) := rfl
theorem fd_Space_giveBack_7 : am_fd mt_Space_giveBack.1 7 = (.iload_n 3,1,3,0,0,0,.retAddr 0) := rfl
theorem fd_Space_giveBack_8 : am_fd mt_Space_giveBack.1 8 = (.aload_n 1,1,1,0,0,0,.retAddr 0) := rfl
theorem fd_Space_giveBack_9 : am_fd mt_Space_giveBack.1 9 = (.getfield 44,3,4,0,5,5,.retAddr 0) := rfl
theorem fd_Space_giveBack_12 : am_fd mt_Space_giveBack.1 12 = (.if_icmp .ge 57,3,69,0,0,0,.retAddr 0) := rfl
theorem fd_Space_giveBack_15 : am_fd mt_Space_giveBack.1 15 = (.aload_n 0,1,0,0,0,0,.retAddr 0) := rfl
theorem fd_Space_giveBack_16 : am_fd mt_Space_giveBack.1 16 = (.iload_n 2,1,2,0,0,0,.retAddr 0) := rfl
theorem fd_Space_giveBack_17 : am_fd mt_Space_giveBack.1 17 = (.invokevirtual 35,3,26,2,9,0,.retAddr 0) := rfl
theorem fd_Space_giveBack_20 : am_fd mt_Space_giveBack.1 20 = (.ifCond .eq 49,3,69,0,0,0,.retAddr 0) := rfl
theorem fd_Space_giveBack_23 : am_fd mt_Space_giveBack.1 23 = (.aload_n 0,1,0,0,0,0,.retAddr 0) := rfl
theorem fd_Space_giveBack_24 : am_fd mt_Space_giveBack.1 24 = (.getfield 15,3,1,2,9,9,.retAddr 0) := rfl
theorem fd_Space_giveBack_27 : am_fd mt_Space_giveBack.1 27 = (.iload_n 2,1,2,0,0,0,.retAddr 0) := rfl
theorem fd_Space_giveBack_28 : am_fd mt_Space_giveBack.1 28 = (.dup2,1,0,0,0,0,.retAddr 0) := rfl
theorem fd_Space_giveBack_29 : am_fd mt_Space_giveBack.1 29 = (.iaload,1,0,0,0,0,.retAddr 0) := rfl
theorem fd_Space_giveBack_30 : am_fd mt_Space_giveBack.1 30 = (.iconst 1,1,0,0,0,0,.int 1) := rfl
theorem fd_Space_giveBack_31 : am_fd mt_Space_giveBack.1 31 = (.isub,1,0,0,0,0,.retAddr 0) := rfl
theorem fd_Space_giveBack_32 : am_fd mt_Space_giveBack.1 32 = (.iastore,1,0,0,0,0,.retAddr 0) := rfl
theorem fd_Space_giveBack_33 : am_fd mt_Space_giveBack.1 33 = (.aload_n 0,1,0,0,0,0,.retAddr 0) := rfl
theorem fd_Space_giveBack_34 : am_fd mt_Space_giveBack.1 34 = (.dup,1,0,0,0,0,.retAddr 0) := rfl
theorem fd_Space_giveBack_35 : am_fd mt_Space_giveBack.1 35 = (.getfield 26,3,4,0,9,9,.retAddr 0) := rfl
theorem fd_Space_giveBack_38 : am_fd mt_Space_giveBack.1 38 = (.aload_n 0,1,0,0,0,0,.retAddr 0) := rfl
theorem fd_Space_giveBack_39 : am_fd mt_Space_giveBack.1 39 = (.getfield 15,3,1,2,9,9,.retAddr 0) := rfl
theorem fd_Space_giveBack_42 : am_fd mt_Space_giveBack.1 42 = (.iload_n 2,1,2,0,0,0,.retAddr 0) := rfl
theorem fd_Space_giveBack_43 : am_fd mt_Space_giveBack.1 43 = (.iaload,1,0,0,0,0,.retAddr 0) := rfl
theorem fd_Space_giveBack_44 : am_fd mt_Space_giveBack.1 44 = (.ifCond .ne 7,3,51,0,0,0,.retAddr 0) := rfl
theorem fd_Space_giveBack_47 : am_fd mt_Space_giveBack.1 47 = (.iconst 1,1,0,0,0,0,.int 1) := rfl
theorem fd_Space_giveBack_48 : am_fd mt_Space_giveBack.1 48 = (.goto 4,3,52,0,0,0,.retAddr 0) := rfl
theorem fd_Space_giveBack_51 : am_fd mt_Space_giveBack.1 51 = (.iconst 0,1,0,0,0,0,.int 0) := rfl
theorem fd_Space_giveBack_52 : am_fd mt_Space_giveBack.1 52 = (.iadd,1,0,0,0,0,.retAddr 0) := rfl
theorem fd_Space_giveBack_53 : am_fd mt_Space_giveBack.1 53 = (.putfield 26,3,4,0,9,9,.retAddr 0) := rfl
theorem fd_Space_giveBack_56 : am_fd mt_Space_giveBack.1 56 = (.aload_n 0,1,0,0,0,0,.retAddr 0) := rfl
theorem fd_Space_giveBack_57 : am_fd mt_Space_giveBack.1 57 = (.getfield 19,3,2,2,9,9,.retAddr 0) := rfl
theorem fd_Space_giveBack_60 : am_fd mt_Space_giveBack.1 60 = (.iload_n 2,1,2,0,0,0,.retAddr 0) := rfl
theorem fd_Space_giveBack_61 : am_fd mt_Space_giveBack.1 61 = (.iaload,1,0,0,0,0,.retAddr 0) := rfl
theorem fd_Space_giveBack_62 : am_fd mt_Space_giveBack.1 62 = (.istore_n 2,1,2,0,0,0,.retAddr 0) := rfl
theorem fd_Space_giveBack_63 : am_fd mt_Space_giveBack.1 63 = (.iinc 3 1,3,3,0,0,0,.int 1) := rfl
theorem fd_Space_giveBack_66 : am_fd mt_Space_giveBack.1 66 = (.goto (-59),3,7,0,0,0,.retAddr 0) := rfl
theorem fd_Space_giveBack_69 : am_fd mt_Space_giveBack.1 69 = (.return_,1,0,0,0,0,.retAddr 0) := rfl
theorem fd_RunList_dropFirst_0 : am_fd mt_RunList_dropFirst.1 0 = (.aload_n 0,1,0,0,0,0,.retAddr 0) := rfl
theorem fd_RunList_dropFirst_1 : am_fd mt_RunList_dropFirst.1 1 = (.getfield 17,3,1,0,6,6,.retAddr 0) := rfl
theorem fd_RunList_dropFirst_4 : am_fd mt_RunList_dropFirst.1 4 = (.iload_n 1,1,1,0,0,0,.retAddr 0) := rfl
theorem fd_RunList_dropFirst_5 : am_fd mt_RunList_dropFirst.1 5 = (.isub,1,0,0,0,0,.retAddr 0) := rfl
theorem fd_RunList_dropFirst_6 : am_fd mt_RunList_dropFirst.1 6 = (.istore_n 2,1,2,0,0,0,.retAddr 0) := rfl
theorem fd_RunList_dropFirst_7 : am_fd mt_RunList_dropFirst.1 7 = (.iconst 0,1,0,0,0,0,.int 0) := rfl
theorem fd_RunList_dropFirst_8 : am_fd mt_RunList_dropFirst.1 8 = (.istore_n 3,1,3,0,0,0,.retAddr 0) := rfl
theorem fd_RunList_dropFirst_9 : am_fd mt_RunList_dropFirst.1 9 = (.iload_n 3,1,3,0,0,0,.retAddr 0) := rfl
theorem fd_RunList_dropFirst_10 : am_fd mt_RunList_dropFirst.1 10 = (.iload_n 2,1,2,0,0,0,.retAddr 0) := rfl
theorem fd_RunList_dropFirst_11 : am_fd mt_RunList_dropFirst.1 11 = (.if_icmp .ge 31,3,42,0,0,0,.retAddr 0) := rfl
theorem fd_RunList_dropFirst_14 : am_fd mt_RunList_dropFirst.1 14 = (.iload_n 3,1,3,0,0,0,.retAddr 0) := rfl
theorem fd_RunList_dropFirst_15 : am_fd mt_RunList_dropFirst.1 15 = (.iload_n 1,1,1,0,0,0,.retAddr 0) := rfl
theorem fd_RunList_dropFirst_16 : am_fd mt_RunList_dropFirst.1 16 = (.iadd,1,0,0,0,0,.retAddr 0) := rfl
theorem fd_RunList_dropFirst_17 : am_fd mt_RunList_dropFirst.1 17 = (.bipush 9,2,0,0,0,0,.int 9) := rfl
theorem fd_RunList_dropFirst_19 : am_fd mt_RunList_dropFirst.1 19 = (.if_icmp .ge 23,3,42,0,0,0,.retAddr 0) := rfl
theorem fd_RunList_dropFirst_22 : am_fd mt_RunList_dropFirst.1 22 = (.aload_n 0,1,0,0,0,0,.retAddr 0) := rfl
theorem fd_RunList_dropFirst_23 : am_fd mt_RunList_dropFirst.1 23 = (.getfield 11,3,0,2,6,6,.retAddr 0) := rfl
theorem fd_RunList_dropFirst_26 : am_fd mt_RunList_dropFirst.1 26 = (.iload_n 3,1,3,0,0,0,.retAddr 0) := rfl
theorem fd_RunList_dropFirst_27 : am_fd mt_RunList_dropFirst.1 27 = (.aload_n 0,1,0,0,0,0,.retAddr 0) := rfl
theorem fd_RunList_dropFirst_28 : am_fd mt_RunList_dropFirst.1 28 = (.getfield 11,3,0,2,6,6,.retAddr 0) := rfl
theorem fd_RunList_dropFirst_31 : am_fd mt_RunList_dropFirst.1 31 = (.iload_n 3,1,3,0,0,0,.retAddr 0) := rfl
theorem fd_RunList_dropFirst_32 : am_fd mt_RunList_dropFirst.1 32 = (.iload_n 1,1,1,0,0,0,.retAddr 0) := rfl
theorem fd_RunList_dropFirst_33 : am_fd mt_RunList_dropFirst.1 33 = (.iadd,1,0,0,0,0,.retAddr 0) := rfl
theorem fd_RunList_dropFirst_34 : am_fd mt_RunList_dropFirst.1 34 = (.aaload,1,0,0,0,0,.retAddr 0) := rfl
theorem fd_RunList_dropFirst_35 : am_fd mt_RunList_dropFirst.1 35 = (.aastore,1,5,5,200,0,.retAddr 0) := rfl
theorem fd_RunList_dropFirst_36 : am_fd mt_RunList_dropFirst.1 36 = (.iinc 3 1,3,3,0,0,0,.int 1) := rfl
theorem fd_RunList_dropFirst_39 : am_fd mt_RunList_dropFirst.1 39 = (.goto (-30),3,9,0,0,0,.retAddr 0) := rfl
theorem fd_RunList_dropFirst_42 : am_fd mt_RunList_dropFirst.1 42 = (.aload_n 0,1,0,0,0,0,.retAddr 0) := rfl
theorem fd_RunList_dropFirst_43 : am_fd mt_RunList_dropFirst.1 43 = (.iconst 0,1,0,0,0,0,.int 0) := rfl
theorem fd_RunList_dropFirst_44 : am_fd mt_RunList_dropFirst.1 44 = (.iload_n 2,1,2,0,0,0,.retAddr 0) := rfl
theorem fd_RunList_dropFirst_45 : am_fd mt_RunList_dropFirst.1 45 = (.invokestatic 34,3,0,0,1,0,.retAddr 0) := rfl
theorem fd_RunList_dropFirst_48 : am_fd mt_RunList_dropFirst.1 48 = (.putfield 17,3,1,0,6,6,.retAddr 0) := rfl
theorem fd_RunList_dropFirst_51 : am_fd mt_RunList_dropFirst.1 51 = (.return_,1,0,0,0,0,.retAddr 0) := rfl
theorem fd_RunList_putFirst_0 : am_fd mt_RunList_putFirst.1 0 = (.aload_n 0,1,0,0,0,0,.retAddr 0) := rfl
theorem fd_RunList_putFirst_1 : am_fd mt_RunList_putFirst.1 1 = (.getfield 17,3,1,0,6,6,.retAddr 0) := rfl
theorem fd_RunList_putFirst_4 : am_fd mt_RunList_putFirst.1 4 = (.bipush 9,2,0,0,0,0,.int 9) := rfl
theorem fd_RunList_putFirst_6 : am_fd mt_RunList_putFirst.1 6 = (.if_icmp .lt 4,3,10,0,0,0,.retAddr 0) := rfl
theorem fd_RunList_putFirst_9 : am_fd mt_RunList_putFirst.1 9 = (.return_,1,0,0,0,0,.retAddr 0) := rfl
theorem fd_RunList_putFirst_10 : am_fd mt_RunList_putFirst.1 10 = (.aload_n 0,1,0,0,0,0,.retAddr 0) := rfl
theorem fd_RunList_putFirst_11 : am_fd mt_RunList_putFirst.1 11 = (.getfield 17,3,1,0,6,6,.retAddr 0) := rfl
theorem fd_RunList_putFirst_14 : am_fd mt_RunList_putFirst.1 14 = (.istore_n 2,1,2,0,0,0,.retAddr 0) := rfl
theorem fd_RunList_putFirst_15 : am_fd mt_RunList_putFirst.1 15 = (.iload_n 2,1,2,0,0,0,.retAddr 0) := rfl
theorem fd_RunList_putFirst_16 : am_fd mt_RunList_putFirst.1 16 = (.ifCond .le 23,3,39,0,0,0,.retAddr 0) := rfl
theorem fd_RunList_putFirst_19 : am_fd mt_RunList_putFirst.1 19 = (.aload_n 0,1,0,0,0,0,.retAddr 0) := rfl
theorem fd_RunList_putFirst_20 : am_fd mt_RunList_putFirst.1 20 = (.getfield 11,3,0,2,6,6,.retAddr 0) := rfl
theorem fd_RunList_putFirst_23 : am_fd mt_RunList_putFirst.1 23 = (.iload_n 2,1,2,0,0,0,.retAddr 0) := rfl
theorem fd_RunList_putFirst_24 : am_fd mt_RunList_putFirst.1 24 = (.aload_n 0,1,0,0,0,0,.retAddr 0) := rfl
theorem fd_RunList_putFirst_25 : am_fd mt_RunList_putFirst.1 25 = (.getfield 11,3,0,2,6,6,.retAddr 0) := rfl
theorem fd_RunList_putFirst_28 : am_fd mt_RunList_putFirst.1 28 = (.iload_n 2,1,2,0,0,0,.retAddr 0) := rfl
theorem fd_RunList_putFirst_29 : am_fd mt_RunList_putFirst.1 29 = (.iconst 1,1,0,0,0,0,.int 1) := rfl
theorem fd_RunList_putFirst_30 : am_fd mt_RunList_putFirst.1 30 = (.isub,1,0,0,0,0,.retAddr 0) := rfl
theorem fd_RunList_putFirst_31 : am_fd mt_RunList_putFirst.1 31 = (.aaload,1,0,0,0,0,.retAddr 0) := rfl
theorem fd_RunList_putFirst_32 : am_fd mt_RunList_putFirst.1 32 = (.aastore,1,5,5,200,0,.retAddr 0) := rfl
theorem fd_RunList_putFirst_33 : am_fd mt_RunList_putFirst.1 33 = (.iinc 2 (-1),3,2,0,0,0,.int (-1)) := rfl
theorem fd_RunList_putFirst_36 : am_fd mt_RunList_putFirst.1 36 = (.goto (-21),3,15,0,0,0,.retAddr 0) := rfl
theorem fd_RunList_putFirst_39 : am_fd mt_RunList_putFirst.1 39 = (.aload_n 0,1,0,0,0,0,.retAddr 0) := rfl
theorem fd_RunList_putFirst_40 : am_fd mt_RunList_putFirst.1 40 = (.getfield 11,3,0,2,6,6,.retAddr 0) := rfl
theorem fd_RunList_putFirst_43 : am_fd mt_RunList_putFirst.1 43 = (.iconst 0,1,0,0,0,0,.int 0) := rfl
theorem fd_RunList_putFirst_44 : am_fd mt_RunList_putFirst.1 44 = (.aload_n 1,1,1,0,0,0,.retAddr 0) := rfl
theorem fd_RunList_putFirst_45 : am_fd mt_RunList_putFirst.1 45 = (.aastore,1,5,5,200,0,.retAddr 0) := rfl
theorem fd_RunList_putFirst_46 : am_fd mt_RunList_putFirst.1 46 = (.aload_n 1,1,1,0,0,0,.retAddr 0) := rfl
theorem fd_RunList_putFirst_47 : am_fd mt_RunList_putFirst.1 47 = (.dup,1,0,0,0,0,.retAddr 0) := rfl
theorem fd_RunList_putFirst_48 : am_fd mt_RunList_putFirst.1 48 = (.getfield 31,3,8,0,5,5,.retAddr 0) := rfl
theorem fd_RunList_putFirst_51 : am_fd mt_RunList_putFirst.1 51 = (.iconst 1,1,0,0,0,0,.int 1) := rfl
theorem fd_RunList_putFirst_52 : am_fd mt_RunList_putFirst.1 52 = (.iadd,1,0,0,0,0,.retAddr 0) := rfl
theorem fd_RunList_putFirst_53 : am_fd mt_RunList_putFirst.1 53 = (.putfield 31,3,8,0,5,5,.retAddr 0) := rfl
theorem fd_RunList_putFirst_56 : am_fd mt_RunList_putFirst.1 56 = (.aload_n 0,1,0,0,0,0,.retAddr 0) := rfl
theorem fd_RunList_putFirst_57 : am_fd mt_RunList_putFirst.1 57 = (.dup,1,0,0,0,0,.retAddr 0) := rfl
theorem fd_RunList_putFirst_58 : am_fd mt_RunList_putFirst.1 58 = (.getfield 17,3,1,0,6,6,.retAddr 0) := rfl
theorem fd_RunList_putFirst_61 : am_fd mt_RunList_putFirst.1 61 = (.iconst 1,1,0,0,0,0,.int 1) := rfl
theorem fd_RunList_putFirst_62 : am_fd mt_RunList_putFirst.1 62 = (.iadd,1,0,0,0,0,.retAddr 0) := rfl
theorem fd_RunList_putFirst_63 : am_fd mt_RunList_putFirst.1 63 = (.putfield 17,3,1,0,6,6,.retAddr 0) := rfl
theorem fd_RunList_putFirst_66 : am_fd mt_RunList_putFirst.1 66 = (.return_,1,0,0,0,0,.retAddr 0) := rfl
theorem fd_SR_writeHead_0 : am_fd mt_SR_writeHead.1 0 = (.aload_n 0,1,0,0,0,0,.retAddr 0) := rfl
theorem fd_SR_writeHead_1 : am_fd mt_SR_writeHead.1 1 = (.getfield 52,3,12,0,1,1,.retAddr 0) := rfl
theorem fd_SR_writeHead_4 : am_fd mt_SR_writeHead.1 4 = (.iconst 1,1,0,0,0,0,.int 1) := rfl
theorem fd_SR_writeHead_5 : am_fd mt_SR_writeHead.1 5 = (.iadd,1,0,0,0,0,.retAddr 0) := rfl
theorem fd_SR_writeHead_6 : am_fd mt_SR_writeHead.1 6 = (.istore_n 1,1,1,0,0,0,.retAddr 0) := rfl
theorem fd_SR_writeHead_7 : am_fd mt_SR_writeHead.1 7 = (.aload_n 0,1,0,0,0,0,.retAddr 0) := rfl
theorem fd_SR_writeHead_8 : am_fd mt_SR_writeHead.1 8 = (.iload_n 1,1,1,0,0,0,.retAddr 0) := rfl
theorem fd_SR_writeHead_9 : am_fd mt_SR_writeHead.1 9 = (.invokevirtual 108,3,12,2,1,0,.retAddr 0) := rfl
theorem fd_SR_writeHead_12 : am_fd mt_SR_writeHead.1 12 = (.aload_n 0,1,0,0,0,0,.retAddr 0) := rfl
theorem fd_SR_writeHead_13 : am_fd mt_SR_writeHead.1 13 = (.getfield 79,3,0,2,1,1,.retAddr 0) := rfl
theorem fd_SR_writeHead_16 : am_fd mt_SR_writeHead.1 16 = (.iload_n 1,1,1,0,0,0,.retAddr 0) := rfl
theorem fd_SR_writeHead_17 : am_fd mt_SR_writeHead.1 17 = (.iconst 1,1,0,0,0,0,.int 1) := rfl
theorem fd_SR_writeHead_18 : am_fd mt_SR_writeHead.1 18 = (.iand,1,0,0,0,0,.retAddr 0) := rfl
theorem fd_SR_writeHead_19 : am_fd mt_SR_writeHead.1 19 = (.aload_n 0,1,0,0,0,0,.retAddr 0) := rfl
theorem fd_SR_writeHead_20 : am_fd mt_SR_writeHead.1 20 = (.getfield 37,3,8,2,1,1,.retAddr 0) := rfl
theorem fd_SR_writeHead_23 : am_fd mt_SR_writeHead.1 23 = (.invokevirtual 297,3,79,3,4,0,.retAddr 0) := rfl
theorem fd_SR_writeHead_26 : am_fd mt_SR_writeHead.1 26 = (.ifCond .eq 11,3,37,0,0,0,.retAddr 0) := rfl
theorem fd_SR_writeHead_29 : am_fd mt_SR_writeHead.1 29 = (.aload_n 0,1,0,0,0,0,.retAddr 0) := rfl
theorem fd_SR_writeHead_30 : am_fd mt_SR_writeHead.1 30 = (.iload_n 1,1,1,0,0,0,.retAddr 0) := rfl
theorem fd_SR_writeHead_31 : am_fd mt_SR_writeHead.1 31 = (.putfield 52,3,12,0,1,1,.retAddr 0) := rfl
theorem fd_SR_writeHead_34 : am_fd mt_SR_writeHead.1 34 = (.goto 7,3,41,0,0,0,.retAddr 0) := rfl
theorem fd_SR_writeHead_37 : am_fd mt_SR_writeHead.1 37 = (.aload_n 0,1,0,0,0,0,.retAddr 0) := rfl
theorem fd_SR_writeHead_38 : am_fd mt_SR_writeHead.1 38 = (.invokevirtual 301,3,28,1,1,0,.retAddr 0) := rfl
theorem fd_SR_writeHead_41 : am_fd mt_SR_writeHead.1 41 = (.return_,1,0,0,0,0,.retAddr 0) := rfl
theorem fd_SR_flushTable_0 : am_fd mt_SR_flushTable.1 0 = (.aload_n 0,1,0,0,0,0,.retAddr 0) := rfl
theorem fd_SR_flushTable_1 : am_fd mt_SR_flushTable.1 1 = (.getfield 10,3,2,2,1,1,.retAddr 0) := rfl
theorem fd_SR_flushTable_4 : am_fd mt_SR_flushTable.1 4 = (.getfield 143,3,4,0,10,10,.retAddr 0) := rfl
theorem fd_SR_flushTable_7 : am_fd mt_SR_flushTable.1 7 = (.ifCond .eq 16,3,23,0,0,0,.retAddr 0) := rfl
theorem fd_SR_flushTable_10 : am_fd mt_SR_flushTable.1 10 = (.aload_n 0,1,0,0,0,0,.retAddr 0) := rfl
theorem fd_SR_flushTable_11 : am_fd mt_SR_flushTable.1 11 = (.getfield 19,3,3,2,1,1,.retAddr 0) := rfl
theorem fd_SR_flushTable_14 : am_fd mt_SR_flushTable.1 14 = (.iconst 0,1,0,0,0,0,.int 0) := rfl
theorem fd_SR_flushTable_15 : am_fd mt_SR_flushTable.1 15 = (.invokevirtual 156,3,46,2,6,0,.retAddr 0) := rfl
theorem fd_SR_flushTable_18 : am_fd mt_SR_flushTable.1 18 = (.bipush 6,2,0,0,0,0,.int 6) := rfl
theorem fd_SR_flushTable_20 : am_fd mt_SR_flushTable.1 20 = (.if_icmp .lt 5,3,25,0,0,0,.retAddr 0) := rfl
theorem fd_SR_flushTable_23 : am_fd mt_SR_flushTable.1 23 = (.iconst (-1),1,0,0,0,0,.int (-1)) := rfl
theorem fd_SR_flushTable_24 : am_fd mt_SR_flushTable.1 24 = (.ireturn,1,0,0,0,0,.retAddr 0) := rfl
theorem fd_SR_flushTable_25 : am_fd mt_SR_flushTable.1 25 = (.aload_n 0,1,0,0,0,0,.retAddr 0) := rfl
theorem fd_SR_flushTable_26 : am_fd mt_SR_flushTable.1 26 = (.invokevirtual 176,3,89,1,1,0,.retAddr 0) := rfl
theorem fd_SR_flushTable_29 : am_fd mt_SR_flushTable.1 29 = (.aload_n 0,1,0,0,0,0,.retAddr 0) := rfl
theorem fd_SR_flushTable_30 : am_fd mt_SR_flushTable.1 30 = (.aload_n 0,1,0,0,0,0,.retAddr 0) := rfl
theorem fd_SR_flushTable_31 : am_fd mt_SR_flushTable.1 31 = (.getfield 86,3,1,2,1,1,.retAddr 0) := rfl
theorem fd_SR_flushTable_34 : am_fd mt_SR_flushTable.1 34 = (.getfield 179,3,4,0,9,9,.retAddr 0) := rfl
theorem fd_SR_flushTable_37 : am_fd mt_SR_flushTable.1 37 = (.invokevirtual 182,3,62,2,1,0,.retAddr 0) := rfl
theorem fd_SR_flushTable_40 : am_fd mt_SR_flushTable.1 40 = (.aload_n 0,1,0,0,0,0,.retAddr 0) := rfl
theorem fd_SR_flushTable_41 : am_fd mt_SR_flushTable.1 41 = (.getfield 86,3,1,2,1,1,.retAddr 0) := rfl
theorem fd_SR_flushTable_44 : am_fd mt_SR_flushTable.1 44 = (.getfield 179,3,4,0,9,9,.retAddr 0) := rfl
theorem fd_SR_flushTable_47 : am_fd mt_SR_flushTable.1 47 = (.if_icmp .le 5,3,52,0,0,0,.retAddr 0) := rfl
theorem fd_SR_flushTable_50 : am_fd mt_SR_flushTable.1 50 = (.iconst (-1),1,0,0,0,0,.int (-1)) := rfl
theorem fd_SR_flushTable_51 : am_fd mt_SR_flushTable.1 51 = (.ireturn,1,0,0,0,0,.retAddr 0) := rfl
theorem fd_SR_flushTable_52 : am_fd mt_SR_flushTable.1 52 = (.aload_n 0,1,0,0,0,0,.retAddr 0) := rfl
theorem fd_SR_flushTable_53 : am_fd mt_SR_flushTable.1 53 = (.invokevirtual 176,3,89,1,1,0,.retAddr 0) := rfl
theorem fd_SR_flushTable_56 : am_fd mt_SR_flushTable.1 56 = (.aload_n 0,1,0,0,0,0,.retAddr 0) := rfl
theorem fd_SR_flushTable_57 : am_fd mt_SR_flushTable.1 57 = (.iconst 0,1,0,0,0,0,.int 0) := rfl
theorem fd_SR_flushTable_58 : am_fd mt_SR_flushTable.1 58 = (.invokevirtual 185,3,74,2,1,0,.retAddr 0) := rfl
theorem fd_SR_flushTable_61 : am_fd mt_SR_flushTable.1 61 = (.astore_n 1,1,1,0,0,0,.retAddr 0) := rfl
theorem fd_SR_flushTable_62 : am_fd mt_SR_flushTable.1 62 = (.aload_n 0,1,0,0,0,0,.retAddr 0) := rfl
theorem fd_SR_flushTable_63 : am_fd mt_SR_flushTable.1 63 = (.getfield 61,3,15,0,1,1,.retAddr 0) := rfl
theorem fd_SR_flushTable_66 : am_fd mt_SR_flushTable.1 66 = (.ifCond .eq 5,3,71,0,0,0,.retAddr 0) := rfl
theorem fd_SR_flushTable_69 : am_fd mt_SR_flushTable.1 69 = (.iconst 0,1,0,0,0,0,.int 0) := rfl
theorem fd_SR_flushTable_70 : am_fd mt_SR_flushTable.1 70 = (.ireturn,1,0,0,0,0,.retAddr 0) := rfl
theorem fd_SR_flushTable_71 : am_fd mt_SR_flushTable.1 71 = (.aload_n 0,1,0,0,0,0,.retAddr 0) := rfl
theorem fd_SR_flushTable_72 : am_fd mt_SR_flushTable.1 72 = (.getfield 19,3,3,2,1,1,.retAddr 0) := rfl
theorem fd_SR_flushTable_75 : am_fd mt_SR_flushTable.1 75 = (.aload_n 1,1,1,0,0,0,.retAddr 0) := rfl
theorem fd_SR_flushTable_76 : am_fd mt_SR_flushTable.1 76 = (.invokevirtual 189,3,86,2,6,0,.retAddr 0) := rfl
theorem fd_SR_flushTable_79 : am_fd mt_SR_flushTable.1 79 = (.aload_n 0,1,0,0,0,0,.retAddr 0) := rfl
theorem fd_SR_flushTable_80 : am_fd mt_SR_flushTable.1 80 = (.invokevirtual 193,3,87,1,1,0,.retAddr 0) := rfl
theorem fd_SR_flushTable_83 : am_fd mt_SR_flushTable.1 83 = (.aload_n 0,1,0,0,0,0,.retAddr 0) := rfl
theorem fd_SR_flushTable_84 : am_fd mt_SR_flushTable.1 84 = (.getfield 61,3,15,0,1,1,.retAddr 0) := rfl
theorem fd_SR_flushTable_87 : am_fd mt_SR_flushTable.1 87 = (.ifCond .eq 5,3,92,0,0,0,.retAddr 0) := rfl
theorem fd_SR_flushTable_90 : am_fd mt_SR_flushTable.1 90 = (.iconst 0,1,0,0,0,0,.int 0) := rfl
theorem fd_SR_flushTable_91 : am_fd mt_SR_flushTable.1 91 = (.ireturn,1,0,0,0,0,.retAddr 0) := rfl
theorem fd_SR_flushTable_92 : am_fd mt_SR_flushTable.1 92 = (.aload_n 0,1,0,0,0,0,.retAddr 0) := rfl
theorem fd_SR_flushTable_93 : am_fd mt_SR_flushTable.1 93 = (.getfield 10,3,2,2,1,1,.retAddr 0) := rfl
theorem fd_SR_flushTable_96 : am_fd mt_SR_flushTable.1 96 = (.iconst 0,1,0,0,0,0,.int 0) := rfl
theorem fd_SR_flushTable_97 : am_fd mt_SR_flushTable.1 97 = (.putfield 143,3,4,0,10,10,.retAddr 0) := rfl
theorem fd_SR_flushTable_100 : am_fd mt_SR_flushTable.1 100 = (.iconst 1,1,0,0,0,0,.int 1) := rfl
theorem fd_SR_flushTable_101 : am_fd mt_SR_flushTable.1 101 = (.ireturn,1,0,0,0,0,.retAddr 0) := rfl
theorem fd_SR_blendTable_0 : am_fd mt_SR_blendTable.1 0 = (.aload_n 0,1,0,0,0,0,.retAddr 0) := rfl
theorem fd_SR_blendTable_1 : am_fd mt_SR_blendTable.1 1 = (.getfield 95,3,5,2,1,1,.retAddr 0) := rfl
theorem fd_SR_blendTable_4 : am_fd mt_SR_blendTable.1 4 = (.iconst 0,1,0,0,0,0,.int 0) := rfl
theorem fd_SR_blendTable_5 : am_fd mt_SR_blendTable.1 5 = (.invokevirtual 236,3,51,2,2,0,.retAddr 0) := rfl
theorem fd_SR_blendTable_8 : am_fd mt_SR_blendTable.1 8 = (.aload_n 0,1,0,0,0,0,.retAddr 0) := rfl
theorem fd_SR_blendTable_9 : am_fd mt_SR_blendTable.1 9 = (.getfield 95,3,5,2,1,1,.retAddr 0) := rfl
theorem fd_SR_blendTable_12 : am_fd mt_SR_blendTable.1 12 = (.invokevirtual 240,3,90,1,2,0,.retAddr 0) := rfl
theorem fd_SR_blendTable_15 : am_fd mt_SR_blendTable.1 15 = (.return_,1,0,0,0,0,.retAddr 0) := rfl
theorem fd_Blend_addTable_0 : am_fd mt_Blend_addTable.1 0 = (.aload_n 0,1,0,0,0,0,.retAddr 0) := rfl
theorem fd_Blend_addTable_1 : am_fd mt_Blend_addTable.1 1 = (.getfield 50,3,2,2,2,2,.retAddr 0) := rfl
theorem fd_Blend_addTable_4 : am_fd mt_Blend_addTable.1 4 = (.invokevirtual 57,3,91,1,11,0,.retAddr 0) := rfl
theorem fd_Blend_addTable_7 : am_fd mt_Blend_addTable.1 7 = (.aload_n 0,1,0,0,0,0,.retAddr 0) := rfl
theorem fd_Blend_addTable_8 : am_fd mt_Blend_addTable.1 8 = (.getfield 50,3,2,2,2,2,.retAddr 0) := rfl
theorem fd_Blend_addTable_11 : am_fd mt_Blend_addTable.1 11 = (.invokevirtual 60,3,65,1,11,0,.retAddr 0) := rfl
theorem fd_Blend_addTable_14 : am_fd mt_Blend_addTable.1 14 = (.aload_n 0,1,0,0,0,0,.retAddr 0) := rfl
theorem fd_Blend_addTable_15 : am_fd mt_Blend_addTable.1 15 = (.aload_n 0,1,0,0,0,0,.retAddr 0) := rfl
theorem fd_Blend_addTable_16 : am_fd mt_Blend_addTable.1 16 = (.getfield 50,3,2,2,2,2,.retAddr 0) := rfl
theorem fd_Blend_addTable_19 : am_fd mt_Blend_addTable.1 19 = (.invokevirtual 63,3,60,2,2,0,.retAddr 0) := rfl
theorem fd_Blend_addTable_22 : am_fd mt_Blend_addTable.1 22 = (.return_,1,0,0,0,0,.retAddr 0) := rfl
theorem fd_TableStream_start_0 : am_fd mt_TableStream_start.1 0 = (.aload_n 0,1,0,0,0,0,.retAddr 0) := rfl
theorem fd_TableStream_start_1 : am_fd mt_TableStream_start.1 1 = (.iconst 0,1,0,0,0,0,.int 0) := rfl
theorem fd_TableStream_start_2 : am_fd mt_TableStream_start.1 2 = (.putfield 9,3,5,0,11,11,.retAddr 0) := rfl
theorem fd_TableStream_start_5 : am_fd mt_TableStream_start.1 5 = (.return_,1,0,0,0,0,.retAddr 0) := rfl
theorem fd_SR_flush_0 : am_fd mt_SR_flush.1 0 = (.aload_n 0,1,0,0,0,0,.retAddr 0) := rfl
theorem fd_SR_flush_1 : am_fd mt_SR_flush.1 1 = (.invokevirtual 125,3,34,1,1,0,.retAddr 0) := rfl
theorem fd_SR_flush_4 : am_fd mt_SR_flush.1 4 = (.aload_n 0,1,0,0,0,0,.retAddr 0) := rfl
theorem fd_SR_flush_5 : am_fd mt_SR_flush.1 5 = (.invokevirtual 164,3,88,1,1,0,.retAddr 0) := rfl
theorem fd_SR_flush_8 : am_fd mt_SR_flush.1 8 = (.istore_n 1,1,1,0,0,0,.retAddr 0) := rfl
theorem fd_SR_flush_9 : am_fd mt_SR_flush.1 9 = (.iload_n 1,1,1,0,0,0,.retAddr 0) := rfl
theorem fd_SR_flush_10 : am_fd mt_SR_flush.1 10 = (.iconst 1,1,0,0,0,0,.int 1) := rfl
theorem fd_SR_flush_11 : am_fd mt_SR_flush.1 11 = (.if_icmp .ne 18,3,29,0,0,0,.retAddr 0) := rfl
theorem fd_SR_flush_14 : am_fd mt_SR_flush.1 14 = (.aload_n 0,1,0,0,0,0,.retAddr 0) := rfl
theorem fd_SR_flush_15 : am_fd mt_SR_flush.1 15 = (.getfield 19,3,3,2,1,1,.retAddr 0) := rfl
theorem fd_SR_flush_18 : am_fd mt_SR_flush.1 18 = (.getfield 167,3,0,2,6,6,.retAddr 0) := rfl
theorem fd_SR_flush_21 : am_fd mt_SR_flush.1 21 = (.iconst 0,1,0,0,0,0,.int 0) := rfl
theorem fd_SR_flush_22 : am_fd mt_SR_flush.1 22 = (.aaload,1,0,0,0,0,.retAddr 0) := rfl
theorem fd_SR_flush_23 : am_fd mt_SR_flush.1 23 = (.getfield 171,3,0,0,5,5,.retAddr 0) := rfl
theorem fd_SR_flush_26 : am_fd mt_SR_flush.1 26 = (.goto 4,3,30,0,0,0,.retAddr 0) := rfl
theorem fd_SR_flush_29 : am_fd mt_SR_flush.1 29 = (.iload_n 1,1,1,0,0,0,.retAddr 0) := rfl
theorem fd_SR_flush_30 : am_fd mt_SR_flush.1 30 = (.ireturn,1,0,0,0,0,.retAddr 0) := rfl
theorem fd_SR_merge_0 : am_fd mt_SR_merge.1 0 = (.aload_n 0,1,0,0,0,0,.retAddr 0) := rfl
theorem fd_SR_merge_1 : am_fd mt_SR_merge.1 1 = (.invokevirtual 125,3,34,1,1,0,.retAddr 0) := rfl
theorem fd_SR_merge_4 : am_fd mt_SR_merge.1 4 = (.aload_n 0,1,0,0,0,0,.retAddr 0) := rfl
theorem fd_SR_merge_5 : am_fd mt_SR_merge.1 5 = (.invokevirtual 160,3,47,1,1,0,.retAddr 0) := rfl
theorem fd_SR_merge_8 : am_fd mt_SR_merge.1 8 = (.ireturn,1,0,0,0,0,.retAddr 0) := rfl
theorem fd_SR_mark_0 : am_fd mt_SR_mark.1 0 = (.aload_n 0,1,0,0,0,0,.retAddr 0) := rfl
theorem fd_SR_mark_1 : am_fd mt_SR_mark.1 1 = (.invokevirtual 125,3,34,1,1,0,.retAddr 0) := rfl
theorem fd_SR_mark_4 : am_fd mt_SR_mark.1 4 = (.aload_n 0,1,0,0,0,0,.retAddr 0) := rfl
theorem fd_SR_mark_5 : am_fd mt_SR_mark.1 5 = (.invokevirtual 316,3,95,1,1,0,.retAddr 0) := rfl
theorem fd_SR_mark_8 : am_fd mt_SR_mark.1 8 = (.istore_n 1,1,1,0,0,0,.retAddr 0) := rfl
theorem fd_SR_mark_9 : am_fd mt_SR_mark.1 9 = (.iload_n 1,1,1,0,0,0,.retAddr 0) := rfl
theorem fd_SR_mark_10 : am_fd mt_SR_mark.1 10 = (.iconst (-1),1,0,0,0,0,.int (-1)) := rfl
theorem fd_SR_mark_11 : am_fd mt_SR_mark.1 11 = (.if_icmp .ne 5,3,16,0,0,0,.retAddr 0) := rfl
theorem fd_SR_mark_14 : am_fd mt_SR_mark.1 14 = (.iconst (-1),1,0,0,0,0,.int (-1)) := rfl
theorem fd_SR_mark_15 : am_fd mt_SR_mark.1 15 = (.ireturn,1,0,0,0,0,.retAddr 0) := rfl
theorem fd_SR_mark_16 : am_fd mt_SR_mark.1 16 = (.aload_n 0,1,0,0,0,0,.retAddr 0) := rfl
theorem fd_SR_mark_17 : am_fd mt_SR_mark.1 17 = (.getfield 10,3,2,2,1,1,.retAddr 0) := rfl
theorem fd_SR_mark_20 : am_fd mt_SR_mark.1 20 = (.getfield 143,3,4,0,10,10,.retAddr 0) := rfl
theorem fd_SR_mark_23 : am_fd mt_SR_mark.1 23 = (.ifCond .le 24,3,47,0,0,0,.retAddr 0) := rfl
theorem fd_SR_mark_26 : am_fd mt_SR_mark.1 26 = (.aload_n 0,1,0,0,0,0,.retAddr 0) := rfl
theorem fd_SR_mark_27 : am_fd mt_SR_mark.1 27 = (.invokevirtual 164,3,88,1,1,0,.retAddr 0) := rfl
theorem fd_SR_mark_30 : am_fd mt_SR_mark.1 30 = (.istore_n 2,1,2,0,0,0,.retAddr 0) := rfl
theorem fd_SR_mark_31 : am_fd mt_SR_mark.1 31 = (.iload_n 2,1,2,0,0,0,.retAddr 0) := rfl
theorem fd_SR_mark_32 : am_fd mt_SR_mark.1 32 = (.iconst 1,1,0,0,0,0,.int 1) := rfl
theorem fd_SR_mark_33 : am_fd mt_SR_mark.1 33 = (.if_icmp .eq 14,3,47,0,0,0,.retAddr 0) := rfl
theorem fd_SR_mark_36 : am_fd mt_SR_mark.1 36 = (.iload_n 2,1,2,0,0,0,.retAddr 0) := rfl
theorem fd_SR_mark_37 : am_fd mt_SR_mark.1 37 = (.ifCond .ne 8,3,45,0,0,0,.retAddr 0) := rfl
theorem fd_SR_mark_40 : am_fd mt_SR_mark.1 40 = (.bipush (-2),2,0,0,0,0,.int (-2)) := rfl
theorem fd_SR_mark_42 : am_fd mt_SR_mark.1 42 = (.goto 4,3,46,0,0,0,.retAddr 0) := rfl
theorem fd_SR_mark_45 : am_fd mt_SR_mark.1 45 = (.iconst (-1),1,0,0,0,0,.int (-1)) := rfl
theorem fd_SR_mark_46 : am_fd mt_SR_mark.1 46 = (.ireturn,1,0,0,0,0,.retAddr 0) := rfl
theorem fd_SR_mark_47 : am_fd mt_SR_mark.1 47 = (.aload_n 0,1,0,0,0,0,.retAddr 0) := rfl
theorem fd_SR_mark_48 : am_fd mt_SR_mark.1 48 = (.getfield 23,3,4,2,1,1,.retAddr 0) := rfl
theorem fd_SR_mark_51 : am_fd mt_SR_mark.1 51 = (.iload_n 1,1,1,0,0,0,.retAddr 0) := rfl
theorem fd_SR_mark_52 : am_fd mt_SR_mark.1 52 = (.aaload,1,0,0,0,0,.retAddr 0) := rfl
theorem fd_SR_mark_53 : am_fd mt_SR_mark.1 53 = (.aload_n 0,1,0,0,0,0,.retAddr 0) := rfl
theorem fd_SR_mark_54 : am_fd mt_SR_mark.1 54 = (.getfield 19,3,3,2,1,1,.retAddr 0) := rfl
theorem fd_SR_mark_57 : am_fd mt_SR_mark.1 57 = (.invokevirtual 319,3,96,2,6,0,.retAddr 0) := rfl
theorem fd_SR_mark_60 : am_fd mt_SR_mark.1 60 = (.iload_n 1,1,1,0,0,0,.retAddr 0) := rfl
theorem fd_SR_mark_61 : am_fd mt_SR_mark.1 61 = (.ireturn,1,0,0,0,0,.retAddr 0) := rfl
theorem fd_SR_leastFreeMark_0 : am_fd mt_SR_leastFreeMark.1 0 = (.iconst 0,1,0,0,0,0,.int 0) := rfl
theorem fd_SR_leastFreeMark_1 : am_fd mt_SR_leastFreeMark.1 1 = (.istore_n 1,1,1,0,0,0,.retAddr 0) := rfl
theorem fd_SR_leastFreeMark_2 : am_fd mt_SR_leastFreeMark.1 2 = (.iload_n 1,1,1,0,0,0,.retAddr 0) := rfl
theorem fd_SR_leastFreeMark_3 : am_fd mt_SR_leastFreeMark.1 3 = (.bipush 8,2,0,0,0,0,.int 8) := rfl
theorem fd_SR_leastFreeMark_5 : am_fd mt_SR_leastFreeMark.1 5 = (.if_icmp .ge 23,3,28,0,0,0,.retAddr 0) := rfl
theorem fd_SR_leastFreeMark_8 : am_fd mt_SR_leastFreeMark.1 8 = (.aload_n 0,1,0,0,0,0,.retAddr 0) := rfl
theorem fd_SR_leastFreeMark_9 : am_fd mt_SR_leastFreeMark.1 9 = (.getfield 23,3,4,2,1,1,.retAddr 0) := rfl
theorem fd_SR_leastFreeMark_12 : am_fd mt_SR_leastFreeMark.1 12 = (.iload_n 1,1,1,0,0,0,.retAddr 0) := rfl
theorem fd_SR_leastFreeMark_13 : am_fd mt_SR_leastFreeMark.1 13 = (.aaload,1,0,0,0,0,.retAddr 0) := rfl
theorem fd_SR_leastFreeMark_14 : am_fd mt_SR_leastFreeMark.1 14 = (.getfield 323,3,2,0,6,6,.retAddr 0) := rfl
theorem fd_SR_leastFreeMark_17 : am_fd mt_SR_leastFreeMark.1 17 = (.ifCond .ne 5,3,22,0,0,0,.retAddr 0) := rfl
theorem fd_SR_leastFreeMark_20 : am_fd mt_SR_leastFreeMark.1 20 = (.iload_n 1,1,1,0,0,0,.retAddr 0) := rfl
theorem fd_SR_leastFreeMark_21 : am_fd mt_SR_leastFreeMark.1 21 = (.ireturn,1,0,0,0,0,.retAddr 0) := rfl
theorem fd_SR_leastFreeMark_22 : am_fd mt_SR_leastFreeMark.1 22 = (.iinc 1 1,3,1,0,0,0,.int 1) := rfl
theorem fd_SR_leastFreeMark_25 : am_fd mt_SR_leastFreeMark.1 25 = (.goto (-23),3,2,0,0,0,.retAddr 0) := rfl
theorem fd_SR_leastFreeMark_28 : am_fd mt_SR_leastFreeMark.1 28 = (.iconst (-1),1,0,0,0,0,.int (-1)) := rfl
theorem fd_SR_leastFreeMark_29 : am_fd mt_SR_leastFreeMark.1 29 = (.ireturn,1,0,0,0,0,.retAddr 0) := rfl
theorem fd_RunList_keep_0 : am_fd mt_RunList_keep.1 0 = (.aload_n 0,1,0,0,0,0,.retAddr 0) := rfl
theorem fd_RunList_keep_1 : am_fd mt_RunList_keep.1 1 = (.iconst 1,1,0,0,0,0,.int 1) := rfl
theorem fd_RunList_keep_2 : am_fd mt_RunList_keep.1 2 = (.putfield 21,3,2,3,6,6,.retAddr 0) := rfl
theorem fd_RunList_keep_5 : am_fd mt_RunList_keep.1 5 = (.aload_n 0,1,0,0,0,0,.retAddr 0) := rfl
theorem fd_RunList_keep_6 : am_fd mt_RunList_keep.1 6 = (.iconst 0,1,0,0,0,0,.int 0) := rfl
theorem fd_RunList_keep_7 : am_fd mt_RunList_keep.1 7 = (.putfield 17,3,1,0,6,6,.retAddr 0) := rfl
theorem fd_RunList_keep_10 : am_fd mt_RunList_keep.1 10 = (.iconst 0,1,0,0,0,0,.int 0) := rfl
theorem fd_RunList_keep_11 : am_fd mt_RunList_keep.1 11 = (.istore_n 2,1,2,0,0,0,.retAddr 0) := rfl
theorem fd_RunList_keep_12 : am_fd mt_RunList_keep.1 12 = (.iload_n 2,1,2,0,0,0,.retAddr 0) := rfl
theorem fd_RunList_keep_13 : am_fd mt_RunList_keep.1 13 = (.aload_n 1,1,1,0,0,0,.retAddr 0) := rfl
theorem fd_RunList_keep_14 : am_fd mt_RunList_keep.1 14 = (.getfield 17,3,1,0,6,6,.retAddr 0) := rfl
theorem fd_RunList_keep_17 : am_fd mt_RunList_keep.1 17 = (.if_icmp .ge 25,3,42,0,0,0,.retAddr 0) := rfl
theorem fd_RunList_keep_20 : am_fd mt_RunList_keep.1 20 = (.iload_n 2,1,2,0,0,0,.retAddr 0) := rfl
theorem fd_RunList_keep_21 : am_fd mt_RunList_keep.1 21 = (.bipush 9,2,0,0,0,0,.int 9) := rfl
theorem fd_RunList_keep_23 : am_fd mt_RunList_keep.1 23 = (.if_icmp .ge 19,3,42,0,0,0,.retAddr 0) := rfl
theorem fd_RunList_keep_26 : am_fd mt_RunList_keep.1 26 = (.aload_n 0,1,0,0,0,0,.retAddr 0) := rfl
theorem fd_RunList_keep_27 : am_fd mt_RunList_keep.1 27 = (.aload_n 1,1,1,0,0,0,.retAddr 0) := rfl
theorem fd_RunList_keep_28 : am_fd mt_RunList_keep.1 28 = (.getfield 11,3,0,2,6,6,.retAddr 0) := rfl
theorem fd_RunList_keep_31 : am_fd mt_RunList_keep.1 31 = (.iload_n 2,1,2,0,0,0,.retAddr 0) := rfl
theorem fd_RunList_keep_32 : am_fd mt_RunList_keep.1 32 = (.aaload,1,0,0,0,0,.retAddr 0) := rfl
theorem fd_RunList_keep_33 : am_fd mt_RunList_keep.1 33 = (.invokevirtual 40,3,97,2,6,0,.retAddr 0) := rfl
theorem fd_RunList_keep_36 : am_fd mt_RunList_keep.1 36 = (.iinc 2 1,3,2,0,0,0,.int 1) := rfl
theorem fd_RunList_keep_39 : am_fd mt_RunList_keep.1 39 = (.goto (-27),3,12,0,0,0,.retAddr 0) := rfl
theorem fd_RunList_keep_42 : am_fd mt_RunList_keep.1 42 = (.return_,1,0,0,0,0,.retAddr 0) := rfl
theorem fd_RunList_putLast_0 : am_fd mt_RunList_putLast.1 0 = (.aload_n 0,1,0,0,0,0,.retAddr 0) := rfl
theorem fd_RunList_putLast_1 : am_fd mt_RunList_putLast.1 1 = (.getfield 17,3,1,0,6,6,.retAddr 0) := rfl
theorem fd_RunList_putLast_4 : am_fd mt_RunList_putLast.1 4 = (.bipush 9,2,0,0,0,0,.int 9) := rfl
theorem fd_RunList_putLast_6 : am_fd mt_RunList_putLast.1 6 = (.if_icmp .lt 4,3,10,0,0,0,.retAddr 0) := rfl
theorem fd_RunList_putLast_9 : am_fd mt_RunList_putLast.1 9 = (.return_,1,0,0,0,0,.retAddr 0) := rfl
theorem fd_RunList_putLast_10 : am_fd mt_RunList_putLast.1 10 = (.aload_n 0,1,0,0,0,0,.retAddr 0) := rfl
theorem fd_RunList_putLast_11 : am_fd mt_RunList_putLast.1 11 = (.getfield 11,3,0,2,6,6,.retAddr 0) := rfl
theorem fd_RunList_putLast_14 : am_fd mt_RunList_putLast.1 14 = (.aload_n 0,1,0,0,0,0,.retAddr 0) := rfl
theorem fd_RunList_putLast_15 : am_fd mt_RunList_putLast.1 15 = (.getfield 17,3,1,0,6,6,.retAddr 0) := rfl
theorem fd_RunList_putLast_18 : am_fd mt_RunList_putLast.1 18 = (.aload_n 1,1,1,0,0,0,.retAddr 0) := rfl
theorem fd_RunList_putLast_19 : am_fd mt_RunList_putLast.1 19 = (.aastore,1,5,5,200,0,.retAddr 0) := rfl
theorem fd_RunList_putLast_20 : am_fd mt_RunList_putLast.1 20 = (.aload_n 1,1,1,0,0,0,.retAddr 0) := rfl
theorem fd_RunList_putLast_21 : am_fd mt_RunList_putLast.1 21 = (.dup,1,0,0,0,0,.retAddr 0) := rfl
theorem fd_RunList_putLast_22 : am_fd mt_RunList_putLast.1 22 = (.getfield 31,3,8,0,5,5,.retAddr 0) := rfl
theorem fd_RunList_putLast_25 : am_fd mt_RunList_putLast.1 25 = (.iconst 1,1,0,0,0,0,.int 1) := rfl
theorem fd_RunList_putLast_26 : am_fd mt_RunList_putLast.1 26 = (.iadd,1,0,0,0,0,.retAddr 0) := rfl
theorem fd_RunList_putLast_27 : am_fd mt_RunList_putLast.1 27 = (.putfield 31,3,8,0,5,5,.retAddr 0) := rfl
theorem fd_RunList_putLast_30 : am_fd mt_RunList_putLast.1 30 = (.aload_n 0,1,0,0,0,0,.retAddr 0) := rfl
theorem fd_RunList_putLast_31 : am_fd mt_RunList_putLast.1 31 = (.dup,1,0,0,0,0,.retAddr 0) := rfl
theorem fd_RunList_putLast_32 : am_fd mt_RunList_putLast.1 32 = (.getfield 17,3,1,0,6,6,.retAddr 0) := rfl
theorem fd_RunList_putLast_35 : am_fd mt_RunList_putLast.1 35 = (.iconst 1,1,0,0,0,0,.int 1) := rfl
theorem fd_RunList_putLast_36 : am_fd mt_RunList_putLast.1 36 = (.iadd,1,0,0,0,0,.retAddr 0) := rfl
theorem fd_RunList_putLast_37 : am_fd mt_RunList_putLast.1 37 = (.putfield 17,3,1,0,6,6,.retAddr 0) := rfl
theorem fd_RunList_putLast_40 : am_fd mt_RunList_putLast.1 40 = (.return_,1,0,0,0,0,.retAddr 0) := rfl
theorem fd_SR_release_0 : am_fd mt_SR_release.1 0 = (.aload_n 0,1,0,0,0,0,.retAddr 0) := rfl
theorem fd_SR_release_1 : am_fd mt_SR_release.1 1 = (.iload_n 1,1,1,0,0,0,.retAddr 0) := rfl
theorem fd_SR_release_2 : am_fd mt_SR_release.1 2 = (.invokevirtual 326,3,99,2,1,0,.retAddr 0) := rfl
theorem fd_SR_release_5 : am_fd mt_SR_release.1 5 = (.astore_n 2,1,2,0,0,0,.retAddr 0) := rfl
theorem fd_SR_release_6 : am_fd mt_SR_release.1 6 = (.aload_n 0,1,0,0,0,0,.retAddr 0) := rfl
theorem fd_SR_release_7 : am_fd mt_SR_release.1 7 = (.getfield 86,3,1,2,1,1,.retAddr 0) := rfl
theorem fd_SR_release_10 : am_fd mt_SR_release.1 10 = (.getfield 179,3,4,0,9,9,.retAddr 0) := rfl
theorem fd_SR_release_13 : am_fd mt_SR_release.1 13 = (.istore_n 3,1,3,0,0,0,.retAddr 0) := rfl
theorem fd_SR_release_14 : am_fd mt_SR_release.1 14 = (.iconst 0,1,0,0,0,0,.int 0) := rfl
theorem fd_SR_release_15 : am_fd mt_SR_release.1 15 = (.istore 4,2,4,0,0,0,.retAddr 0) := rfl
theorem fd_SR_release_17 : am_fd mt_SR_release.1 17 = (.iload 4,2,4,0,0,0,.retAddr 0) := rfl
theorem fd_SR_release_19 : am_fd mt_SR_release.1 19 = (.aload_n 2,1,2,0,0,0,.retAddr 0) := rfl
theorem fd_SR_release_20 : am_fd mt_SR_release.1 20 = (.getfield 243,3,1,0,6,6,.retAddr 0) := rfl
theorem fd_SR_release_23 : am_fd mt_SR_release.1 23 = (.if_icmp .ge 27,3,50,0,0,0,.retAddr 0) := rfl
theorem fd_SR_release_26 : am_fd mt_SR_release.1 26 = (.iload 4,2,4,0,0,0,.retAddr 0) := rfl
theorem fd_SR_release_28 : am_fd mt_SR_release.1 28 = (.bipush 9,2,0,0,0,0,.int 9) := rfl
theorem fd_SR_release_30 : am_fd mt_SR_release.1 30 = (.if_icmp .ge 20,3,50,0,0,0,.retAddr 0) := rfl
theorem fd_SR_release_33 : am_fd mt_SR_release.1 33 = (.aload_n 0,1,0,0,0,0,.retAddr 0) := rfl
theorem fd_SR_release_34 : am_fd mt_SR_release.1 34 = (.aload_n 2,1,2,0,0,0,.retAddr 0) := rfl
theorem fd_SR_release_35 : am_fd mt_SR_release.1 35 = (.getfield 167,3,0,2,6,6,.retAddr 0) := rfl
theorem fd_SR_release_38 : am_fd mt_SR_release.1 38 = (.iload 4,2,4,0,0,0,.retAddr 0) := rfl
theorem fd_SR_release_40 : am_fd mt_SR_release.1 40 = (.aaload,1,0,0,0,0,.retAddr 0) := rfl
theorem fd_SR_release_41 : am_fd mt_SR_release.1 41 = (.invokevirtual 212,3,83,2,1,0,.retAddr 0) := rfl
theorem fd_SR_release_44 : am_fd mt_SR_release.1 44 = (.iinc 4 1,3,4,0,0,0,.int 1) := rfl
theorem fd_SR_release_47 : am_fd mt_SR_release.1 47 = (.goto (-30),3,17,0,0,0,.retAddr 0) := rfl
theorem fd_SR_release_50 : am_fd mt_SR_release.1 50 = (.aload_n 2,1,2,0,0,0,.retAddr 0) := rfl
theorem fd_SR_release_51 : am_fd mt_SR_release.1 51 = (.invokevirtual 330,3,29,1,6,0,.retAddr 0) := rfl
theorem fd_SR_release_54 : am_fd mt_SR_release.1 54 = (.aload_n 0,1,0,0,0,0,.retAddr 0) := rfl
theorem fd_SR_release_55 : am_fd mt_SR_release.1 55 = (.getfield 86,3,1,2,1,1,.retAddr 0) := rfl
theorem fd_SR_release_58 : am_fd mt_SR_release.1 58 = (.getfield 179,3,4,0,9,9,.retAddr 0) := rfl
theorem fd_SR_release_61 : am_fd mt_SR_release.1 61 = (.iload_n 3,1,3,0,0,0,.retAddr 0) := rfl
theorem fd_SR_release_62 : am_fd mt_SR_release.1 62 = (.isub,1,0,0,0,0,.retAddr 0) := rfl
theorem fd_SR_release_63 : am_fd mt_SR_release.1 63 = (.ireturn,1,0,0,0,0,.retAddr 0) := rfl
theorem fd_SR_runsOfMark_0 : am_fd mt_SR_runsOfMark.1 0 = (.aload_n 0,1,0,0,0,0,.retAddr 0) := rfl
theorem fd_SR_runsOfMark_1 : am_fd mt_SR_runsOfMark.1 1 = (.invokevirtual 125,3,34,1,1,0,.retAddr 0) := rfl
theorem fd_SR_runsOfMark_4 : am_fd mt_SR_runsOfMark.1 4 = (.iload_n 1,1,1,0,0,0,.retAddr 0) := rfl
theorem fd_SR_runsOfMark_5 : am_fd mt_SR_runsOfMark.1 5 = (.ifCond .lt 21,3,26,0,0,0,.retAddr 0) := rfl
theorem fd_SR_runsOfMark_8 : am_fd mt_SR_runsOfMark.1 8 = (.iload_n 1,1,1,0,0,0,.retAddr 0) := rfl
theorem fd_SR_runsOfMark_9 : am_fd mt_SR_runsOfMark.1 9 = (.bipush 8,2,0,0,0,0,.int 8) := rfl
theorem fd_SR_runsOfMark_11 : am_fd mt_SR_runsOfMark.1 11 = (.if_icmp .ge 15,3,26,0,0,0,.retAddr 0) := rfl
theorem fd_SR_runsOfMark_14 : am_fd mt_SR_runsOfMark.1 14 = (.aload_n 0,1,0,0,0,0,.retAddr 0) := rfl
theorem fd_SR_runsOfMark_15 : am_fd mt_SR_runsOfMark.1 15 = (.getfield 23,3,4,2,1,1,.retAddr 0) := rfl
theorem fd_SR_runsOfMark_18 : am_fd mt_SR_runsOfMark.1 18 = (.iload_n 1,1,1,0,0,0,.retAddr 0) := rfl
theorem fd_SR_runsOfMark_19 : am_fd mt_SR_runsOfMark.1 19 = (.aaload,1,0,0,0,0,.retAddr 0) := rfl
theorem fd_SR_runsOfMark_20 : am_fd mt_SR_runsOfMark.1 20 = (.getfield 323,3,2,0,6,6,.retAddr 0) := rfl
theorem fd_SR_runsOfMark_23 : am_fd mt_SR_runsOfMark.1 23 = (.ifCond .ne 14,3,37,0,0,0,.retAddr 0) := rfl
theorem fd_SR_runsOfMark_26 : am_fd mt_SR_runsOfMark.1 26 = (.new 333,3,2,1,3,335,.ref 337) := rfl
theorem fd_SR_runsOfMark_37 : am_fd mt_SR_runsOfMark.1 37 = (.aload_n 0,1,0,0,0,0,.retAddr 0) := rfl
theorem fd_SR_runsOfMark_38 : am_fd mt_SR_runsOfMark.1 38 = (.getfield 23,3,4,2,1,1,.retAddr 0) := rfl
theorem fd_SR_runsOfMark_41 : am_fd mt_SR_runsOfMark.1 41 = (.iload_n 1,1,1,0,0,0,.retAddr 0) := rfl
theorem fd_SR_runsOfMark_42 : am_fd mt_SR_runsOfMark.1 42 = (.aaload,1,0,0,0,0,.retAddr 0) := rfl
theorem fd_SR_runsOfMark_43 : am_fd mt_SR_runsOfMark.1 43 = (.areturn,1,0,0,0,0,.retAddr 0) := rfl
theorem fd_SR_get_0 : am_fd mt_SR_get.1 0 = (.aload_n 0,1,0,0,0,0,.retAddr 0) := rfl
theorem fd_SR_get_1 : am_fd mt_SR_get.1 1 = (.iload_n 1,1,1,0,0,0,.retAddr 0) := rfl
theorem fd_SR_get_2 : am_fd mt_SR_get.1 2 = (.invokevirtual 338,3,101,2,1,0,.retAddr 0) := rfl
theorem fd_SR_get_5 : am_fd mt_SR_get.1 5 = (.astore 4,2,4,0,0,0,.retAddr 0) := rfl
theorem fd_SR_get_7 : am_fd mt_SR_get.1 7 = (.aload_n 0,1,0,0,0,0,.retAddr 0) := rfl
theorem fd_SR_get_8 : am_fd mt_SR_get.1 8 = (.getfield 30,3,7,2,1,1,.retAddr 0) := rfl
theorem fd_SR_get_11 : am_fd mt_SR_get.1 11 = (.iconst 0,1,0,0,0,0,.int 0) := rfl
theorem fd_SR_get_12 : am_fd mt_SR_get.1 12 = (.lconst 0,1,0,0,0,0,.long 0) := rfl
theorem fd_SR_get_13 : am_fd mt_SR_get.1 13 = (.invokevirtual 341,3,39,3,3,0,.retAddr 0) := rfl
theorem fd_SR_get_16 : am_fd mt_SR_get.1 16 = (.iload_n 1,1,1,0,0,0,.retAddr 0) := rfl
theorem fd_SR_get_17 : am_fd mt_SR_get.1 17 = (.iconst (-1),1,0,0,0,0,.int (-1)) := rfl
theorem fd_SR_get_18 : am_fd mt_SR_get.1 18 = (.if_icmp .ne 15,3,33,0,0,0,.retAddr 0) := rfl
theorem fd_SR_get_21 : am_fd mt_SR_get.1 21 = (.aload_n 0,1,0,0,0,0,.retAddr 0) := rfl
theorem fd_SR_get_22 : am_fd mt_SR_get.1 22 = (.getfield 10,3,2,2,1,1,.retAddr 0) := rfl
theorem fd_SR_get_25 : am_fd mt_SR_get.1 25 = (.lload_n 2,1,2,0,0,0,.retAddr 0) := rfl
theorem fd_SR_get_26 : am_fd mt_SR_get.1 26 = (.aload_n 0,1,0,0,0,0,.retAddr 0) := rfl
theorem fd_SR_get_27 : am_fd mt_SR_get.1 27 = (.getfield 30,3,7,2,1,1,.retAddr 0) := rfl
theorem fd_SR_get_30 : am_fd mt_SR_get.1 30 = (.invokevirtual 344,3,102,3,10,0,.retAddr 0) := rfl
theorem fd_SR_get_33 : am_fd mt_SR_get.1 33 = (.aload_n 0,1,0,0,0,0,.retAddr 0) := rfl
theorem fd_SR_get_34 : am_fd mt_SR_get.1 34 = (.aload 4,2,4,0,0,0,.retAddr 0) := rfl
theorem fd_SR_get_36 : am_fd mt_SR_get.1 36 = (.lload_n 2,1,2,0,0,0,.retAddr 0) := rfl
theorem fd_SR_get_37 : am_fd mt_SR_get.1 37 = (.invokevirtual 347,3,103,3,1,0,.retAddr 0) := rfl
theorem fd_SR_get_40 : am_fd mt_SR_get.1 40 = (.ifCond .ne 10,3,50,0,0,0,.retAddr 0) := rfl
theorem fd_SR_get_43 : am_fd mt_SR_get.1 43 = (.aload_n 0,1,0,0,0,0,.retAddr 0) := rfl
theorem fd_SR_get_44 : am_fd mt_SR_get.1 44 = (.iconst 3,1,0,0,0,0,.int 3) := rfl
theorem fd_SR_get_45 : am_fd mt_SR_get.1 45 = (.putfield 58,3,14,0,1,1,.retAddr 0) := rfl
theorem fd_SR_get_48 : am_fd mt_SR_get.1 48 = (.lconst 0,1,0,0,0,0,.long 0) := rfl
theorem fd_SR_get_49 : am_fd mt_SR_get.1 49 = (.lreturn,1,0,0,0,0,.retAddr 0) := rfl
theorem fd_SR_get_50 : am_fd mt_SR_get.1 50 = (.aload_n 0,1,0,0,0,0,.retAddr 0) := rfl
theorem fd_SR_get_51 : am_fd mt_SR_get.1 51 = (.aload_n 0,1,0,0,0,0,.retAddr 0) := rfl
theorem fd_SR_get_52 : am_fd mt_SR_get.1 52 = (.getfield 30,3,7,2,1,1,.retAddr 0) := rfl
theorem fd_SR_get_55 : am_fd mt_SR_get.1 55 = (.getfield 351,3,0,0,3,3,.retAddr 0) := rfl
theorem fd_SR_get_58 : am_fd mt_SR_get.1 58 = (.ifCond .ne 7,3,65,0,0,0,.retAddr 0) := rfl
theorem fd_SR_get_61 : am_fd mt_SR_get.1 61 = (.iconst 0,1,0,0,0,0,.int 0) := rfl
theorem fd_SR_get_62 : am_fd mt_SR_get.1 62 = (.goto 19,3,81,0,0,0,.retAddr 0) := rfl
theorem fd_SR_get_65 : am_fd mt_SR_get.1 65 = (.aload_n 0,1,0,0,0,0,.retAddr 0) := rfl
theorem fd_SR_get_66 : am_fd mt_SR_get.1 66 = (.getfield 30,3,7,2,1,1,.retAddr 0) := rfl
theorem fd_SR_get_69 : am_fd mt_SR_get.1 69 = (.getfield 351,3,0,0,3,3,.retAddr 0) := rfl
theorem fd_SR_get_72 : am_fd mt_SR_get.1 72 = (.iconst 2,1,0,0,0,0,.int 2) := rfl
theorem fd_SR_get_73 : am_fd mt_SR_get.1 73 = (.if_icmp .ne 7,3,80,0,0,0,.retAddr 0) := rfl
theorem fd_SR_get_76 : am_fd mt_SR_get.1 76 = (.iconst 2,1,0,0,0,0,.int 2) := rfl
theorem fd_SR_get_77 : am_fd mt_SR_get.1 77 = (.goto 4,3,81,0,0,0,.retAddr 0) := rfl
theorem fd_SR_get_80 : am_fd mt_SR_get.1 80 = (.iconst 1,1,0,0,0,0,.int 1) := rfl
theorem fd_SR_get_81 : am_fd mt_SR_get.1 81 = (.putfield 58,3,14,0,1,1,.retAddr 0) := rfl
theorem fd_SR_get_84 : am_fd mt_SR_get.1 84 = (.aload_n 0,1,0,0,0,0,.retAddr 0) := rfl
theorem fd_SR_get_85 : am_fd mt_SR_get.1 85 = (.getfield 58,3,14,0,1,1,.retAddr 0) := rfl
theorem fd_SR_get_88 : am_fd mt_SR_get.1 88 = (.iconst 1,1,0,0,0,0,.int 1) := rfl
theorem fd_SR_get_89 : am_fd mt_SR_get.1 89 = (.if_icmp .ne 13,3,102,0,0,0,.retAddr 0) := rfl
theorem fd_SR_get_92 : am_fd mt_SR_get.1 92 = (.aload_n 0,1,0,0,0,0,.retAddr 0) := rfl
theorem fd_SR_get_93 : am_fd mt_SR_get.1 93 = (.getfield 30,3,7,2,1,1,.retAddr 0) := rfl
theorem fd_SR_get_96 : am_fd mt_SR_get.1 96 = (.getfield 354,3,1,1,3,3,.retAddr 0) := rfl
theorem fd_SR_get_99 : am_fd mt_SR_get.1 99 = (.goto 4,3,103,0,0,0,.retAddr 0) := rfl
theorem fd_SR_get_102 : am_fd mt_SR_get.1 102 = (.lconst 0,1,0,0,0,0,.long 0) := rfl
theorem fd_SR_get_103 : am_fd mt_SR_get.1 103 = (.lreturn,1,0,0,0,0,.retAddr 0) := rfl
theorem fd_SR_runsOf_0 : am_fd mt_SR_runsOf.1 0 = (.aload_n 0,1,0,0,0,0,.retAddr 0) := rfl
theorem fd_SR_runsOf_1 : am_fd mt_SR_runsOf.1 1 = (.invokevirtual 125,3,34,1,1,0,.retAddr 0) := rfl
theorem fd_SR_runsOf_4 : am_fd mt_SR_runsOf.1 4 = (.iload_n 1,1,1,0,0,0,.retAddr 0) := rfl
theorem fd_SR_runsOf_5 : am_fd mt_SR_runsOf.1 5 = (.iconst (-1),1,0,0,0,0,.int (-1)) := rfl
theorem fd_SR_runsOf_6 : am_fd mt_SR_runsOf.1 6 = (.if_icmp .ne 10,3,16,0,0,0,.retAddr 0) := rfl
theorem fd_SR_runsOf_9 : am_fd mt_SR_runsOf.1 9 = (.aload_n 0,1,0,0,0,0,.retAddr 0) := rfl
theorem fd_SR_runsOf_10 : am_fd mt_SR_runsOf.1 10 = (.getfield 19,3,3,2,1,1,.retAddr 0) := rfl
theorem fd_SR_runsOf_13 : am_fd mt_SR_runsOf.1 13 = (.goto 8,3,21,0,0,0,.retAddr 0) := rfl
theorem fd_SR_runsOf_16 : am_fd mt_SR_runsOf.1 16 = (.aload_n 0,1,0,0,0,0,.retAddr 0) := rfl
theorem fd_SR_runsOf_17 : am_fd mt_SR_runsOf.1 17 = (.iload_n 1,1,1,0,0,0,.retAddr 0) := rfl
theorem fd_SR_runsOf_18 : am_fd mt_SR_runsOf.1 18 = (.invokevirtual 326,3,99,2,1,0,.retAddr 0) := rfl
theorem fd_SR_runsOf_21 : am_fd mt_SR_runsOf.1 21 = (.areturn,1,0,0,0,0,.retAddr 0) := rfl
theorem fd_Table_lookUp_0 : am_fd mt_Table_lookUp.1 0 = (.aload_n 0,1,0,0,0,0,.retAddr 0) := rfl
theorem fd_Table_lookUp_1 : am_fd mt_Table_lookUp.1 1 = (.lload_n 1,1,1,0,0,0,.retAddr 0) := rfl
theorem fd_Table_lookUp_2 : am_fd mt_Table_lookUp.1 2 = (.invokevirtual 33,3,36,2,10,0,.retAddr 0) := rfl
theorem fd_Table_lookUp_5 : am_fd mt_Table_lookUp.1 5 = (.istore 4,2,4,0,0,0,.retAddr 0) := rfl
theorem fd_Table_lookUp_7 : am_fd mt_Table_lookUp.1 7 = (.aload_n 0,1,0,0,0,0,.retAddr 0) := rfl
theorem fd_Table_lookUp_8 : am_fd mt_Table_lookUp.1 8 = (.iload 4,2,4,0,0,0,.retAddr 0) := rfl
theorem fd_Table_lookUp_10 : am_fd mt_Table_lookUp.1 10 = (.lload_n 1,1,1,0,0,0,.retAddr 0) := rfl
theorem fd_Table_lookUp_11 : am_fd mt_Table_lookUp.1 11 = (.invokevirtual 37,3,37,3,10,0,.retAddr 0) := rfl
theorem fd_Table_lookUp_14 : am_fd mt_Table_lookUp.1 14 = (.ifCond .eq 21,3,35,0,0,0,.retAddr 0) := rfl
theorem fd_Table_lookUp_17 : am_fd mt_Table_lookUp.1 17 = (.aload_n 3,1,3,0,0,0,.retAddr 0) := rfl
theorem fd_Table_lookUp_18 : am_fd mt_Table_lookUp.1 18 = (.aload_n 0,1,0,0,0,0,.retAddr 0) := rfl
theorem fd_Table_lookUp_19 : am_fd mt_Table_lookUp.1 19 = (.getfield 15,3,1,2,10,10,.retAddr 0) := rfl
theorem fd_Table_lookUp_22 : am_fd mt_Table_lookUp.1 22 = (.iload 4,2,4,0,0,0,.retAddr 0) := rfl
theorem fd_Table_lookUp_24 : am_fd mt_Table_lookUp.1 24 = (.iaload,1,0,0,0,0,.retAddr 0) := rfl
theorem fd_Table_lookUp_25 : am_fd mt_Table_lookUp.1 25 = (.aload_n 0,1,0,0,0,0,.retAddr 0) := rfl
theorem fd_Table_lookUp_26 : am_fd mt_Table_lookUp.1 26 = (.getfield 19,3,2,2,10,10,.retAddr 0) := rfl
theorem fd_Table_lookUp_29 : am_fd mt_Table_lookUp.1 29 = (.iload 4,2,4,0,0,0,.retAddr 0) := rfl
theorem fd_Table_lookUp_31 : am_fd mt_Table_lookUp.1 31 = (.laload,1,0,0,0,0,.retAddr 0) := rfl
theorem fd_Table_lookUp_32 : am_fd mt_Table_lookUp.1 32 = (.invokevirtual 45,3,40,3,3,0,.retAddr 0) := rfl
theorem fd_Table_lookUp_35 : am_fd mt_Table_lookUp.1 35 = (.return_,1,0,0,0,0,.retAddr 0) := rfl
theorem fd_SR_lookThrough_0 : am_fd mt_SR_lookThrough.1 0 = (.iconst 0,1,0,0,0,0,.int 0) := rfl
theorem fd_SR_lookThrough_1 : am_fd mt_SR_lookThrough.1 1 = (.istore 4,2,4,0,0,0,.retAddr 0) := rfl
theorem fd_SR_lookThrough_3 : am_fd mt_SR_lookThrough.1 3 = (.iload 4,2,4,0,0,0,.retAddr 0) := rfl
theorem fd_SR_lookThrough_5 : am_fd mt_SR_lookThrough.1 5 = (.aload_n 1,1,1,0,0,0,.retAddr 0) := rfl
theorem fd_SR_lookThrough_6 : am_fd mt_SR_lookThrough.1 6 = (.getfield 243,3,1,0,6,6,.retAddr 0) := rfl
theorem fd_SR_lookThrough_9 : am_fd mt_SR_lookThrough.1 9 = (.if_icmp .ge 104,3,113,0,0,0,.retAddr 0) := rfl
theorem fd_SR_lookThrough_12 : am_fd mt_SR_lookThrough.1 12 = (.iload 4,2,4,0,0,0,.retAddr 0) := rfl
theorem fd_SR_lookThrough_14 : am_fd mt_SR_lookThrough.1 14 = (.bipush 9,2,0,0,0,0,.int 9) := rfl
theorem fd_SR_lookThrough_16 : am_fd mt_SR_lookThrough.1 16 = (.if_icmp .ge 97,3,113,0,0,0,.retAddr 0) := rfl
theorem fd_SR_lookThrough_19 : am_fd mt_SR_lookThrough.1 19 = (.aload_n 0,1,0,0,0,0,.retAddr 0) := rfl
theorem fd_SR_lookThrough_20 : am_fd mt_SR_lookThrough.1 20 = (.getfield 30,3,7,2,1,1,.retAddr 0) := rfl
theorem fd_SR_lookThrough_23 : am_fd mt_SR_lookThrough.1 23 = (.invokevirtual 357,3,104,1,3,0,.retAddr 0) := rfl
theorem fd_SR_lookThrough_26 : am_fd mt_SR_lookThrough.1 26 = (.ifCond .eq 87,3,113,0,0,0,.retAddr 0) := rfl
theorem fd_SR_lookThrough_29 : am_fd mt_SR_lookThrough.1 29 = (.aload_n 1,1,1,0,0,0,.retAddr 0) := rfl
theorem fd_SR_lookThrough_30 : am_fd mt_SR_lookThrough.1 30 = (.getfield 167,3,0,2,6,6,.retAddr 0) := rfl
theorem fd_SR_lookThrough_33 : am_fd mt_SR_lookThrough.1 33 = (.iload 4,2,4,0,0,0,.retAddr 0) := rfl
theorem fd_SR_lookThrough_35 : am_fd mt_SR_lookThrough.1 35 = (.aaload,1,0,0,0,0,.retAddr 0) := rfl
theorem fd_SR_lookThrough_36 : am_fd mt_SR_lookThrough.1 36 = (.astore 5,2,5,0,0,0,.retAddr 0) := rfl
theorem fd_SR_lookThrough_38 : am_fd mt_SR_lookThrough.1 38 = (.aload 5,2,5,0,0,0,.retAddr 0) := rfl
theorem fd_SR_lookThrough_40 : am_fd mt_SR_lookThrough.1 40 = (.lload_n 2,1,2,0,0,0,.retAddr 0) := rfl
theorem fd_SR_lookThrough_41 : am_fd mt_SR_lookThrough.1 41 = (.invokevirtual 360,3,105,2,5,0,.retAddr 0) := rfl
theorem fd_SR_lookThrough_44 : am_fd mt_SR_lookThrough.1 44 = (.ifCond .eq 63,3,107,0,0,0,.retAddr 0) := rfl
theorem fd_SR_lookThrough_47 : am_fd mt_SR_lookThrough.1 47 = (.aload 5,2,5,0,0,0,.retAddr 0) := rfl
theorem fd_SR_lookThrough_49 : am_fd mt_SR_lookThrough.1 49 = (.lload_n 2,1,2,0,0,0,.retAddr 0) := rfl
theorem fd_SR_lookThrough_50 : am_fd mt_SR_lookThrough.1 50 = (.invokevirtual 363,3,106,2,5,0,.retAddr 0) := rfl
theorem fd_SR_lookThrough_53 : am_fd mt_SR_lookThrough.1 53 = (.ifCond .eq 6,3,59,0,0,0,.retAddr 0) := rfl
theorem fd_SR_lookThrough_56 : am_fd mt_SR_lookThrough.1 56 = (.goto 51,3,107,0,0,0,.retAddr 0) := rfl
theorem fd_SR_lookThrough_59 : am_fd mt_SR_lookThrough.1 59 = (.aload_n 0,1,0,0,0,0,.retAddr 0) := rfl
theorem fd_SR_lookThrough_60 : am_fd mt_SR_lookThrough.1 60 = (.getfield 104,3,6,2,1,1,.retAddr 0) := rfl
theorem fd_SR_lookThrough_63 : am_fd mt_SR_lookThrough.1 63 = (.aload 5,2,5,0,0,0,.retAddr 0) := rfl
theorem fd_SR_lookThrough_65 : am_fd mt_SR_lookThrough.1 65 = (.lload_n 2,1,2,0,0,0,.retAddr 0) := rfl
theorem fd_SR_lookThrough_66 : am_fd mt_SR_lookThrough.1 66 = (.invokevirtual 366,3,53,3,7,0,.retAddr 0) := rfl
theorem fd_SR_lookThrough_69 : am_fd mt_SR_lookThrough.1 69 = (.aload_n 0,1,0,0,0,0,.retAddr 0) := rfl
theorem fd_SR_lookThrough_70 : am_fd mt_SR_lookThrough.1 70 = (.getfield 79,3,0,2,1,1,.retAddr 0) := rfl
theorem fd_SR_lookThrough_73 : am_fd mt_SR_lookThrough.1 73 = (.aload_n 0,1,0,0,0,0,.retAddr 0) := rfl
theorem fd_SR_lookThrough_74 : am_fd mt_SR_lookThrough.1 74 = (.getfield 104,3,6,2,1,1,.retAddr 0) := rfl
theorem fd_SR_lookThrough_77 : am_fd mt_SR_lookThrough.1 77 = (.getfield 369,3,6,0,7,7,.retAddr 0) := rfl
theorem fd_SR_lookThrough_80 : am_fd mt_SR_lookThrough.1 80 = (.invokevirtual 230,3,49,2,4,0,.retAddr 0) := rfl
theorem fd_SR_lookThrough_83 : am_fd mt_SR_lookThrough.1 83 = (.ifCond .ne 5,3,88,0,0,0,.retAddr 0) := rfl
theorem fd_SR_lookThrough_86 : am_fd mt_SR_lookThrough.1 86 = (.iconst 0,1,0,0,0,0,.int 0) := rfl
theorem fd_SR_lookThrough_87 : am_fd mt_SR_lookThrough.1 87 = (.ireturn,1,1,0,0,0,.retAddr 0) := rfl
theorem fd_SR_lookThrough_88 : am_fd mt_SR_lookThrough.1 88 = (.aload_n 0,1,0,0,0,0,.retAddr 0) := rfl
theorem fd_SR_lookThrough_89 : am_fd mt_SR_lookThrough.1 89 = (.getfield 104,3,6,2,1,1,.retAddr 0) := rfl
theorem fd_SR_lookThrough_92 : am_fd mt_SR_lookThrough.1 92 = (.aload_n 0,1,0,0,0,0,.retAddr 0) := rfl
theorem fd_SR_lookThrough_93 : am_fd mt_SR_lookThrough.1 93 = (.getfield 104,3,6,2,1,1,.retAddr 0) := rfl
theorem fd_SR_lookThrough_96 : am_fd mt_SR_lookThrough.1 96 = (.getfield 369,3,6,0,7,7,.retAddr 0) := rfl
theorem fd_SR_lookThrough_99 : am_fd mt_SR_lookThrough.1 99 = (.invokevirtual 372,3,108,2,7,0,.retAddr 0) := rfl
theorem fd_SR_lookThrough_102 : am_fd mt_SR_lookThrough.1 102 = (.aload_n 0,1,0,0,0,0,.retAddr 0) := rfl
theorem fd_SR_lookThrough_103 : am_fd mt_SR_lookThrough.1 103 = (.lload_n 2,1,2,0,0,0,.retAddr 0) := rfl
theorem fd_SR_lookThrough_104 : am_fd mt_SR_lookThrough.1 104 = (.invokevirtual 375,3,109,2,1,0,.retAddr 0) := rfl
theorem fd_SR_lookThrough_107 : am_fd mt_SR_lookThrough.1 107 = (.iinc 4 1,3,4,0,0,0,.int 1) := rfl
theorem fd_SR_lookThrough_110 : am_fd mt_SR_lookThrough.1 110 = (.goto (-107),3,3,0,0,0,.retAddr 0) := rfl
theorem fd_SR_lookThrough_113 : am_fd mt_SR_lookThrough.1 113 = (.iconst 1,1,0,0,0,0,.int 1) := rfl
theorem fd_SR_lookThrough_114 : am_fd mt_SR_lookThrough.1 114 = (.ireturn,1,1,0,0,0,.retAddr 0) := rfl
theorem fd_Fate_wantsOlder_0 : am_fd mt_Fate_wantsOlder.1 0 = (.aload_n 0,1,0,0,0,0,.retAddr 0) := rfl
theorem fd_Fate_wantsOlder_1 : am_fd mt_Fate_wantsOlder.1 1 = (.getfield 9,3,0,0,3,3,.retAddr 0) := rfl
theorem fd_Fate_wantsOlder_4 : am_fd mt_Fate_wantsOlder.1 4 = (.ifCond .eq 11,3,15,0,0,0,.retAddr 0) := rfl
theorem fd_Fate_wantsOlder_7 : am_fd mt_Fate_wantsOlder.1 7 = (.aload_n 0,1,0,0,0,0,.retAddr 0) := rfl
theorem fd_Fate_wantsOlder_8 : am_fd mt_Fate_wantsOlder.1 8 = (.getfield 9,3,0,0,3,3,.retAddr 0) := rfl
theorem fd_Fate_wantsOlder_11 : am_fd mt_Fate_wantsOlder.1 11 = (.iconst 3,1,0,0,0,0,.int 3) := rfl
theorem fd_Fate_wantsOlder_12 : am_fd mt_Fate_wantsOlder.1 12 = (.if_icmp .ne 7,3,19,0,0,0,.retAddr 0) := rfl
theorem fd_Fate_wantsOlder_15 : am_fd mt_Fate_wantsOlder.1 15 = (.iconst 1,1,0,0,0,0,.int 1) := rfl
theorem fd_Fate_wantsOlder_16 : am_fd mt_Fate_wantsOlder.1 16 = (.goto 4,3,20,0,0,0,.retAddr 0) := rfl
theorem fd_Fate_wantsOlder_19 : am_fd mt_Fate_wantsOlder.1 19 = (.iconst 0,1,0,0,0,0,.int 0) := rfl
theorem fd_Fate_wantsOlder_20 : am_fd mt_Fate_wantsOlder.1 20 = (.ireturn,1,1,0,0,0,.retAddr 0) := rfl
theorem fd_Run_spans_0 : am_fd mt_Run_spans.1 0 = (.aload_n 0,1,0,0,0,0,.retAddr 0) := rfl
theorem fd_Run_spans_1 : am_fd mt_Run_spans.1 1 = (.getfield 20,3,5,0,5,5,.retAddr 0) := rfl
theorem fd_Run_spans_4 : am_fd mt_Run_spans.1 4 = (.ifCond .le 25,3,29,0,0,0,.retAddr 0) := rfl
theorem fd_Run_spans_7 : am_fd mt_Run_spans.1 7 = (.aload_n 0,1,0,0,0,0,.retAddr 0) := rfl
theorem fd_Run_spans_8 : am_fd mt_Run_spans.1 8 = (.getfield 23,3,6,1,5,5,.retAddr 0) := rfl
theorem fd_Run_spans_11 : am_fd mt_Run_spans.1 11 = (.lload_n 1,1,1,0,0,0,.retAddr 0) := rfl
theorem fd_Run_spans_12 : am_fd mt_Run_spans.1 12 = (.lcmp,1,0,0,0,0,.retAddr 0) := rfl
theorem fd_Run_spans_13 : am_fd mt_Run_spans.1 13 = (.ifCond .gt 16,3,29,0,0,0,.retAddr 0) := rfl
theorem fd_Run_spans_16 : am_fd mt_Run_spans.1 16 = (.lload_n 1,1,1,0,0,0,.retAddr 0) := rfl
theorem fd_Run_spans_17 : am_fd mt_Run_spans.1 17 = (.aload_n 0,1,0,0,0,0,.retAddr 0) := rfl
theorem fd_Run_spans_18 : am_fd mt_Run_spans.1 18 = (.getfield 27,3,7,1,5,5,.retAddr 0) := rfl
theorem fd_Run_spans_21 : am_fd mt_Run_spans.1 21 = (.lcmp,1,0,0,0,0,.retAddr 0) := rfl
theorem fd_Run_spans_22 : am_fd mt_Run_spans.1 22 = (.ifCond .gt 7,3,29,0,0,0,.retAddr 0) := rfl
theorem fd_Run_spans_25 : am_fd mt_Run_spans.1 25 = (.iconst 1,1,0,0,0,0,.int 1) := rfl
theorem fd_Run_spans_26 : am_fd mt_Run_spans.1 26 = (.goto 4,3,30,0,0,0,.retAddr 0) := rfl
theorem fd_Run_spans_29 : am_fd mt_Run_spans.1 29 = (.iconst 0,1,0,0,0,0,.int 0) := rfl
theorem fd_Run_spans_30 : am_fd mt_Run_spans.1 30 = (.ireturn,1,1,0,0,0,.retAddr 0) := rfl
theorem fd_Run_bars_0 : am_fd mt_Run_bars.1 0 = (.aload_n 0,1,0,0,0,0,.retAddr 0) := rfl
theorem fd_Run_bars_1 : am_fd mt_Run_bars.1 1 = (.lload_n 1,1,1,0,0,0,.retAddr 0) := rfl
theorem fd_Run_bars_2 : am_fd mt_Run_bars.1 2 = (.invokevirtual 39,3,81,2,5,0,.retAddr 0) := rfl
theorem fd_Run_bars_5 : am_fd mt_Run_bars.1 5 = (.lstore_n 3,1,3,0,0,0,.retAddr 0) := rfl
theorem fd_Run_bars_6 : am_fd mt_Run_bars.1 6 = (.aload_n 0,1,0,0,0,0,.retAddr 0) := rfl
theorem fd_Run_bars_7 : am_fd mt_Run_bars.1 7 = (.lload_n 3,1,3,0,0,0,.retAddr 0) := rfl
theorem fd_Run_bars_8 : am_fd mt_Run_bars.1 8 = (.bipush 55,2,0,0,0,0,.int 55) := rfl
theorem fd_Run_bars_10 : am_fd mt_Run_bars.1 10 = (.lushr,1,0,0,0,0,.retAddr 0) := rfl
theorem fd_Run_bars_11 : am_fd mt_Run_bars.1 11 = (.invokevirtual 47,3,107,2,5,0,.retAddr 0) := rfl
theorem fd_Run_bars_14 : am_fd mt_Run_bars.1 14 = (.ifCond .eq 25,3,39,0,0,0,.retAddr 0) := rfl
theorem fd_Run_bars_17 : am_fd mt_Run_bars.1 17 = (.aload_n 0,1,0,0,0,0,.retAddr 0) := rfl
theorem fd_Run_bars_18 : am_fd mt_Run_bars.1 18 = (.lload_n 3,1,3,0,0,0,.retAddr 0) := rfl
theorem fd_Run_bars_19 : am_fd mt_Run_bars.1 19 = (.bipush 46,2,0,0,0,0,.int 46) := rfl
theorem fd_Run_bars_21 : am_fd mt_Run_bars.1 21 = (.lushr,1,0,0,0,0,.retAddr 0) := rfl
theorem fd_Run_bars_22 : am_fd mt_Run_bars.1 22 = (.invokevirtual 47,3,107,2,5,0,.retAddr 0) := rfl
theorem fd_Run_bars_25 : am_fd mt_Run_bars.1 25 = (.ifCond .eq 14,3,39,0,0,0,.retAddr 0) := rfl
theorem fd_Run_bars_28 : am_fd mt_Run_bars.1 28 = (.aload_n 0,1,0,0,0,0,.retAddr 0) := rfl
theorem fd_Run_bars_29 : am_fd mt_Run_bars.1 29 = (.lload_n 3,1,3,0,0,0,.retAddr 0) := rfl
theorem fd_Run_bars_30 : am_fd mt_Run_bars.1 30 = (.bipush 37,2,0,0,0,0,.int 37) := rfl
theorem fd_Run_bars_32 : am_fd mt_Run_bars.1 32 = (.lushr,1,0,0,0,0,.retAddr 0) := rfl
theorem fd_Run_bars_33 : am_fd mt_Run_bars.1 33 = (.invokevirtual 47,3,107,2,5,0,.retAddr 0) := rfl
theorem fd_Run_bars_36 : am_fd mt_Run_bars.1 36 = (.ifCond .ne 7,3,43,0,0,0,.retAddr 0) := rfl
theorem fd_Run_bars_39 : am_fd mt_Run_bars.1 39 = (.iconst 1,1,0,0,0,0,.int 1) := rfl
theorem fd_Run_bars_40 : am_fd mt_Run_bars.1 40 = (.goto 4,3,44,0,0,0,.retAddr 0) := rfl
theorem fd_Run_bars_43 : am_fd mt_Run_bars.1 43 = (.iconst 0,1,0,0,0,0,.int 0) := rfl
theorem fd_Run_bars_44 : am_fd mt_Run_bars.1 44 = (.ireturn,1,1,0,0,0,.retAddr 0) := rfl
theorem fd_Run_hasBit_0 : am_fd mt_Run_hasBit.1 0 = (.aload_n 0,1,0,0,0,0,.retAddr 0) := rfl
theorem fd_Run_hasBit_1 : am_fd mt_Run_hasBit.1 1 = (.getfield 7,3,2,2,5,5,.retAddr 0) := rfl
theorem fd_Run_hasBit_4 : am_fd mt_Run_hasBit.1 4 = (.lload_n 1,1,1,0,0,0,.retAddr 0) := rfl
theorem fd_Run_hasBit_5 : am_fd mt_Run_hasBit.1 5 = (.bipush 6,2,0,0,0,0,.int 6) := rfl
theorem fd_Run_hasBit_7 : am_fd mt_Run_hasBit.1 7 = (.lushr,1,0,0,0,0,.retAddr 0) := rfl
theorem fd_Run_hasBit_8 : am_fd mt_Run_hasBit.1 8 = (.l2i,1,0,0,0,0,.retAddr 0) := rfl
theorem fd_Run_hasBit_9 : am_fd mt_Run_hasBit.1 9 = (.bipush 7,2,0,0,0,0,.int 7) := rfl
theorem fd_Run_hasBit_11 : am_fd mt_Run_hasBit.1 11 = (.iand,1,0,0,0,0,.retAddr 0) := rfl
theorem fd_Run_hasBit_12 : am_fd mt_Run_hasBit.1 12 = (.laload,1,0,0,0,0,.retAddr 0) := rfl
theorem fd_Run_hasBit_13 : am_fd mt_Run_hasBit.1 13 = (.lload_n 1,1,1,0,0,0,.retAddr 0) := rfl
theorem fd_Run_hasBit_14 : am_fd mt_Run_hasBit.1 14 = (.ldc2_w 55,3,0,0,0,0,.long 63) := rfl
theorem fd_Run_hasBit_17 : am_fd mt_Run_hasBit.1 17 = (.land,1,0,0,0,0,.retAddr 0) := rfl
theorem fd_Run_hasBit_18 : am_fd mt_Run_hasBit.1 18 = (.l2i,1,0,0,0,0,.retAddr 0) := rfl
theorem fd_Run_hasBit_19 : am_fd mt_Run_hasBit.1 19 = (.lushr,1,0,0,0,0,.retAddr 0) := rfl
theorem fd_Run_hasBit_20 : am_fd mt_Run_hasBit.1 20 = (.lconst 1,1,0,0,0,0,.long 1) := rfl
theorem fd_Run_hasBit_21 : am_fd mt_Run_hasBit.1 21 = (.land,1,0,0,0,0,.retAddr 0) := rfl
theorem fd_Run_hasBit_22 : am_fd mt_Run_hasBit.1 22 = (.lconst 0,1,0,0,0,0,.long 0) := rfl
theorem fd_Run_hasBit_23 : am_fd mt_Run_hasBit.1 23 = (.lcmp,1,0,0,0,0,.retAddr 0) := rfl
theorem fd_Run_hasBit_24 : am_fd mt_Run_hasBit.1 24 = (.ifCond .eq 7,3,31,0,0,0,.retAddr 0) := rfl
theorem fd_Run_hasBit_27 : am_fd mt_Run_hasBit.1 27 = (.iconst 1,1,0,0,0,0,.int 1) := rfl
theorem fd_Run_hasBit_28 : am_fd mt_Run_hasBit.1 28 = (.goto 4,3,32,0,0,0,.retAddr 0) := rfl
theorem fd_Run_hasBit_31 : am_fd mt_Run_hasBit.1 31 = (.iconst 0,1,0,0,0,0,.int 0) := rfl
theorem fd_Run_hasBit_32 : am_fd mt_Run_hasBit.1 32 = (.ireturn,1,1,0,0,0,.retAddr 0) := rfl
theorem fd_RunStream_startPage_0 : am_fd mt_RunStream_startPage.1 0 = (.aload_n 0,1,0,0,0,0,.retAddr 0) := rfl
theorem fd_RunStream_startPage_1 : am_fd mt_RunStream_startPage.1 1 = (.iload_n 1,1,1,0,0,0,.retAddr 0) := rfl
theorem fd_RunStream_startPage_2 : am_fd mt_RunStream_startPage.1 2 = (.putfield 9,3,6,0,7,7,.retAddr 0) := rfl
theorem fd_RunStream_startPage_5 : am_fd mt_RunStream_startPage.1 5 = (.aload_n 0,1,0,0,0,0,.retAddr 0) := rfl
theorem fd_RunStream_startPage_6 : am_fd mt_RunStream_startPage.1 6 = (.iconst 1,1,0,0,0,0,.int 1) := rfl
theorem fd_RunStream_startPage_7 : am_fd mt_RunStream_startPage.1 7 = (.putfield 15,3,7,0,7,7,.retAddr 0) := rfl
theorem fd_RunStream_startPage_10 : am_fd mt_RunStream_startPage.1 10 = (.aload_n 0,1,0,0,0,0,.retAddr 0) := rfl
theorem fd_RunStream_startPage_11 : am_fd mt_RunStream_startPage.1 11 = (.iconst 0,1,0,0,0,0,.int 0) := rfl
theorem fd_RunStream_startPage_12 : am_fd mt_RunStream_startPage.1 12 = (.putfield 18,3,8,0,7,7,.retAddr 0) := rfl
theorem fd_RunStream_startPage_15 : am_fd mt_RunStream_startPage.1 15 = (.return_,1,0,0,0,0,.retAddr 0) := rfl
theorem fd_SR_findInPage_0 : am_fd mt_SR_findInPage.1 0 = (.aload_n 0,1,0,0,0,0,.retAddr 0) := rfl
theorem fd_SR_findInPage_1 : am_fd mt_SR_findInPage.1 1 = (.getfield 104,3,6,2,1,1,.retAddr 0) := rfl
theorem fd_SR_findInPage_4 : am_fd mt_SR_findInPage.1 4 = (.invokevirtual 378,3,55,1,7,0,.retAddr 0) := rfl
theorem fd_SR_findInPage_7 : am_fd mt_SR_findInPage.1 7 = (.iconst 0,1,0,0,0,0,.int 0) := rfl
theorem fd_SR_findInPage_8 : am_fd mt_SR_findInPage.1 8 = (.istore_n 3,1,3,0,0,0,.retAddr 0) := rfl
theorem fd_SR_findInPage_9 : am_fd mt_SR_findInPage.1 9 = (.iload_n 3,1,3,0,0,0,.retAddr 0) := rfl
theorem fd_SR_findInPage_10 : am_fd mt_SR_findInPage.1 10 = (.sipush 255,3,0,0,0,0,.int 255) := rfl
theorem fd_SR_findInPage_13 : am_fd mt_SR_findInPage.1 13 = (.if_icmp .ge 38,3,51,0,0,0,.retAddr 0) := rfl
theorem fd_SR_findInPage_16 : am_fd mt_SR_findInPage.1 16 = (.aload_n 0,1,0,0,0,0,.retAddr 0) := rfl
theorem fd_SR_findInPage_17 : am_fd mt_SR_findInPage.1 17 = (.getfield 104,3,6,2,1,1,.retAddr 0) := rfl
theorem fd_SR_findInPage_20 : am_fd mt_SR_findInPage.1 20 = (.getfield 381,3,0,0,7,7,.retAddr 0) := rfl
theorem fd_SR_findInPage_23 : am_fd mt_SR_findInPage.1 23 = (.ifCond .eq 28,3,51,0,0,0,.retAddr 0) := rfl
theorem fd_SR_findInPage_26 : am_fd mt_SR_findInPage.1 26 = (.aload_n 0,1,0,0,0,0,.retAddr 0) := rfl
theorem fd_SR_findInPage_27 : am_fd mt_SR_findInPage.1 27 = (.getfield 104,3,6,2,1,1,.retAddr 0) := rfl
theorem fd_SR_findInPage_30 : am_fd mt_SR_findInPage.1 30 = (.getfield 384,3,1,1,7,7,.retAddr 0) := rfl
theorem fd_SR_findInPage_33 : am_fd mt_SR_findInPage.1 33 = (.lload_n 1,1,1,0,0,0,.retAddr 0) := rfl
theorem fd_SR_findInPage_34 : am_fd mt_SR_findInPage.1 34 = (.lcmp,1,0,0,0,0,.retAddr 0) := rfl
theorem fd_SR_findInPage_35 : am_fd mt_SR_findInPage.1 35 = (.ifCond .ge 16,3,51,0,0,0,.retAddr 0) := rfl
theorem fd_SR_findInPage_38 : am_fd mt_SR_findInPage.1 38 = (.aload_n 0,1,0,0,0,0,.retAddr 0) := rfl
theorem fd_SR_findInPage_39 : am_fd mt_SR_findInPage.1 39 = (.getfield 104,3,6,2,1,1,.retAddr 0) := rfl
theorem fd_SR_findInPage_42 : am_fd mt_SR_findInPage.1 42 = (.invokevirtual 378,3,55,1,7,0,.retAddr 0) := rfl
theorem fd_SR_findInPage_45 : am_fd mt_SR_findInPage.1 45 = (.iinc 3 1,3,3,0,0,0,.int 1) := rfl
theorem fd_SR_findInPage_48 : am_fd mt_SR_findInPage.1 48 = (.goto (-39),3,9,0,0,0,.retAddr 0) := rfl
theorem fd_SR_findInPage_51 : am_fd mt_SR_findInPage.1 51 = (.aload_n 0,1,0,0,0,0,.retAddr 0) := rfl
theorem fd_SR_findInPage_52 : am_fd mt_SR_findInPage.1 52 = (.getfield 104,3,6,2,1,1,.retAddr 0) := rfl
theorem fd_SR_findInPage_55 : am_fd mt_SR_findInPage.1 55 = (.getfield 381,3,0,0,7,7,.retAddr 0) := rfl
theorem fd_SR_findInPage_58 : am_fd mt_SR_findInPage.1 58 = (.ifCond .eq 36,3,94,0,0,0,.retAddr 0) := rfl
theorem fd_SR_findInPage_61 : am_fd mt_SR_findInPage.1 61 = (.aload_n 0,1,0,0,0,0,.retAddr 0) := rfl
theorem fd_SR_findInPage_62 : am_fd mt_SR_findInPage.1 62 = (.getfield 104,3,6,2,1,1,.retAddr 0) := rfl
theorem fd_SR_findInPage_65 : am_fd mt_SR_findInPage.1 65 = (.getfield 384,3,1,1,7,7,.retAddr 0) := rfl
theorem fd_SR_findInPage_68 : am_fd mt_SR_findInPage.1 68 = (.lload_n 1,1,1,0,0,0,.retAddr 0) := rfl
theorem fd_SR_findInPage_69 : am_fd mt_SR_findInPage.1 69 = (.lcmp,1,0,0,0,0,.retAddr 0) := rfl
theorem fd_SR_findInPage_70 : am_fd mt_SR_findInPage.1 70 = (.ifCond .ne 24,3,94,0,0,0,.retAddr 0) := rfl
theorem fd_SR_findInPage_73 : am_fd mt_SR_findInPage.1 73 = (.aload_n 0,1,0,0,0,0,.retAddr 0) := rfl
theorem fd_SR_findInPage_74 : am_fd mt_SR_findInPage.1 74 = (.getfield 30,3,7,2,1,1,.retAddr 0) := rfl
theorem fd_SR_findInPage_77 : am_fd mt_SR_findInPage.1 77 = (.aload_n 0,1,0,0,0,0,.retAddr 0) := rfl
theorem fd_SR_findInPage_78 : am_fd mt_SR_findInPage.1 78 = (.getfield 104,3,6,2,1,1,.retAddr 0) := rfl
theorem fd_SR_findInPage_81 : am_fd mt_SR_findInPage.1 81 = (.getfield 385,3,2,0,7,7,.retAddr 0) := rfl
theorem fd_SR_findInPage_84 : am_fd mt_SR_findInPage.1 84 = (.aload_n 0,1,0,0,0,0,.retAddr 0) := rfl
theorem fd_SR_findInPage_85 : am_fd mt_SR_findInPage.1 85 = (.getfield 104,3,6,2,1,1,.retAddr 0) := rfl
theorem fd_SR_findInPage_88 : am_fd mt_SR_findInPage.1 88 = (.getfield 386,3,3,1,7,7,.retAddr 0) := rfl
theorem fd_SR_findInPage_91 : am_fd mt_SR_findInPage.1 91 = (.invokevirtual 387,3,40,3,3,0,.retAddr 0) := rfl
theorem fd_SR_findInPage_94 : am_fd mt_SR_findInPage.1 94 = (.return_,1,0,0,0,0,.retAddr 0) := rfl
theorem fd_SR_range_0 : am_fd mt_SR_range.1 0 = (.aload_n 0,1,0,0,0,0,.retAddr 0) := rfl
theorem fd_SR_range_1 : am_fd mt_SR_range.1 1 = (.iload_n 1,1,1,0,0,0,.retAddr 0) := rfl
theorem fd_SR_range_2 : am_fd mt_SR_range.1 2 = (.invokevirtual 338,3,101,2,1,0,.retAddr 0) := rfl
theorem fd_SR_range_5 : am_fd mt_SR_range.1 5 = (.astore 6,2,6,0,0,0,.retAddr 0) := rfl
theorem fd_SR_range_7 : am_fd mt_SR_range.1 7 = (.lload_n 2,1,2,0,0,0,.retAddr 0) := rfl
theorem fd_SR_range_8 : am_fd mt_SR_range.1 8 = (.lload 4,2,4,0,0,0,.retAddr 0) := rfl
theorem fd_SR_range_10 : am_fd mt_SR_range.1 10 = (.lcmp,1,0,0,0,0,.retAddr 0) := rfl
theorem fd_SR_range_11 : am_fd mt_SR_range.1 11 = (.ifCond .le 14,3,25,0,0,0,.retAddr 0) := rfl
theorem fd_SR_range_14 : am_fd mt_SR_range.1 14 = (.new 151,3,1,1,3,390,.ref 155) := rfl
theorem fd_SR_range_25 : am_fd mt_SR_range.1 25 = (.aload_n 0,1,0,0,0,0,.retAddr 0) := rfl
theorem fd_SR_range_26 : am_fd mt_SR_range.1 26 = (.iconst 0,1,0,0,0,0,.int 0) := rfl
theorem fd_SR_range_27 : am_fd mt_SR_range.1 27 = (.putfield 48,3,11,0,1,1,.retAddr 0) := rfl
theorem fd_SR_range_30 : am_fd mt_SR_range.1 30 = (.aload_n 0,1,0,0,0,0,.retAddr 0) := rfl
theorem fd_SR_range_31 : am_fd mt_SR_range.1 31 = (.aload 6,2,6,0,0,0,.retAddr 0) := rfl
theorem fd_SR_range_33 : am_fd mt_SR_range.1 33 = (.iconst 0,1,0,0,0,0,.int 0) := rfl
theorem fd_SR_range_34 : am_fd mt_SR_range.1 34 = (.aload 6,2,6,0,0,0,.retAddr 0) := rfl
theorem fd_SR_range_36 : am_fd mt_SR_range.1 36 = (.getfield 243,3,1,0,6,6,.retAddr 0) := rfl
theorem fd_SR_range_39 : am_fd mt_SR_range.1 39 = (.invokevirtual 197,3,48,4,1,0,.retAddr 0) := rfl
theorem fd_SR_range_42 : am_fd mt_SR_range.1 42 = (.ifCond .ne 10,3,52,0,0,0,.retAddr 0) := rfl
theorem fd_SR_range_45 : am_fd mt_SR_range.1 45 = (.aload_n 0,1,0,0,0,0,.retAddr 0) := rfl
theorem fd_SR_range_46 : am_fd mt_SR_range.1 46 = (.iconst 3,1,0,0,0,0,.int 3) := rfl
theorem fd_SR_range_47 : am_fd mt_SR_range.1 47 = (.putfield 58,3,14,0,1,1,.retAddr 0) := rfl
theorem fd_SR_range_50 : am_fd mt_SR_range.1 50 = (.iconst (-1),1,0,0,0,0,.int (-1)) := rfl
theorem fd_SR_range_51 : am_fd mt_SR_range.1 51 = (.ireturn,1,0,0,0,0,.retAddr 0) := rfl
theorem fd_SR_range_52 : am_fd mt_SR_range.1 52 = (.aload_n 0,1,0,0,0,0,.retAddr 0) := rfl
theorem fd_SR_range_53 : am_fd mt_SR_range.1 53 = (.iconst 1,1,0,0,0,0,.int 1) := rfl
theorem fd_SR_range_54 : am_fd mt_SR_range.1 54 = (.putfield 58,3,14,0,1,1,.retAddr 0) := rfl
theorem fd_SR_range_57 : am_fd mt_SR_range.1 57 = (.aload_n 0,1,0,0,0,0,.retAddr 0) := rfl
theorem fd_SR_range_58 : am_fd mt_SR_range.1 58 = (.getfield 95,3,5,2,1,1,.retAddr 0) := rfl
theorem fd_SR_range_61 : am_fd mt_SR_range.1 61 = (.iconst 1,1,0,0,0,0,.int 1) := rfl
theorem fd_SR_range_62 : am_fd mt_SR_range.1 62 = (.invokevirtual 236,3,51,2,2,0,.retAddr 0) := rfl
theorem fd_SR_range_65 : am_fd mt_SR_range.1 65 = (.iload_n 1,1,1,0,0,0,.retAddr 0) := rfl
theorem fd_SR_range_66 : am_fd mt_SR_range.1 66 = (.iconst (-1),1,0,0,0,0,.int (-1)) := rfl
theorem fd_SR_range_67 : am_fd mt_SR_range.1 67 = (.if_icmp .ne 10,3,77,0,0,0,.retAddr 0) := rfl
theorem fd_SR_range_70 : am_fd mt_SR_range.1 70 = (.aload_n 0,1,0,0,0,0,.retAddr 0) := rfl
theorem fd_SR_range_71 : am_fd mt_SR_range.1 71 = (.getfield 95,3,5,2,1,1,.retAddr 0) := rfl
theorem fd_SR_range_74 : am_fd mt_SR_range.1 74 = (.invokevirtual 240,3,90,1,2,0,.retAddr 0) := rfl
theorem fd_SR_range_77 : am_fd mt_SR_range.1 77 = (.iconst 0,1,0,0,0,0,.int 0) := rfl
theorem fd_SR_range_78 : am_fd mt_SR_range.1 78 = (.istore 7,2,7,0,0,0,.retAddr 0) := rfl
theorem fd_SR_range_80 : am_fd mt_SR_range.1 80 = (.iload 7,2,7,0,0,0,.retAddr 0) := rfl
theorem fd_SR_range_82 : am_fd mt_SR_range.1 82 = (.aload 6,2,6,0,0,0,.retAddr 0) := rfl
theorem fd_SR_range_84 : am_fd mt_SR_range.1 84 = (.getfield 243,3,1,0,6,6,.retAddr 0) := rfl
theorem fd_SR_range_87 : am_fd mt_SR_range.1 87 = (.if_icmp .ge 32,3,119,0,0,0,.retAddr 0) := rfl
theorem fd_SR_range_90 : am_fd mt_SR_range.1 90 = (.iload 7,2,7,0,0,0,.retAddr 0) := rfl
theorem fd_SR_range_92 : am_fd mt_SR_range.1 92 = (.bipush 9,2,0,0,0,0,.int 9) := rfl
theorem fd_SR_range_94 : am_fd mt_SR_range.1 94 = (.if_icmp .ge 25,3,119,0,0,0,.retAddr 0) := rfl
theorem fd_SR_range_97 : am_fd mt_SR_range.1 97 = (.aload_n 0,1,0,0,0,0,.retAddr 0) := rfl
theorem fd_SR_range_98 : am_fd mt_SR_range.1 98 = (.getfield 95,3,5,2,1,1,.retAddr 0) := rfl
theorem fd_SR_range_101 : am_fd mt_SR_range.1 101 = (.aload 6,2,6,0,0,0,.retAddr 0) := rfl
theorem fd_SR_range_103 : am_fd mt_SR_range.1 103 = (.getfield 167,3,0,2,6,6,.retAddr 0) := rfl
theorem fd_SR_range_106 : am_fd mt_SR_range.1 106 = (.iload 7,2,7,0,0,0,.retAddr 0) := rfl
theorem fd_SR_range_108 : am_fd mt_SR_range.1 108 = (.aaload,1,0,0,0,0,.retAddr 0) := rfl
theorem fd_SR_range_109 : am_fd mt_SR_range.1 109 = (.lload_n 2,1,2,0,0,0,.retAddr 0) := rfl
theorem fd_SR_range_110 : am_fd mt_SR_range.1 110 = (.invokevirtual 246,3,52,3,2,0,.retAddr 0) := rfl
theorem fd_SR_range_113 : am_fd mt_SR_range.1 113 = (.iinc 7 1,3,7,0,0,0,.int 1) := rfl
theorem fd_SR_range_116 : am_fd mt_SR_range.1 116 = (.goto (-36),3,80,0,0,0,.retAddr 0) := rfl
theorem fd_SR_range_119 : am_fd mt_SR_range.1 119 = (.aload_n 0,1,0,0,0,0,.retAddr 0) := rfl
theorem fd_SR_range_120 : am_fd mt_SR_range.1 120 = (.lload_n 2,1,2,0,0,0,.retAddr 0) := rfl
theorem fd_SR_range_121 : am_fd mt_SR_range.1 121 = (.lload 4,2,4,0,0,0,.retAddr 0) := rfl
theorem fd_SR_range_123 : am_fd mt_SR_range.1 123 = (.invokevirtual 392,3,111,3,1,0,.retAddr 0) := rfl
theorem fd_SR_range_126 : am_fd mt_SR_range.1 126 = (.ireturn,1,0,0,0,0,.retAddr 0) := rfl
theorem fd_SR_gatherAnswers_0 : am_fd mt_SR_gatherAnswers.1 0 = (.iconst 0,1,0,0,0,0,.int 0) := rfl
theorem fd_SR_gatherAnswers_1 : am_fd mt_SR_gatherAnswers.1 1 = (.istore 5,2,5,0,0,0,.retAddr 0) := rfl
theorem fd_SR_gatherAnswers_3 : am_fd mt_SR_gatherAnswers.1 3 = (.iconst 0,1,0,0,0,0,.int 0) := rfl
theorem fd_SR_gatherAnswers_4 : am_fd mt_SR_gatherAnswers.1 4 = (.istore 6,2,6,0,0,0,.retAddr 0) := rfl
theorem fd_SR_gatherAnswers_6 : am_fd mt_SR_gatherAnswers.1 6 = (.iload 6,2,6,0,0,0,.retAddr 0) := rfl
theorem fd_SR_gatherAnswers_8 : am_fd mt_SR_gatherAnswers.1 8 = (.ldc 250,2,0,0,0,0,.int 1000000) := rfl
theorem fd_SR_gatherAnswers_10 : am_fd mt_SR_gatherAnswers.1 10 = (.if_icmp .ge 67,3,77,0,0,0,.retAddr 0) := rfl
theorem fd_SR_gatherAnswers_13 : am_fd mt_SR_gatherAnswers.1 13 = (.aload_n 0,1,0,0,0,0,.retAddr 0) := rfl
theorem fd_SR_gatherAnswers_14 : am_fd mt_SR_gatherAnswers.1 14 = (.getfield 95,3,5,2,1,1,.retAddr 0) := rfl
theorem fd_SR_gatherAnswers_17 : am_fd mt_SR_gatherAnswers.1 17 = (.invokevirtual 251,3,63,1,2,0,.retAddr 0) := rfl
theorem fd_SR_gatherAnswers_20 : am_fd mt_SR_gatherAnswers.1 20 = (.ifCond .eq 57,3,77,0,0,0,.retAddr 0) := rfl
theorem fd_SR_gatherAnswers_23 : am_fd mt_SR_gatherAnswers.1 23 = (.aload_n 0,1,0,0,0,0,.retAddr 0) := rfl
theorem fd_SR_gatherAnswers_24 : am_fd mt_SR_gatherAnswers.1 24 = (.getfield 95,3,5,2,1,1,.retAddr 0) := rfl
theorem fd_SR_gatherAnswers_27 : am_fd mt_SR_gatherAnswers.1 27 = (.getfield 255,3,1,1,2,2,.retAddr 0) := rfl
theorem fd_SR_gatherAnswers_30 : am_fd mt_SR_gatherAnswers.1 30 = (.lload_n 3,1,3,0,0,0,.retAddr 0) := rfl
theorem fd_SR_gatherAnswers_31 : am_fd mt_SR_gatherAnswers.1 31 = (.lcmp,1,0,0,0,0,.retAddr 0) := rfl
theorem fd_SR_gatherAnswers_32 : am_fd mt_SR_gatherAnswers.1 32 = (.ifCond .gt 45,3,77,0,0,0,.retAddr 0) := rfl
theorem fd_SR_gatherAnswers_35 : am_fd mt_SR_gatherAnswers.1 35 = (.aload_n 0,1,0,0,0,0,.retAddr 0) := rfl
theorem fd_SR_gatherAnswers_36 : am_fd mt_SR_gatherAnswers.1 36 = (.getfield 95,3,5,2,1,1,.retAddr 0) := rfl
theorem fd_SR_gatherAnswers_39 : am_fd mt_SR_gatherAnswers.1 39 = (.getfield 255,3,1,1,2,2,.retAddr 0) := rfl
theorem fd_SR_gatherAnswers_42 : am_fd mt_SR_gatherAnswers.1 42 = (.lload_n 1,1,1,0,0,0,.retAddr 0) := rfl
theorem fd_SR_gatherAnswers_43 : am_fd mt_SR_gatherAnswers.1 43 = (.lcmp,1,0,0,0,0,.retAddr 0) := rfl
theorem fd_SR_gatherAnswers_44 : am_fd mt_SR_gatherAnswers.1 44 = (.ifCond .lt 27,3,71,0,0,0,.retAddr 0) := rfl
theorem fd_SR_gatherAnswers_47 : am_fd mt_SR_gatherAnswers.1 47 = (.aload_n 0,1,0,0,0,0,.retAddr 0) := rfl
theorem fd_SR_gatherAnswers_48 : am_fd mt_SR_gatherAnswers.1 48 = (.aload_n 0,1,0,0,0,0,.retAddr 0) := rfl
theorem fd_SR_gatherAnswers_49 : am_fd mt_SR_gatherAnswers.1 49 = (.getfield 95,3,5,2,1,1,.retAddr 0) := rfl
theorem fd_SR_gatherAnswers_52 : am_fd mt_SR_gatherAnswers.1 52 = (.getfield 255,3,1,1,2,2,.retAddr 0) := rfl
theorem fd_SR_gatherAnswers_55 : am_fd mt_SR_gatherAnswers.1 55 = (.aload_n 0,1,0,0,0,0,.retAddr 0) := rfl
theorem fd_SR_gatherAnswers_56 : am_fd mt_SR_gatherAnswers.1 56 = (.getfield 95,3,5,2,1,1,.retAddr 0) := rfl
theorem fd_SR_gatherAnswers_59 : am_fd mt_SR_gatherAnswers.1 59 = (.getfield 259,3,0,2,2,2,.retAddr 0) := rfl
theorem fd_SR_gatherAnswers_62 : am_fd mt_SR_gatherAnswers.1 62 = (.getfield 354,3,1,1,3,3,.retAddr 0) := rfl
theorem fd_SR_gatherAnswers_65 : am_fd mt_SR_gatherAnswers.1 65 = (.invokevirtual 396,3,112,3,1,0,.retAddr 0) := rfl
theorem fd_SR_gatherAnswers_68 : am_fd mt_SR_gatherAnswers.1 68 = (.iinc 5 1,3,5,0,0,0,.int 1) := rfl
theorem fd_SR_gatherAnswers_71 : am_fd mt_SR_gatherAnswers.1 71 = (.iinc 6 1,3,6,0,0,0,.int 1) := rfl
theorem fd_SR_gatherAnswers_74 : am_fd mt_SR_gatherAnswers.1 74 = (.goto (-68),3,6,0,0,0,.retAddr 0) := rfl
theorem fd_SR_gatherAnswers_77 : am_fd mt_SR_gatherAnswers.1 77 = (.iload 5,2,5,0,0,0,.retAddr 0) := rfl
theorem fd_SR_gatherAnswers_79 : am_fd mt_SR_gatherAnswers.1 79 = (.ireturn,1,0,0,0,0,.retAddr 0) := rfl
theorem fd_SR_noteAnswer_0 : am_fd mt_SR_noteAnswer.1 0 = (.aload_n 0,1,0,0,0,0,.retAddr 0) := rfl
theorem fd_SR_noteAnswer_1 : am_fd mt_SR_noteAnswer.1 1 = (.getfield 48,3,11,0,1,1,.retAddr 0) := rfl
theorem fd_SR_noteAnswer_4 : am_fd mt_SR_noteAnswer.1 4 = (.sipush 200,3,0,0,0,0,.int 200) := rfl
theorem fd_SR_noteAnswer_7 : am_fd mt_SR_noteAnswer.1 7 = (.if_icmp .ge 33,3,40,0,0,0,.retAddr 0) := rfl
theorem fd_SR_noteAnswer_10 : am_fd mt_SR_noteAnswer.1 10 = (.aload_n 0,1,0,0,0,0,.retAddr 0) := rfl
theorem fd_SR_noteAnswer_11 : am_fd mt_SR_noteAnswer.1 11 = (.getfield 41,3,9,2,1,1,.retAddr 0) := rfl
theorem fd_SR_noteAnswer_14 : am_fd mt_SR_noteAnswer.1 14 = (.aload_n 0,1,0,0,0,0,.retAddr 0) := rfl
theorem fd_SR_noteAnswer_15 : am_fd mt_SR_noteAnswer.1 15 = (.getfield 48,3,11,0,1,1,.retAddr 0) := rfl
theorem fd_SR_noteAnswer_18 : am_fd mt_SR_noteAnswer.1 18 = (.lload_n 1,1,1,0,0,0,.retAddr 0) := rfl
theorem fd_SR_noteAnswer_19 : am_fd mt_SR_noteAnswer.1 19 = (.lastore,1,0,0,0,0,.retAddr 0) := rfl
theorem fd_SR_noteAnswer_20 : am_fd mt_SR_noteAnswer.1 20 = (.aload_n 0,1,0,0,0,0,.retAddr 0) := rfl
theorem fd_SR_noteAnswer_21 : am_fd mt_SR_noteAnswer.1 21 = (.getfield 45,3,10,2,1,1,.retAddr 0) := rfl
theorem fd_SR_noteAnswer_24 : am_fd mt_SR_noteAnswer.1 24 = (.aload_n 0,1,0,0,0,0,.retAddr 0) := rfl
theorem fd_SR_noteAnswer_25 : am_fd mt_SR_noteAnswer.1 25 = (.getfield 48,3,11,0,1,1,.retAddr 0) := rfl
theorem fd_SR_noteAnswer_28 : am_fd mt_SR_noteAnswer.1 28 = (.lload_n 3,1,3,0,0,0,.retAddr 0) := rfl
theorem fd_SR_noteAnswer_29 : am_fd mt_SR_noteAnswer.1 29 = (.lastore,1,0,0,0,0,.retAddr 0) := rfl
theorem fd_SR_noteAnswer_30 : am_fd mt_SR_noteAnswer.1 30 = (.aload_n 0,1,0,0,0,0,.retAddr 0) := rfl
theorem fd_SR_noteAnswer_31 : am_fd mt_SR_noteAnswer.1 31 = (.dup,1,0,0,0,0,.retAddr 0) := rfl
theorem fd_SR_noteAnswer_32 : am_fd mt_SR_noteAnswer.1 32 = (.getfield 48,3,11,0,1,1,.retAddr 0) := rfl
theorem fd_SR_noteAnswer_35 : am_fd mt_SR_noteAnswer.1 35 = (.iconst 1,1,0,0,0,0,.int 1) := rfl
theorem fd_SR_noteAnswer_36 : am_fd mt_SR_noteAnswer.1 36 = (.iadd,1,0,0,0,0,.retAddr 0) := rfl
theorem fd_SR_noteAnswer_37 : am_fd mt_SR_noteAnswer.1 37 = (.putfield 48,3,11,0,1,1,.retAddr 0) := rfl
theorem fd_SR_noteAnswer_40 : am_fd mt_SR_noteAnswer.1 40 = (.return_,1,0,0,0,0,.retAddr 0) := rfl
theorem fd_SR_at_0 : am_fd mt_SR_at.1 0 = (.iload_n 1,1,1,0,0,0,.retAddr 0) := rfl
theorem fd_SR_at_1 : am_fd mt_SR_at.1 1 = (.ifCond .lt 27,3,28,0,0,0,.retAddr 0) := rfl
theorem fd_SR_at_4 : am_fd mt_SR_at.1 4 = (.iload_n 1,1,1,0,0,0,.retAddr 0) := rfl
theorem fd_SR_at_5 : am_fd mt_SR_at.1 5 = (.aload_n 0,1,0,0,0,0,.retAddr 0) := rfl
theorem fd_SR_at_6 : am_fd mt_SR_at.1 6 = (.getfield 48,3,11,0,1,1,.retAddr 0) := rfl
theorem fd_SR_at_9 : am_fd mt_SR_at.1 9 = (.if_icmp .ge 19,3,28,0,0,0,.retAddr 0) := rfl
theorem fd_SR_at_12 : am_fd mt_SR_at.1 12 = (.iload_n 1,1,1,0,0,0,.retAddr 0) := rfl
theorem fd_SR_at_13 : am_fd mt_SR_at.1 13 = (.sipush 200,3,0,0,0,0,.int 200) := rfl
theorem fd_SR_at_16 : am_fd mt_SR_at.1 16 = (.if_icmp .ge 12,3,28,0,0,0,.retAddr 0) := rfl
theorem fd_SR_at_19 : am_fd mt_SR_at.1 19 = (.iload_n 2,1,2,0,0,0,.retAddr 0) := rfl
theorem fd_SR_at_20 : am_fd mt_SR_at.1 20 = (.ifCond .lt 8,3,28,0,0,0,.retAddr 0) := rfl
theorem fd_SR_at_23 : am_fd mt_SR_at.1 23 = (.iload_n 2,1,2,0,0,0,.retAddr 0) := rfl
theorem fd_SR_at_24 : am_fd mt_SR_at.1 24 = (.iconst 1,1,0,0,0,0,.int 1) := rfl
theorem fd_SR_at_25 : am_fd mt_SR_at.1 25 = (.if_icmp .le 14,3,39,0,0,0,.retAddr 0) := rfl
theorem fd_SR_at_28 : am_fd mt_SR_at.1 28 = (.new 333,3,2,1,3,400,.ref 337) := rfl
theorem fd_SR_at_39 : am_fd mt_SR_at.1 39 = (.iload_n 2,1,2,0,0,0,.retAddr 0) := rfl
theorem fd_SR_at_40 : am_fd mt_SR_at.1 40 = (.ifCond .ne 12,3,52,0,0,0,.retAddr 0) := rfl
theorem fd_SR_at_43 : am_fd mt_SR_at.1 43 = (.aload_n 0,1,0,0,0,0,.retAddr 0) := rfl
theorem fd_SR_at_44 : am_fd mt_SR_at.1 44 = (.getfield 41,3,9,2,1,1,.retAddr 0) := rfl
theorem fd_SR_at_47 : am_fd mt_SR_at.1 47 = (.iload_n 1,1,1,0,0,0,.retAddr 0) := rfl
theorem fd_SR_at_48 : am_fd mt_SR_at.1 48 = (.laload,1,0,0,0,0,.retAddr 0) := rfl
theorem fd_SR_at_49 : am_fd mt_SR_at.1 49 = (.goto 9,3,58,0,0,0,.retAddr 0) := rfl
theorem fd_SR_at_52 : am_fd mt_SR_at.1 52 = (.aload_n 0,1,0,0,0,0,.retAddr 0) := rfl
theorem fd_SR_at_53 : am_fd mt_SR_at.1 53 = (.getfield 45,3,10,2,1,1,.retAddr 0) := rfl
theorem fd_SR_at_56 : am_fd mt_SR_at.1 56 = (.iload_n 1,1,1,0,0,0,.retAddr 0) := rfl
theorem fd_SR_at_57 : am_fd mt_SR_at.1 57 = (.laload,1,0,0,0,0,.retAddr 0) := rfl
theorem fd_SR_at_58 : am_fd mt_SR_at.1 58 = (.lreturn,1,0,0,0,0,.retAddr 0) := rfl
theorem fd_SR_run_0 : am_fd mt_SR_run.1 0 = (.iload_n 1,1,1,0,0,0,.retAddr 0) := rfl
theorem fd_SR_run_1 : am_fd mt_SR_run.1 1 = (.ifCond .lt 29,3,30,0,0,0,.retAddr 0) := rfl
theorem fd_SR_run_4 : am_fd mt_SR_run.1 4 = (.iload_n 1,1,1,0,0,0,.retAddr 0) := rfl
theorem fd_SR_run_5 : am_fd mt_SR_run.1 5 = (.aload_n 0,1,0,0,0,0,.retAddr 0) := rfl
theorem fd_SR_run_6 : am_fd mt_SR_run.1 6 = (.getfield 19,3,3,2,1,1,.retAddr 0) := rfl
theorem fd_SR_run_9 : am_fd mt_SR_run.1 9 = (.getfield 243,3,1,0,6,6,.retAddr 0) := rfl
theorem fd_SR_run_12 : am_fd mt_SR_run.1 12 = (.if_icmp .ge 18,3,30,0,0,0,.retAddr 0) := rfl
theorem fd_SR_run_15 : am_fd mt_SR_run.1 15 = (.iload_n 1,1,1,0,0,0,.retAddr 0) := rfl
theorem fd_SR_run_16 : am_fd mt_SR_run.1 16 = (.bipush 9,2,0,0,0,0,.int 9) := rfl
theorem fd_SR_run_18 : am_fd mt_SR_run.1 18 = (.if_icmp .ge 12,3,30,0,0,0,.retAddr 0) := rfl
theorem fd_SR_run_21 : am_fd mt_SR_run.1 21 = (.iload_n 2,1,2,0,0,0,.retAddr 0) := rfl
theorem fd_SR_run_22 : am_fd mt_SR_run.1 22 = (.ifCond .lt 8,3,30,0,0,0,.retAddr 0) := rfl
theorem fd_SR_run_25 : am_fd mt_SR_run.1 25 = (.iload_n 2,1,2,0,0,0,.retAddr 0) := rfl
theorem fd_SR_run_26 : am_fd mt_SR_run.1 26 = (.iconst 4,1,0,0,0,0,.int 4) := rfl
theorem fd_SR_run_27 : am_fd mt_SR_run.1 27 = (.if_icmp .le 14,3,41,0,0,0,.retAddr 0) := rfl
theorem fd_SR_run_30 : am_fd mt_SR_run.1 30 = (.new 333,3,2,1,3,402,.ref 337) := rfl
theorem fd_SR_run_41 : am_fd mt_SR_run.1 41 = (.aload_n 0,1,0,0,0,0,.retAddr 0) := rfl
theorem fd_SR_run_42 : am_fd mt_SR_run.1 42 = (.getfield 19,3,3,2,1,1,.retAddr 0) := rfl
theorem fd_SR_run_45 : am_fd mt_SR_run.1 45 = (.getfield 167,3,0,2,6,6,.retAddr 0) := rfl
theorem fd_SR_run_48 : am_fd mt_SR_run.1 48 = (.iload_n 1,1,1,0,0,0,.retAddr 0) := rfl
theorem fd_SR_run_49 : am_fd mt_SR_run.1 49 = (.aaload,1,0,0,0,0,.retAddr 0) := rfl
theorem fd_SR_run_50 : am_fd mt_SR_run.1 50 = (.astore_n 3,1,3,0,0,0,.retAddr 0) := rfl
theorem fd_SR_run_51 : am_fd mt_SR_run.1 51 = (.iload_n 2,1,2,0,0,0,.retAddr 0) := rfl
theorem fd_SR_run_52 : am_fd mt_SR_run.1 52 = (.tableswitch 52 0 3 #[32, 37, 42, 47],32,104,0,0,0,.int 0) := rfl
theorem fd_SR_run_84 : am_fd mt_SR_run.1 84 = (.aload_n 3,1,3,0,0,0,.retAddr 0) := rfl
theorem fd_SR_run_85 : am_fd mt_SR_run.1 85 = (.getfield 171,3,0,0,5,5,.retAddr 0) := rfl
theorem fd_SR_run_88 : am_fd mt_SR_run.1 88 = (.ireturn,1,0,0,0,0,.retAddr 0) := rfl
theorem fd_SR_run_89 : am_fd mt_SR_run.1 89 = (.aload_n 3,1,3,0,0,0,.retAddr 0) := rfl
theorem fd_SR_run_90 : am_fd mt_SR_run.1 90 = (.getfield 313,3,1,0,5,5,.retAddr 0) := rfl
theorem fd_SR_run_93 : am_fd mt_SR_run.1 93 = (.ireturn,1,0,0,0,0,.retAddr 0) := rfl
theorem fd_SR_run_94 : am_fd mt_SR_run.1 94 = (.aload_n 3,1,3,0,0,0,.retAddr 0) := rfl
theorem fd_SR_run_95 : am_fd mt_SR_run.1 95 = (.getfield 227,3,4,0,5,5,.retAddr 0) := rfl
theorem fd_SR_run_98 : am_fd mt_SR_run.1 98 = (.ireturn,1,0,0,0,0,.retAddr 0) := rfl
theorem fd_SR_run_99 : am_fd mt_SR_run.1 99 = (.aload_n 3,1,3,0,0,0,.retAddr 0) := rfl
theorem fd_SR_run_100 : am_fd mt_SR_run.1 100 = (.getfield 404,3,5,0,5,5,.retAddr 0) := rfl
theorem fd_SR_run_103 : am_fd mt_SR_run.1 103 = (.ireturn,1,0,0,0,0,.retAddr 0) := rfl
theorem fd_SR_run_104 : am_fd mt_SR_run.1 104 = (.aload_n 3,1,3,0,0,0,.retAddr 0) := rfl
theorem fd_SR_run_105 : am_fd mt_SR_run.1 105 = (.getfield 224,3,3,0,5,5,.retAddr 0) := rfl
theorem fd_SR_run_108 : am_fd mt_SR_run.1 108 = (.ireturn,1,0,0,0,0,.retAddr 0) := rfl
theorem fd_SR_hidden_0 : am_fd mt_SR_hidden.1 0 = (.aload_n 0,1,0,0,0,0,.retAddr 0) := rfl
theorem fd_SR_hidden_1 : am_fd mt_SR_hidden.1 1 = (.invokevirtual 125,3,34,1,1,0,.retAddr 0) := rfl
theorem fd_SR_hidden_4 : am_fd mt_SR_hidden.1 4 = (.iconst 0,1,0,0,0,0,.int 0) := rfl
theorem fd_SR_hidden_5 : am_fd mt_SR_hidden.1 5 = (.istore_n 3,1,3,0,0,0,.retAddr 0) := rfl
theorem fd_SR_hidden_6 : am_fd mt_SR_hidden.1 6 = (.iload_n 3,1,3,0,0,0,.retAddr 0) := rfl
theorem fd_SR_hidden_7 : am_fd mt_SR_hidden.1 7 = (.aload_n 0,1,0,0,0,0,.retAddr 0) := rfl
theorem fd_SR_hidden_8 : am_fd mt_SR_hidden.1 8 = (.getfield 19,3,3,2,1,1,.retAddr 0) := rfl
theorem fd_SR_hidden_11 : am_fd mt_SR_hidden.1 11 = (.getfield 243,3,1,0,6,6,.retAddr 0) := rfl
theorem fd_SR_hidden_14 : am_fd mt_SR_hidden.1 14 = (.if_icmp .ge 49,3,63,0,0,0,.retAddr 0) := rfl
theorem fd_SR_hidden_17 : am_fd mt_SR_hidden.1 17 = (.iload_n 3,1,3,0,0,0,.retAddr 0) := rfl
theorem fd_SR_hidden_18 : am_fd mt_SR_hidden.1 18 = (.bipush 9,2,0,0,0,0,.int 9) := rfl
theorem fd_SR_hidden_20 : am_fd mt_SR_hidden.1 20 = (.if_icmp .ge 43,3,63,0,0,0,.retAddr 0) := rfl
theorem fd_SR_hidden_23 : am_fd mt_SR_hidden.1 23 = (.aload_n 0,1,0,0,0,0,.retAddr 0) := rfl
theorem fd_SR_hidden_24 : am_fd mt_SR_hidden.1 24 = (.getfield 19,3,3,2,1,1,.retAddr 0) := rfl
theorem fd_SR_hidden_27 : am_fd mt_SR_hidden.1 27 = (.getfield 167,3,0,2,6,6,.retAddr 0) := rfl
theorem fd_SR_hidden_30 : am_fd mt_SR_hidden.1 30 = (.iload_n 3,1,3,0,0,0,.retAddr 0) := rfl
theorem fd_SR_hidden_31 : am_fd mt_SR_hidden.1 31 = (.aaload,1,0,0,0,0,.retAddr 0) := rfl
theorem fd_SR_hidden_32 : am_fd mt_SR_hidden.1 32 = (.lload_n 1,1,1,0,0,0,.retAddr 0) := rfl
theorem fd_SR_hidden_33 : am_fd mt_SR_hidden.1 33 = (.invokevirtual 360,3,105,2,5,0,.retAddr 0) := rfl
theorem fd_SR_hidden_36 : am_fd mt_SR_hidden.1 36 = (.ifCond .eq 21,3,57,0,0,0,.retAddr 0) := rfl
theorem fd_SR_hidden_39 : am_fd mt_SR_hidden.1 39 = (.aload_n 0,1,0,0,0,0,.retAddr 0) := rfl
theorem fd_SR_hidden_40 : am_fd mt_SR_hidden.1 40 = (.getfield 19,3,3,2,1,1,.retAddr 0) := rfl
theorem fd_SR_hidden_43 : am_fd mt_SR_hidden.1 43 = (.getfield 167,3,0,2,6,6,.retAddr 0) := rfl
theorem fd_SR_hidden_46 : am_fd mt_SR_hidden.1 46 = (.iload_n 3,1,3,0,0,0,.retAddr 0) := rfl
theorem fd_SR_hidden_47 : am_fd mt_SR_hidden.1 47 = (.aaload,1,0,0,0,0,.retAddr 0) := rfl
theorem fd_SR_hidden_48 : am_fd mt_SR_hidden.1 48 = (.lload_n 1,1,1,0,0,0,.retAddr 0) := rfl
theorem fd_SR_hidden_49 : am_fd mt_SR_hidden.1 49 = (.invokevirtual 363,3,106,2,5,0,.retAddr 0) := rfl
theorem fd_SR_hidden_52 : am_fd mt_SR_hidden.1 52 = (.ifCond .eq 5,3,57,0,0,0,.retAddr 0) := rfl
theorem fd_SR_hidden_55 : am_fd mt_SR_hidden.1 55 = (.iconst 1,1,0,0,0,0,.int 1) := rfl
theorem fd_SR_hidden_56 : am_fd mt_SR_hidden.1 56 = (.ireturn,1,1,0,0,0,.retAddr 0) := rfl
theorem fd_SR_hidden_57 : am_fd mt_SR_hidden.1 57 = (.iinc 3 1,3,3,0,0,0,.int 1) := rfl
theorem fd_SR_hidden_60 : am_fd mt_SR_hidden.1 60 = (.goto (-54),3,6,0,0,0,.retAddr 0) := rfl
theorem fd_SR_hidden_63 : am_fd mt_SR_hidden.1 63 = (.iconst 0,1,0,0,0,0,.int 0) := rfl
theorem fd_SR_hidden_64 : am_fd mt_SR_hidden.1 64 = (.ireturn,1,1,0,0,0,.retAddr 0) := rfl
theorem fd_SR_octet_0 : am_fd mt_SR_octet.1 0 = (.aload_n 0,1,0,0,0,0,.retAddr 0) := rfl
theorem fd_SR_octet_1 : am_fd mt_SR_octet.1 1 = (.iload_n 1,1,1,0,0,0,.retAddr 0) := rfl
theorem fd_SR_octet_2 : am_fd mt_SR_octet.1 2 = (.iload_n 2,1,2,0,0,0,.retAddr 0) := rfl
theorem fd_SR_octet_3 : am_fd mt_SR_octet.1 3 = (.invokevirtual 407,3,117,3,1,0,.retAddr 0) := rfl
theorem fd_SR_octet_6 : am_fd mt_SR_octet.1 6 = (.aload_n 0,1,0,0,0,0,.retAddr 0) := rfl
theorem fd_SR_octet_7 : am_fd mt_SR_octet.1 7 = (.getfield 79,3,0,2,1,1,.retAddr 0) := rfl
theorem fd_SR_octet_10 : am_fd mt_SR_octet.1 10 = (.iload_n 1,1,1,0,0,0,.retAddr 0) := rfl
theorem fd_SR_octet_11 : am_fd mt_SR_octet.1 11 = (.iload_n 2,1,2,0,0,0,.retAddr 0) := rfl
theorem fd_SR_octet_12 : am_fd mt_SR_octet.1 12 = (.invokevirtual 410,3,56,3,4,0,.retAddr 0) := rfl
theorem fd_SR_octet_15 : am_fd mt_SR_octet.1 15 = (.ireturn,1,0,0,0,0,.retAddr 0) := rfl
theorem fd_SR_requireOctet_0 : am_fd mt_SR_requireOctet.1 0 = (.aload_n 0,1,0,0,0,0,.retAddr 0) := rfl
theorem fd_SR_requireOctet_1 : am_fd mt_SR_requireOctet.1 1 = (.getfield 79,3,0,2,1,1,.retAddr 0) := rfl
theorem fd_SR_requireOctet_4 : am_fd mt_SR_requireOctet.1 4 = (.iload_n 1,1,1,0,0,0,.retAddr 0) := rfl
theorem fd_SR_requireOctet_5 : am_fd mt_SR_requireOctet.1 5 = (.invokevirtual 413,3,19,2,4,0,.retAddr 0) := rfl
theorem fd_SR_requireOctet_8 : am_fd mt_SR_requireOctet.1 8 = (.ifCond .eq 14,3,22,0,0,0,.retAddr 0) := rfl
theorem fd_SR_requireOctet_11 : am_fd mt_SR_requireOctet.1 11 = (.iload_n 2,1,2,0,0,0,.retAddr 0) := rfl
theorem fd_SR_requireOctet_12 : am_fd mt_SR_requireOctet.1 12 = (.ifCond .lt 10,3,22,0,0,0,.retAddr 0) := rfl
theorem fd_SR_requireOctet_15 : am_fd mt_SR_requireOctet.1 15 = (.iload_n 2,1,2,0,0,0,.retAddr 0) := rfl
theorem fd_SR_requireOctet_16 : am_fd mt_SR_requireOctet.1 16 = (.sipush 128,3,0,0,0,0,.int 128) := rfl
theorem fd_SR_requireOctet_19 : am_fd mt_SR_requireOctet.1 19 = (.if_icmp .lt 14,3,33,0,0,0,.retAddr 0) := rfl
theorem fd_SR_requireOctet_22 : am_fd mt_SR_requireOctet.1 22 = (.new 333,3,2,1,3,416,.ref 337) := rfl
theorem fd_SR_requireOctet_33 : am_fd mt_SR_requireOctet.1 33 = (.return_,1,0,0,0,0,.retAddr 0) := rfl
theorem fd_SR_poke_0 : am_fd mt_SR_poke.1 0 = (.aload_n 0,1,0,0,0,0,.retAddr 0) := rfl
theorem fd_SR_poke_1 : am_fd mt_SR_poke.1 1 = (.iload_n 1,1,1,0,0,0,.retAddr 0) := rfl
theorem fd_SR_poke_2 : am_fd mt_SR_poke.1 2 = (.iload_n 2,1,2,0,0,0,.retAddr 0) := rfl
theorem fd_SR_poke_3 : am_fd mt_SR_poke.1 3 = (.invokevirtual 407,3,117,3,1,0,.retAddr 0) := rfl
theorem fd_SR_poke_6 : am_fd mt_SR_poke.1 6 = (.aload_n 0,1,0,0,0,0,.retAddr 0) := rfl
theorem fd_SR_poke_7 : am_fd mt_SR_poke.1 7 = (.getfield 79,3,0,2,1,1,.retAddr 0) := rfl
theorem fd_SR_poke_10 : am_fd mt_SR_poke.1 10 = (.iload_n 1,1,1,0,0,0,.retAddr 0) := rfl
theorem fd_SR_poke_11 : am_fd mt_SR_poke.1 11 = (.invokevirtual 418,3,23,2,4,0,.retAddr 0) := rfl
theorem fd_SR_poke_14 : am_fd mt_SR_poke.1 14 = (.ifCond .ne 14,3,28,0,0,0,.retAddr 0) := rfl
theorem fd_SR_poke_17 : am_fd mt_SR_poke.1 17 = (.new 132,3,0,1,3,421,.ref 136) := rfl
theorem fd_SR_poke_28 : am_fd mt_SR_poke.1 28 = (.iload_n 3,1,3,0,0,0,.retAddr 0) := rfl
theorem fd_SR_poke_29 : am_fd mt_SR_poke.1 29 = (.iconst 1,1,0,0,0,0,.int 1) := rfl
theorem fd_SR_poke_30 : am_fd mt_SR_poke.1 30 = (.if_icmp .lt 10,3,40,0,0,0,.retAddr 0) := rfl
theorem fd_SR_poke_33 : am_fd mt_SR_poke.1 33 = (.iload_n 3,1,3,0,0,0,.retAddr 0) := rfl
theorem fd_SR_poke_34 : am_fd mt_SR_poke.1 34 = (.sipush 255,3,0,0,0,0,.int 255) := rfl
theorem fd_SR_poke_37 : am_fd mt_SR_poke.1 37 = (.if_icmp .le 14,3,51,0,0,0,.retAddr 0) := rfl
theorem fd_SR_poke_40 : am_fd mt_SR_poke.1 40 = (.new 151,3,1,1,3,423,.ref 155) := rfl
theorem fd_SR_poke_51 : am_fd mt_SR_poke.1 51 = (.aload_n 0,1,0,0,0,0,.retAddr 0) := rfl
theorem fd_SR_poke_52 : am_fd mt_SR_poke.1 52 = (.getfield 79,3,0,2,1,1,.retAddr 0) := rfl
theorem fd_SR_poke_55 : am_fd mt_SR_poke.1 55 = (.iload_n 1,1,1,0,0,0,.retAddr 0) := rfl
theorem fd_SR_poke_56 : am_fd mt_SR_poke.1 56 = (.iload_n 2,1,2,0,0,0,.retAddr 0) := rfl
theorem fd_SR_poke_57 : am_fd mt_SR_poke.1 57 = (.iload_n 3,1,3,0,0,0,.retAddr 0) := rfl
theorem fd_SR_poke_58 : am_fd mt_SR_poke.1 58 = (.invokevirtual 425,3,119,4,4,0,.retAddr 0) := rfl
theorem fd_SR_poke_61 : am_fd mt_SR_poke.1 61 = (.return_,1,0,0,0,0,.retAddr 0) := rfl
theorem fd_Pages_turn_0 : am_fd mt_Pages_turn.1 0 = (.aload_n 0,1,0,0,0,0,.retAddr 0) := rfl
theorem fd_Pages_turn_1 : am_fd mt_Pages_turn.1 1 = (.iload_n 1,1,1,0,0,0,.retAddr 0) := rfl
theorem fd_Pages_turn_2 : am_fd mt_Pages_turn.1 2 = (.invokevirtual 35,3,19,2,4,0,.retAddr 0) := rfl
theorem fd_Pages_turn_5 : am_fd mt_Pages_turn.1 5 = (.ifCond .eq 37,3,42,0,0,0,.retAddr 0) := rfl
theorem fd_Pages_turn_8 : am_fd mt_Pages_turn.1 8 = (.iload_n 2,1,2,0,0,0,.retAddr 0) := rfl
theorem fd_Pages_turn_9 : am_fd mt_Pages_turn.1 9 = (.ifCond .lt 33,3,42,0,0,0,.retAddr 0) := rfl
theorem fd_Pages_turn_12 : am_fd mt_Pages_turn.1 12 = (.iload_n 2,1,2,0,0,0,.retAddr 0) := rfl
theorem fd_Pages_turn_13 : am_fd mt_Pages_turn.1 13 = (.sipush 128,3,0,0,0,0,.int 128) := rfl
theorem fd_Pages_turn_16 : am_fd mt_Pages_turn.1 16 = (.if_icmp .ge 26,3,42,0,0,0,.retAddr 0) := rfl
theorem fd_Pages_turn_19 : am_fd mt_Pages_turn.1 19 = (.aload_n 0,1,0,0,0,0,.retAddr 0) := rfl
theorem fd_Pages_turn_20 : am_fd mt_Pages_turn.1 20 = (.getfield 27,3,1,2,4,4,.retAddr 0) := rfl
theorem fd_Pages_turn_23 : am_fd mt_Pages_turn.1 23 = (.iload_n 1,1,1,0,0,0,.retAddr 0) := rfl
theorem fd_Pages_turn_24 : am_fd mt_Pages_turn.1 24 = (.sipush 128,3,0,0,0,0,.int 128) := rfl
theorem fd_Pages_turn_27 : am_fd mt_Pages_turn.1 27 = (.imul,1,0,0,0,0,.retAddr 0) := rfl
theorem fd_Pages_turn_28 : am_fd mt_Pages_turn.1 28 = (.iload_n 2,1,2,0,0,0,.retAddr 0) := rfl
theorem fd_Pages_turn_29 : am_fd mt_Pages_turn.1 29 = (.iadd,1,0,0,0,0,.retAddr 0) := rfl
theorem fd_Pages_turn_30 : am_fd mt_Pages_turn.1 30 = (.dup2,1,0,0,0,0,.retAddr 0) := rfl
theorem fd_Pages_turn_31 : am_fd mt_Pages_turn.1 31 = (.baload,1,0,0,0,0,.retAddr 0) := rfl
theorem fd_Pages_turn_32 : am_fd mt_Pages_turn.1 32 = (.iload_n 3,1,3,0,0,0,.retAddr 0) := rfl
theorem fd_Pages_turn_33 : am_fd mt_Pages_turn.1 33 = (.i2b,1,0,0,0,0,.retAddr 0) := rfl
theorem fd_Pages_turn_34 : am_fd mt_Pages_turn.1 34 = (.ixor,1,0,0,0,0,.retAddr 0) := rfl
theorem fd_Pages_turn_35 : am_fd mt_Pages_turn.1 35 = (.i2b,1,0,0,0,0,.retAddr 0) := rfl
theorem fd_Pages_turn_36 : am_fd mt_Pages_turn.1 36 = (.bastore,1,0,0,0,0,.retAddr 0) := rfl
theorem fd_Pages_turn_37 : am_fd mt_Pages_turn.1 37 = (.aload_n 0,1,0,0,0,0,.retAddr 0) := rfl
theorem fd_Pages_turn_38 : am_fd mt_Pages_turn.1 38 = (.iload_n 1,1,1,0,0,0,.retAddr 0) := rfl
theorem fd_Pages_turn_39 : am_fd mt_Pages_turn.1 39 = (.invokevirtual 65,3,20,2,4,0,.retAddr 0) := rfl
theorem fd_Pages_turn_42 : am_fd mt_Pages_turn.1 42 = (.return_,1,0,0,0,0,.retAddr 0) := rfl
theorem fd_SR_cut_0 : am_fd mt_SR_cut.1 0 = (.iload_n 1,1,1,0,0,0,.retAddr 0) := rfl
theorem fd_SR_cut_1 : am_fd mt_SR_cut.1 1 = (.ifCond .lt 21,3,22,0,0,0,.retAddr 0) := rfl
theorem fd_SR_cut_4 : am_fd mt_SR_cut.1 4 = (.iload_n 1,1,1,0,0,0,.retAddr 0) := rfl
theorem fd_SR_cut_5 : am_fd mt_SR_cut.1 5 = (.sipush 1000,3,0,0,0,0,.int 1000) := rfl
theorem fd_SR_cut_8 : am_fd mt_SR_cut.1 8 = (.if_icmp .gt 14,3,22,0,0,0,.retAddr 0) := rfl
theorem fd_SR_cut_11 : am_fd mt_SR_cut.1 11 = (.iload_n 2,1,2,0,0,0,.retAddr 0) := rfl
theorem fd_SR_cut_12 : am_fd mt_SR_cut.1 12 = (.ifCond .lt 10,3,22,0,0,0,.retAddr 0) := rfl
theorem fd_SR_cut_15 : am_fd mt_SR_cut.1 15 = (.iload_n 2,1,2,0,0,0,.retAddr 0) := rfl
theorem fd_SR_cut_16 : am_fd mt_SR_cut.1 16 = (.sipush 128,3,0,0,0,0,.int 128) := rfl
theorem fd_SR_cut_19 : am_fd mt_SR_cut.1 19 = (.if_icmp .lt 14,3,33,0,0,0,.retAddr 0) := rfl
theorem fd_SR_cut_22 : am_fd mt_SR_cut.1 22 = (.new 151,3,1,1,3,433,.ref 155) := rfl
theorem fd_SR_cut_33 : am_fd mt_SR_cut.1 33 = (.aload_n 0,1,0,0,0,0,.retAddr 0) := rfl
theorem fd_SR_cut_34 : am_fd mt_SR_cut.1 34 = (.getfield 79,3,0,2,1,1,.retAddr 0) := rfl
theorem fd_SR_cut_37 : am_fd mt_SR_cut.1 37 = (.iload_n 1,1,1,0,0,0,.retAddr 0) := rfl
theorem fd_SR_cut_38 : am_fd mt_SR_cut.1 38 = (.putfield 435,3,5,0,4,4,.retAddr 0) := rfl
theorem fd_SR_cut_41 : am_fd mt_SR_cut.1 41 = (.aload_n 0,1,0,0,0,0,.retAddr 0) := rfl
theorem fd_SR_cut_42 : am_fd mt_SR_cut.1 42 = (.getfield 79,3,0,2,1,1,.retAddr 0) := rfl
theorem fd_SR_cut_45 : am_fd mt_SR_cut.1 45 = (.iload_n 2,1,2,0,0,0,.retAddr 0) := rfl
theorem fd_SR_cut_46 : am_fd mt_SR_cut.1 46 = (.putfield 438,3,6,0,4,4,.retAddr 0) := rfl
theorem fd_SR_cut_49 : am_fd mt_SR_cut.1 49 = (.return_,1,0,0,0,0,.retAddr 0) := rfl
theorem fd_SR_open_0 : am_fd mt_SR_open.1 0 = (.aload_n 0,1,0,0,0,0,.retAddr 0) := rfl
theorem fd_SR_open_1 : am_fd mt_SR_open.1 1 = (.getfield 61,3,15,0,1,1,.retAddr 0) := rfl
theorem fd_SR_open_4 : am_fd mt_SR_open.1 4 = (.ifCond .ne 14,3,18,0,0,0,.retAddr 0) := rfl
theorem fd_SR_open_7 : am_fd mt_SR_open.1 7 = (.new 132,3,0,1,3,442,.ref 136) := rfl
theorem fd_SR_open_18 : am_fd mt_SR_open.1 18 = (.aload_n 0,1,0,0,0,0,.retAddr 0) := rfl
theorem fd_SR_open_19 : am_fd mt_SR_open.1 19 = (.invokevirtual 444,3,122,1,1,0,.retAddr 0) := rfl
theorem fd_SR_open_22 : am_fd mt_SR_open.1 22 = (.istore_n 1,1,1,0,0,0,.retAddr 0) := rfl
theorem fd_SR_open_23 : am_fd mt_SR_open.1 23 = (.iload_n 1,1,1,0,0,0,.retAddr 0) := rfl
theorem fd_SR_open_24 : am_fd mt_SR_open.1 24 = (.iconst (-1),1,0,0,0,0,.int (-1)) := rfl
theorem fd_SR_open_25 : am_fd mt_SR_open.1 25 = (.if_icmp .ne 5,3,30,0,0,0,.retAddr 0) := rfl
theorem fd_SR_open_28 : am_fd mt_SR_open.1 28 = (.iconst (-1),1,0,0,0,0,.int (-1)) := rfl
theorem fd_SR_open_29 : am_fd mt_SR_open.1 29 = (.ireturn,1,0,0,0,0,.retAddr 0) := rfl
theorem fd_SR_open_30 : am_fd mt_SR_open.1 30 = (.aload_n 0,1,0,0,0,0,.retAddr 0) := rfl
theorem fd_SR_open_31 : am_fd mt_SR_open.1 31 = (.getfield 79,3,0,2,1,1,.retAddr 0) := rfl
theorem fd_SR_open_34 : am_fd mt_SR_open.1 34 = (.iload_n 1,1,1,0,0,0,.retAddr 0) := rfl
theorem fd_SR_open_35 : am_fd mt_SR_open.1 35 = (.bipush 6,2,0,0,0,0,.int 6) := rfl
theorem fd_SR_open_37 : am_fd mt_SR_open.1 37 = (.invokevirtual 410,3,56,3,4,0,.retAddr 0) := rfl
theorem fd_SR_open_40 : am_fd mt_SR_open.1 40 = (.istore_n 2,1,2,0,0,0,.retAddr 0) := rfl
theorem fd_SR_open_41 : am_fd mt_SR_open.1 41 = (.iconst 0,1,0,0,0,0,.int 0) := rfl
theorem fd_SR_open_42 : am_fd mt_SR_open.1 42 = (.istore_n 3,1,3,0,0,0,.retAddr 0) := rfl
theorem fd_SR_open_43 : am_fd mt_SR_open.1 43 = (.iload_n 3,1,3,0,0,0,.retAddr 0) := rfl
theorem fd_SR_open_44 : am_fd mt_SR_open.1 44 = (.iload_n 2,1,2,0,0,0,.retAddr 0) := rfl
theorem fd_SR_open_45 : am_fd mt_SR_open.1 45 = (.if_icmp .ge 111,3,156,0,0,0,.retAddr 0) := rfl
theorem fd_SR_open_48 : am_fd mt_SR_open.1 48 = (.bipush 7,2,0,0,0,0,.int 7) := rfl
theorem fd_SR_open_50 : am_fd mt_SR_open.1 50 = (.iload_n 3,1,3,0,0,0,.retAddr 0) := rfl
theorem fd_SR_open_51 : am_fd mt_SR_open.1 51 = (.bipush 7,2,0,0,0,0,.int 7) := rfl
theorem fd_SR_open_53 : am_fd mt_SR_open.1 53 = (.imul,1,0,0,0,0,.retAddr 0) := rfl
theorem fd_SR_open_54 : am_fd mt_SR_open.1 54 = (.iadd,1,0,0,0,0,.retAddr 0) := rfl
theorem fd_SR_open_55 : am_fd mt_SR_open.1 55 = (.istore 4,2,4,0,0,0,.retAddr 0) := rfl
theorem fd_SR_open_57 : am_fd mt_SR_open.1 57 = (.new 172,3,5,0,9,0,.retAddr 0) := rfl
theorem fd_SR_open_60 : am_fd mt_SR_open.1 60 = (.dup,1,0,0,0,0,.retAddr 0) := rfl
theorem fd_SR_open_61 : am_fd mt_SR_open.1 61 = (.aload_n 0,1,0,0,0,0,.retAddr 0) := rfl
theorem fd_SR_open_62 : am_fd mt_SR_open.1 62 = (.getfield 79,3,0,2,1,1,.retAddr 0) := rfl
theorem fd_SR_open_65 : am_fd mt_SR_open.1 65 = (.iload_n 1,1,1,0,0,0,.retAddr 0) := rfl
theorem fd_SR_open_66 : am_fd mt_SR_open.1 66 = (.iload 4,2,4,0,0,0,.retAddr 0) := rfl
theorem fd_SR_open_68 : am_fd mt_SR_open.1 68 = (.invokevirtual 447,3,125,3,4,0,.retAddr 0) := rfl
theorem fd_SR_open_71 : am_fd mt_SR_open.1 71 = (.aload_n 0,1,0,0,0,0,.retAddr 0) := rfl
theorem fd_SR_open_72 : am_fd mt_SR_open.1 72 = (.getfield 79,3,0,2,1,1,.retAddr 0) := rfl
theorem fd_SR_open_75 : am_fd mt_SR_open.1 75 = (.iload_n 1,1,1,0,0,0,.retAddr 0) := rfl
theorem fd_SR_open_76 : am_fd mt_SR_open.1 76 = (.iload 4,2,4,0,0,0,.retAddr 0) := rfl
theorem fd_SR_open_78 : am_fd mt_SR_open.1 78 = (.iconst 2,1,0,0,0,0,.int 2) := rfl
theorem fd_SR_open_79 : am_fd mt_SR_open.1 79 = (.iadd,1,0,0,0,0,.retAddr 0) := rfl
theorem fd_SR_open_80 : am_fd mt_SR_open.1 80 = (.invokevirtual 410,3,56,3,4,0,.retAddr 0) := rfl
theorem fd_SR_open_83 : am_fd mt_SR_open.1 83 = (.invokespecial 273,3,4,3,5,0,.retAddr 0) := rfl
theorem fd_SR_open_86 : am_fd mt_SR_open.1 86 = (.astore 5,2,5,0,0,0,.retAddr 0) := rfl
theorem fd_SR_open_88 : am_fd mt_SR_open.1 88 = (.aload 5,2,5,0,0,0,.retAddr 0) := rfl
theorem fd_SR_open_90 : am_fd mt_SR_open.1 90 = (.aload_n 0,1,0,0,0,0,.retAddr 0) := rfl
theorem fd_SR_open_91 : am_fd mt_SR_open.1 91 = (.getfield 79,3,0,2,1,1,.retAddr 0) := rfl
theorem fd_SR_open_94 : am_fd mt_SR_open.1 94 = (.iload_n 1,1,1,0,0,0,.retAddr 0) := rfl
theorem fd_SR_open_95 : am_fd mt_SR_open.1 95 = (.iload 4,2,4,0,0,0,.retAddr 0) := rfl
theorem fd_SR_open_97 : am_fd mt_SR_open.1 97 = (.iconst 3,1,0,0,0,0,.int 3) := rfl
theorem fd_SR_open_98 : am_fd mt_SR_open.1 98 = (.iadd,1,0,0,0,0,.retAddr 0) := rfl
theorem fd_SR_open_99 : am_fd mt_SR_open.1 99 = (.invokevirtual 447,3,125,3,4,0,.retAddr 0) := rfl
theorem fd_SR_open_102 : am_fd mt_SR_open.1 102 = (.putfield 224,3,3,0,5,5,.retAddr 0) := rfl
theorem fd_SR_open_105 : am_fd mt_SR_open.1 105 = (.aload_n 0,1,0,0,0,0,.retAddr 0) := rfl
theorem fd_SR_open_106 : am_fd mt_SR_open.1 106 = (.aload 5,2,5,0,0,0,.retAddr 0) := rfl
theorem fd_SR_open_108 : am_fd mt_SR_open.1 108 = (.aload_n 0,1,0,0,0,0,.retAddr 0) := rfl
theorem fd_SR_open_109 : am_fd mt_SR_open.1 109 = (.getfield 79,3,0,2,1,1,.retAddr 0) := rfl
theorem fd_SR_open_112 : am_fd mt_SR_open.1 112 = (.iload_n 1,1,1,0,0,0,.retAddr 0) := rfl
theorem fd_SR_open_113 : am_fd mt_SR_open.1 113 = (.iload 4,2,4,0,0,0,.retAddr 0) := rfl
theorem fd_SR_open_115 : am_fd mt_SR_open.1 115 = (.iconst 5,1,0,0,0,0,.int 5) := rfl
theorem fd_SR_open_116 : am_fd mt_SR_open.1 116 = (.iadd,1,0,0,0,0,.retAddr 0) := rfl
theorem fd_SR_open_117 : am_fd mt_SR_open.1 117 = (.invokevirtual 447,3,125,3,4,0,.retAddr 0) := rfl
theorem fd_SR_open_120 : am_fd mt_SR_open.1 120 = (.invokevirtual 449,3,126,3,1,0,.retAddr 0) := rfl
theorem fd_SR_open_123 : am_fd mt_SR_open.1 123 = (.istore 6,2,6,0,0,0,.retAddr 0) := rfl
theorem fd_SR_open_125 : am_fd mt_SR_open.1 125 = (.iload 6,2,6,0,0,0,.retAddr 0) := rfl
theorem fd_SR_open_127 : am_fd mt_SR_open.1 127 = (.iconst (-1),1,0,0,0,0,.int (-1)) := rfl
theorem fd_SR_open_128 : am_fd mt_SR_open.1 128 = (.if_icmp .eq 13,3,141,0,0,0,.retAddr 0) := rfl
theorem fd_SR_open_131 : am_fd mt_SR_open.1 131 = (.aload_n 0,1,0,0,0,0,.retAddr 0) := rfl
theorem fd_SR_open_132 : am_fd mt_SR_open.1 132 = (.invokevirtual 301,3,28,1,1,0,.retAddr 0) := rfl
theorem fd_SR_open_135 : am_fd mt_SR_open.1 135 = (.bipush (-2),2,0,0,0,0,.int (-2)) := rfl
theorem fd_SR_open_137 : am_fd mt_SR_open.1 137 = (.iload 6,2,6,0,0,0,.retAddr 0) := rfl
theorem fd_SR_open_139 : am_fd mt_SR_open.1 139 = (.isub,1,0,0,0,0,.retAddr 0) := rfl
theorem fd_SR_open_140 : am_fd mt_SR_open.1 140 = (.ireturn,1,0,0,0,0,.retAddr 0) := rfl
theorem fd_SR_open_141 : am_fd mt_SR_open.1 141 = (.aload_n 0,1,0,0,0,0,.retAddr 0) := rfl
theorem fd_SR_open_142 : am_fd mt_SR_open.1 142 = (.getfield 19,3,3,2,1,1,.retAddr 0) := rfl
theorem fd_SR_open_145 : am_fd mt_SR_open.1 145 = (.aload 5,2,5,0,0,0,.retAddr 0) := rfl
theorem fd_SR_open_147 : am_fd mt_SR_open.1 147 = (.invokevirtual 453,3,97,2,6,0,.retAddr 0) := rfl
theorem fd_SR_open_150 : am_fd mt_SR_open.1 150 = (.iinc 3 1,3,3,0,0,0,.int 1) := rfl
theorem fd_SR_open_153 : am_fd mt_SR_open.1 153 = (.goto (-110),3,43,0,0,0,.retAddr 0) := rfl
theorem fd_SR_open_156 : am_fd mt_SR_open.1 156 = (.aload_n 0,1,0,0,0,0,.retAddr 0) := rfl
theorem fd_SR_open_157 : am_fd mt_SR_open.1 157 = (.aload_n 0,1,0,0,0,0,.retAddr 0) := rfl
theorem fd_SR_open_158 : am_fd mt_SR_open.1 158 = (.getfield 79,3,0,2,1,1,.retAddr 0) := rfl
theorem fd_SR_open_161 : am_fd mt_SR_open.1 161 = (.iload_n 1,1,1,0,0,0,.retAddr 0) := rfl
theorem fd_SR_open_162 : am_fd mt_SR_open.1 162 = (.iconst 0,1,0,0,0,0,.int 0) := rfl
theorem fd_SR_open_163 : am_fd mt_SR_open.1 163 = (.invokevirtual 456,3,124,3,4,0,.retAddr 0) := rfl
theorem fd_SR_open_166 : am_fd mt_SR_open.1 166 = (.l2i,1,0,0,0,0,.retAddr 0) := rfl
theorem fd_SR_open_167 : am_fd mt_SR_open.1 167 = (.putfield 52,3,12,0,1,1,.retAddr 0) := rfl
theorem fd_SR_open_170 : am_fd mt_SR_open.1 170 = (.aload_n 0,1,0,0,0,0,.retAddr 0) := rfl
theorem fd_SR_open_171 : am_fd mt_SR_open.1 171 = (.aload_n 0,1,0,0,0,0,.retAddr 0) := rfl
theorem fd_SR_open_172 : am_fd mt_SR_open.1 172 = (.getfield 79,3,0,2,1,1,.retAddr 0) := rfl
theorem fd_SR_open_175 : am_fd mt_SR_open.1 175 = (.iload_n 1,1,1,0,0,0,.retAddr 0) := rfl
theorem fd_SR_open_176 : am_fd mt_SR_open.1 176 = (.iconst 4,1,0,0,0,0,.int 4) := rfl
theorem fd_SR_open_177 : am_fd mt_SR_open.1 177 = (.invokevirtual 447,3,125,3,4,0,.retAddr 0) := rfl
theorem fd_SR_open_180 : am_fd mt_SR_open.1 180 = (.putfield 55,3,13,0,1,1,.retAddr 0) := rfl
theorem fd_SR_open_183 : am_fd mt_SR_open.1 183 = (.aload_n 0,1,0,0,0,0,.retAddr 0) := rfl
theorem fd_SR_open_184 : am_fd mt_SR_open.1 184 = (.iconst 0,1,0,0,0,0,.int 0) := rfl
theorem fd_SR_open_185 : am_fd mt_SR_open.1 185 = (.putfield 61,3,15,3,1,1,.retAddr 0) := rfl
theorem fd_SR_open_188 : am_fd mt_SR_open.1 188 = (.aload_n 0,1,0,0,0,0,.retAddr 0) := rfl
theorem fd_SR_open_189 : am_fd mt_SR_open.1 189 = (.getfield 19,3,3,2,1,1,.retAddr 0) := rfl
theorem fd_SR_open_192 : am_fd mt_SR_open.1 192 = (.getfield 243,3,1,0,6,6,.retAddr 0) := rfl
theorem fd_SR_open_195 : am_fd mt_SR_open.1 195 = (.ireturn,1,0,0,0,0,.retAddr 0) := rfl
theorem fd_SR_newestHead_0 : am_fd mt_SR_newestHead.1 0 = (.aload_n 0,1,0,0,0,0,.retAddr 0) := rfl
theorem fd_SR_newestHead_1 : am_fd mt_SR_newestHead.1 1 = (.iconst 0,1,0,0,0,0,.int 0) := rfl
theorem fd_SR_newestHead_2 : am_fd mt_SR_newestHead.1 2 = (.invokevirtual 460,3,123,2,1,0,.retAddr 0) := rfl
theorem fd_SR_newestHead_5 : am_fd mt_SR_newestHead.1 5 = (.istore_n 1,1,1,0,0,0,.retAddr 0) := rfl
theorem fd_SR_newestHead_6 : am_fd mt_SR_newestHead.1 6 = (.aload_n 0,1,0,0,0,0,.retAddr 0) := rfl
theorem fd_SR_newestHead_7 : am_fd mt_SR_newestHead.1 7 = (.iconst 1,1,0,0,0,0,.int 1) := rfl
theorem fd_SR_newestHead_8 : am_fd mt_SR_newestHead.1 8 = (.invokevirtual 460,3,123,2,1,0,.retAddr 0) := rfl
theorem fd_SR_newestHead_11 : am_fd mt_SR_newestHead.1 11 = (.istore_n 2,1,2,0,0,0,.retAddr 0) := rfl
theorem fd_SR_newestHead_12 : am_fd mt_SR_newestHead.1 12 = (.iload_n 1,1,1,0,0,0,.retAddr 0) := rfl
theorem fd_SR_newestHead_13 : am_fd mt_SR_newestHead.1 13 = (.ifCond .eq 35,3,48,0,0,0,.retAddr 0) := rfl
theorem fd_SR_newestHead_16 : am_fd mt_SR_newestHead.1 16 = (.iload_n 2,1,2,0,0,0,.retAddr 0) := rfl
theorem fd_SR_newestHead_17 : am_fd mt_SR_newestHead.1 17 = (.ifCond .eq 31,3,48,0,0,0,.retAddr 0) := rfl
theorem fd_SR_newestHead_20 : am_fd mt_SR_newestHead.1 20 = (.aload_n 0,1,0,0,0,0,.retAddr 0) := rfl
theorem fd_SR_newestHead_21 : am_fd mt_SR_newestHead.1 21 = (.getfield 79,3,0,2,1,1,.retAddr 0) := rfl
theorem fd_SR_newestHead_24 : am_fd mt_SR_newestHead.1 24 = (.iconst 0,1,0,0,0,0,.int 0) := rfl
theorem fd_SR_newestHead_25 : am_fd mt_SR_newestHead.1 25 = (.iconst 0,1,0,0,0,0,.int 0) := rfl
theorem fd_SR_newestHead_26 : am_fd mt_SR_newestHead.1 26 = (.invokevirtual 456,3,124,3,4,0,.retAddr 0) := rfl
theorem fd_SR_newestHead_29 : am_fd mt_SR_newestHead.1 29 = (.aload_n 0,1,0,0,0,0,.retAddr 0) := rfl
theorem fd_SR_newestHead_30 : am_fd mt_SR_newestHead.1 30 = (.getfield 79,3,0,2,1,1,.retAddr 0) := rfl
theorem fd_SR_newestHead_33 : am_fd mt_SR_newestHead.1 33 = (.iconst 1,1,0,0,0,0,.int 1) := rfl
theorem fd_SR_newestHead_34 : am_fd mt_SR_newestHead.1 34 = (.iconst 0,1,0,0,0,0,.int 0) := rfl
theorem fd_SR_newestHead_35 : am_fd mt_SR_newestHead.1 35 = (.invokevirtual 456,3,124,3,4,0,.retAddr 0) := rfl
theorem fd_SR_newestHead_38 : am_fd mt_SR_newestHead.1 38 = (.lcmp,1,0,0,0,0,.retAddr 0) := rfl
theorem fd_SR_newestHead_39 : am_fd mt_SR_newestHead.1 39 = (.ifCond .le 7,3,46,0,0,0,.retAddr 0) := rfl
theorem fd_SR_newestHead_42 : am_fd mt_SR_newestHead.1 42 = (.iconst 0,1,0,0,0,0,.int 0) := rfl
theorem fd_SR_newestHead_43 : am_fd mt_SR_newestHead.1 43 = (.goto 4,3,47,0,0,0,.retAddr 0) := rfl
theorem fd_SR_newestHead_46 : am_fd mt_SR_newestHead.1 46 = (.iconst 1,1,0,0,0,0,.int 1) := rfl
theorem fd_SR_newestHead_47 : am_fd mt_SR_newestHead.1 47 = (.ireturn,1,0,0,0,0,.retAddr 0) := rfl
theorem fd_SR_newestHead_48 : am_fd mt_SR_newestHead.1 48 = (.iload_n 1,1,1,0,0,0,.retAddr 0) := rfl
theorem fd_SR_newestHead_49 : am_fd mt_SR_newestHead.1 49 = (.ifCond .eq 7,3,56,0,0,0,.retAddr 0) := rfl
theorem fd_SR_newestHead_52 : am_fd mt_SR_newestHead.1 52 = (.iconst 0,1,0,0,0,0,.int 0) := rfl
theorem fd_SR_newestHead_53 : am_fd mt_SR_newestHead.1 53 = (.goto 12,3,65,0,0,0,.retAddr 0) := rfl
theorem fd_SR_newestHead_56 : am_fd mt_SR_newestHead.1 56 = (.iload_n 2,1,2,0,0,0,.retAddr 0) := rfl
theorem fd_SR_newestHead_57 : am_fd mt_SR_newestHead.1 57 = (.ifCond .eq 7,3,64,0,0,0,.retAddr 0) := rfl
theorem fd_SR_newestHead_60 : am_fd mt_SR_newestHead.1 60 = (.iconst 1,1,0,0,0,0,.int 1) := rfl
theorem fd_SR_newestHead_61 : am_fd mt_SR_newestHead.1 61 = (.goto 4,3,65,0,0,0,.retAddr 0) := rfl
theorem fd_SR_newestHead_64 : am_fd mt_SR_newestHead.1 64 = (.iconst (-1),1,0,0,0,0,.int (-1)) := rfl
theorem fd_SR_newestHead_65 : am_fd mt_SR_newestHead.1 65 = (.ireturn,1,0,0,0,0,.retAddr 0) := rfl
theorem fd_SR_headIsRight_0 : am_fd mt_SR_headIsRight.1 0 = (.aload_n 0,1,0,0,0,0,.retAddr 0) := rfl
theorem fd_SR_headIsRight_1 : am_fd mt_SR_headIsRight.1 1 = (.getfield 79,3,0,2,1,1,.retAddr 0) := rfl
theorem fd_SR_headIsRight_4 : am_fd mt_SR_headIsRight.1 4 = (.iload_n 1,1,1,0,0,0,.retAddr 0) := rfl
theorem fd_SR_headIsRight_5 : am_fd mt_SR_headIsRight.1 5 = (.iconst 0,1,0,0,0,0,.int 0) := rfl
theorem fd_SR_headIsRight_6 : am_fd mt_SR_headIsRight.1 6 = (.invokevirtual 456,3,124,3,4,0,.retAddr 0) := rfl
theorem fd_SR_headIsRight_9 : am_fd mt_SR_headIsRight.1 9 = (.lstore_n 2,1,2,0,0,0,.retAddr 0) := rfl
theorem fd_SR_headIsRight_10 : am_fd mt_SR_headIsRight.1 10 = (.aload_n 0,1,0,0,0,0,.retAddr 0) := rfl
theorem fd_SR_headIsRight_11 : am_fd mt_SR_headIsRight.1 11 = (.getfield 79,3,0,2,1,1,.retAddr 0) := rfl
theorem fd_SR_headIsRight_14 : am_fd mt_SR_headIsRight.1 14 = (.iload_n 1,1,1,0,0,0,.retAddr 0) := rfl
theorem fd_SR_headIsRight_15 : am_fd mt_SR_headIsRight.1 15 = (.bipush 6,2,0,0,0,0,.int 6) := rfl
theorem fd_SR_headIsRight_17 : am_fd mt_SR_headIsRight.1 17 = (.invokevirtual 410,3,56,3,4,0,.retAddr 0) := rfl
theorem fd_SR_headIsRight_20 : am_fd mt_SR_headIsRight.1 20 = (.istore 4,2,4,0,0,0,.retAddr 0) := rfl
theorem fd_SR_headIsRight_22 : am_fd mt_SR_headIsRight.1 22 = (.aload_n 0,1,0,0,0,0,.retAddr 0) := rfl
theorem fd_SR_headIsRight_23 : am_fd mt_SR_headIsRight.1 23 = (.getfield 79,3,0,2,1,1,.retAddr 0) := rfl
theorem fd_SR_headIsRight_26 : am_fd mt_SR_headIsRight.1 26 = (.iload_n 1,1,1,0,0,0,.retAddr 0) := rfl
theorem fd_SR_headIsRight_27 : am_fd mt_SR_headIsRight.1 27 = (.invokevirtual 418,3,23,2,4,0,.retAddr 0) := rfl
theorem fd_SR_headIsRight_30 : am_fd mt_SR_headIsRight.1 30 = (.ifCond .eq 25,3,55,0,0,0,.retAddr 0) := rfl
theorem fd_SR_headIsRight_33 : am_fd mt_SR_headIsRight.1 33 = (.lload_n 2,1,2,0,0,0,.retAddr 0) := rfl
theorem fd_SR_headIsRight_34 : am_fd mt_SR_headIsRight.1 34 = (.lconst 0,1,0,0,0,0,.long 0) := rfl
theorem fd_SR_headIsRight_35 : am_fd mt_SR_headIsRight.1 35 = (.lcmp,1,0,0,0,0,.retAddr 0) := rfl
theorem fd_SR_headIsRight_36 : am_fd mt_SR_headIsRight.1 36 = (.ifCond .eq 19,3,55,0,0,0,.retAddr 0) := rfl
theorem fd_SR_headIsRight_39 : am_fd mt_SR_headIsRight.1 39 = (.lload_n 2,1,2,0,0,0,.retAddr 0) := rfl
theorem fd_SR_headIsRight_40 : am_fd mt_SR_headIsRight.1 40 = (.lconst 1,1,0,0,0,0,.long 1) := rfl
theorem fd_SR_headIsRight_41 : am_fd mt_SR_headIsRight.1 41 = (.land,1,0,0,0,0,.retAddr 0) := rfl
theorem fd_SR_headIsRight_42 : am_fd mt_SR_headIsRight.1 42 = (.iload_n 1,1,1,0,0,0,.retAddr 0) := rfl
theorem fd_SR_headIsRight_43 : am_fd mt_SR_headIsRight.1 43 = (.i2l,1,0,0,0,0,.retAddr 0) := rfl
theorem fd_SR_headIsRight_44 : am_fd mt_SR_headIsRight.1 44 = (.lcmp,1,0,0,0,0,.retAddr 0) := rfl
theorem fd_SR_headIsRight_45 : am_fd mt_SR_headIsRight.1 45 = (.ifCond .ne 10,3,55,0,0,0,.retAddr 0) := rfl
theorem fd_SR_headIsRight_48 : am_fd mt_SR_headIsRight.1 48 = (.iload 4,2,4,0,0,0,.retAddr 0) := rfl
theorem fd_SR_headIsRight_50 : am_fd mt_SR_headIsRight.1 50 = (.bipush 9,2,0,0,0,0,.int 9) := rfl
theorem fd_SR_headIsRight_52 : am_fd mt_SR_headIsRight.1 52 = (.if_icmp .le 5,3,57,0,0,0,.retAddr 0) := rfl
theorem fd_SR_headIsRight_55 : am_fd mt_SR_headIsRight.1 55 = (.iconst 0,1,0,0,0,0,.int 0) := rfl
theorem fd_SR_headIsRight_56 : am_fd mt_SR_headIsRight.1 56 = (.ireturn,1,1,0,0,0,.retAddr 0) := rfl
theorem fd_SR_headIsRight_57 : am_fd mt_SR_headIsRight.1 57 = (.iconst 0,1,0,0,0,0,.int 0) := rfl
theorem fd_SR_headIsRight_58 : am_fd mt_SR_headIsRight.1 58 = (.istore 5,2,5,0,0,0,.retAddr 0) := rfl
theorem fd_SR_headIsRight_60 : am_fd mt_SR_headIsRight.1 60 = (.iconst 0,1,0,0,0,0,.int 0) := rfl
theorem fd_SR_headIsRight_61 : am_fd mt_SR_headIsRight.1 61 = (.istore 6,2,6,0,0,0,.retAddr 0) := rfl
theorem fd_SR_headIsRight_63 : am_fd mt_SR_headIsRight.1 63 = (.iconst 0,1,0,0,0,0,.int 0) := rfl
theorem fd_SR_headIsRight_64 : am_fd mt_SR_headIsRight.1 64 = (.istore 7,2,7,0,0,0,.retAddr 0) := rfl
theorem fd_SR_headIsRight_66 : am_fd mt_SR_headIsRight.1 66 = (.iload 7,2,7,0,0,0,.retAddr 0) := rfl
theorem fd_SR_headIsRight_68 : am_fd mt_SR_headIsRight.1 68 = (.iload 4,2,4,0,0,0,.retAddr 0) := rfl
theorem fd_SR_headIsRight_70 : am_fd mt_SR_headIsRight.1 70 = (.if_icmp .ge 112,3,182,0,0,0,.retAddr 0) := rfl
theorem fd_SR_headIsRight_73 : am_fd mt_SR_headIsRight.1 73 = (.bipush 7,2,0,0,0,0,.int 7) := rfl
theorem fd_SR_headIsRight_75 : am_fd mt_SR_headIsRight.1 75 = (.iload 7,2,7,0,0,0,.retAddr 0) := rfl
theorem fd_SR_headIsRight_77 : am_fd mt_SR_headIsRight.1 77 = (.bipush 7,2,0,0,0,0,.int 7) := rfl
theorem fd_SR_headIsRight_79 : am_fd mt_SR_headIsRight.1 79 = (.imul,1,0,0,0,0,.retAddr 0) := rfl
theorem fd_SR_headIsRight_80 : am_fd mt_SR_headIsRight.1 80 = (.iadd,1,0,0,0,0,.retAddr 0) := rfl
theorem fd_SR_headIsRight_81 : am_fd mt_SR_headIsRight.1 81 = (.istore 8,2,8,0,0,0,.retAddr 0) := rfl
theorem fd_SR_headIsRight_83 : am_fd mt_SR_headIsRight.1 83 = (.aload_n 0,1,0,0,0,0,.retAddr 0) := rfl
theorem fd_SR_headIsRight_84 : am_fd mt_SR_headIsRight.1 84 = (.getfield 79,3,0,2,1,1,.retAddr 0) := rfl
theorem fd_SR_headIsRight_87 : am_fd mt_SR_headIsRight.1 87 = (.iload_n 1,1,1,0,0,0,.retAddr 0) := rfl
theorem fd_SR_headIsRight_88 : am_fd mt_SR_headIsRight.1 88 = (.iload 8,2,8,0,0,0,.retAddr 0) := rfl
theorem fd_SR_headIsRight_90 : am_fd mt_SR_headIsRight.1 90 = (.iconst 2,1,0,0,0,0,.int 2) := rfl
theorem fd_SR_headIsRight_91 : am_fd mt_SR_headIsRight.1 91 = (.iadd,1,0,0,0,0,.retAddr 0) := rfl
theorem fd_SR_headIsRight_92 : am_fd mt_SR_headIsRight.1 92 = (.invokevirtual 410,3,56,3,4,0,.retAddr 0) := rfl
theorem fd_SR_headIsRight_95 : am_fd mt_SR_headIsRight.1 95 = (.istore 9,2,9,0,0,0,.retAddr 0) := rfl
theorem fd_SR_headIsRight_97 : am_fd mt_SR_headIsRight.1 97 = (.iload 9,2,9,0,0,0,.retAddr 0) := rfl
theorem fd_SR_headIsRight_99 : am_fd mt_SR_headIsRight.1 99 = (.ifCond .ne 16,3,115,0,0,0,.retAddr 0) := rfl
theorem fd_SR_headIsRight_102 : am_fd mt_SR_headIsRight.1 102 = (.iload 6,2,6,0,0,0,.retAddr 0) := rfl
theorem fd_SR_headIsRight_104 : am_fd mt_SR_headIsRight.1 104 = (.ifCond .ne 7,3,111,0,0,0,.retAddr 0) := rfl
theorem fd_SR_headIsRight_107 : am_fd mt_SR_headIsRight.1 107 = (.iconst 1,1,0,0,0,0,.int 1) := rfl
theorem fd_SR_headIsRight_108 : am_fd mt_SR_headIsRight.1 108 = (.goto 19,3,127,0,0,0,.retAddr 0) := rfl
theorem fd_SR_headIsRight_111 : am_fd mt_SR_headIsRight.1 111 = (.iconst 0,1,0,0,0,0,.int 0) := rfl
theorem fd_SR_headIsRight_112 : am_fd mt_SR_headIsRight.1 112 = (.goto 15,3,127,0,0,0,.retAddr 0) := rfl
theorem fd_SR_headIsRight_115 : am_fd mt_SR_headIsRight.1 115 = (.iload 9,2,9,0,0,0,.retAddr 0) := rfl
theorem fd_SR_headIsRight_117 : am_fd mt_SR_headIsRight.1 117 = (.iload 6,2,6,0,0,0,.retAddr 0) := rfl
theorem fd_SR_headIsRight_119 : am_fd mt_SR_headIsRight.1 119 = (.if_icmp .le 7,3,126,0,0,0,.retAddr 0) := rfl
theorem fd_SR_headIsRight_122 : am_fd mt_SR_headIsRight.1 122 = (.iconst 1,1,0,0,0,0,.int 1) := rfl
theorem fd_SR_headIsRight_123 : am_fd mt_SR_headIsRight.1 123 = (.goto 4,3,127,0,0,0,.retAddr 0) := rfl
theorem fd_SR_headIsRight_126 : am_fd mt_SR_headIsRight.1 126 = (.iconst 0,1,0,0,0,0,.int 0) := rfl
theorem fd_SR_headIsRight_127 : am_fd mt_SR_headIsRight.1 127 = (.istore 10,2,10,0,0,0,.retAddr 0) := rfl
theorem fd_SR_headIsRight_129 : am_fd mt_SR_headIsRight.1 129 = (.iload 10,2,10,0,0,0,.retAddr 0) := rfl
theorem fd_SR_headIsRight_131 : am_fd mt_SR_headIsRight.1 131 = (.ifCond .eq 24,3,155,0,0,0,.retAddr 0) := rfl
theorem fd_SR_headIsRight_134 : am_fd mt_SR_headIsRight.1 134 = (.iload 9,2,9,0,0,0,.retAddr 0) := rfl
theorem fd_SR_headIsRight_136 : am_fd mt_SR_headIsRight.1 136 = (.iconst 3,1,0,0,0,0,.int 3) := rfl
theorem fd_SR_headIsRight_137 : am_fd mt_SR_headIsRight.1 137 = (.if_icmp .gt 18,3,155,0,0,0,.retAddr 0) := rfl
theorem fd_SR_headIsRight_140 : am_fd mt_SR_headIsRight.1 140 = (.aload_n 0,1,0,0,0,0,.retAddr 0) := rfl
theorem fd_SR_headIsRight_141 : am_fd mt_SR_headIsRight.1 141 = (.getfield 79,3,0,2,1,1,.retAddr 0) := rfl
theorem fd_SR_headIsRight_144 : am_fd mt_SR_headIsRight.1 144 = (.iload_n 1,1,1,0,0,0,.retAddr 0) := rfl
theorem fd_SR_headIsRight_145 : am_fd mt_SR_headIsRight.1 145 = (.iload 8,2,8,0,0,0,.retAddr 0) := rfl
theorem fd_SR_headIsRight_147 : am_fd mt_SR_headIsRight.1 147 = (.iconst 5,1,0,0,0,0,.int 5) := rfl
theorem fd_SR_headIsRight_148 : am_fd mt_SR_headIsRight.1 148 = (.iadd,1,0,0,0,0,.retAddr 0) := rfl
theorem fd_SR_headIsRight_149 : am_fd mt_SR_headIsRight.1 149 = (.invokevirtual 447,3,125,3,4,0,.retAddr 0) := rfl
theorem fd_SR_headIsRight_152 : am_fd mt_SR_headIsRight.1 152 = (.ifCond .ne 5,3,157,0,0,0,.retAddr 0) := rfl
theorem fd_SR_headIsRight_155 : am_fd mt_SR_headIsRight.1 155 = (.iconst 0,1,0,0,0,0,.int 0) := rfl
theorem fd_SR_headIsRight_156 : am_fd mt_SR_headIsRight.1 156 = (.ireturn,1,1,0,0,0,.retAddr 0) := rfl
theorem fd_SR_headIsRight_157 : am_fd mt_SR_headIsRight.1 157 = (.iload 5,2,5,0,0,0,.retAddr 0) := rfl
theorem fd_SR_headIsRight_159 : am_fd mt_SR_headIsRight.1 159 = (.iload 9,2,9,0,0,0,.retAddr 0) := rfl
theorem fd_SR_headIsRight_161 : am_fd mt_SR_headIsRight.1 161 = (.ifCond .ne 7,3,168,0,0,0,.retAddr 0) := rfl
theorem fd_SR_headIsRight_164 : am_fd mt_SR_headIsRight.1 164 = (.iconst 1,1,0,0,0,0,.int 1) := rfl
theorem fd_SR_headIsRight_165 : am_fd mt_SR_headIsRight.1 165 = (.goto 4,3,169,0,0,0,.retAddr 0) := rfl
theorem fd_SR_headIsRight_168 : am_fd mt_SR_headIsRight.1 168 = (.iconst 0,1,0,0,0,0,.int 0) := rfl
theorem fd_SR_headIsRight_169 : am_fd mt_SR_headIsRight.1 169 = (.iadd,1,0,0,0,0,.retAddr 0) := rfl
theorem fd_SR_headIsRight_170 : am_fd mt_SR_headIsRight.1 170 = (.istore 5,2,5,0,0,0,.retAddr 0) := rfl
theorem fd_SR_headIsRight_172 : am_fd mt_SR_headIsRight.1 172 = (.iload 9,2,9,0,0,0,.retAddr 0) := rfl
theorem fd_SR_headIsRight_174 : am_fd mt_SR_headIsRight.1 174 = (.istore 6,2,6,0,0,0,.retAddr 0) := rfl
theorem fd_SR_headIsRight_176 : am_fd mt_SR_headIsRight.1 176 = (.iinc 7 1,3,7,0,0,0,.int 1) := rfl
theorem fd_SR_headIsRight_179 : am_fd mt_SR_headIsRight.1 179 = (.goto (-113),3,66,0,0,0,.retAddr 0) := rfl
theorem fd_SR_headIsRight_182 : am_fd mt_SR_headIsRight.1 182 = (.iload 5,2,5,0,0,0,.retAddr 0) := rfl
theorem fd_SR_headIsRight_184 : am_fd mt_SR_headIsRight.1 184 = (.bipush 6,2,0,0,0,0,.int 6) := rfl
theorem fd_SR_headIsRight_186 : am_fd mt_SR_headIsRight.1 186 = (.if_icmp .gt 7,3,193,0,0,0,.retAddr 0) := rfl
theorem fd_SR_headIsRight_189 : am_fd mt_SR_headIsRight.1 189 = (.iconst 1,1,0,0,0,0,.int 1) := rfl
theorem fd_SR_headIsRight_190 : am_fd mt_SR_headIsRight.1 190 = (.goto 4,3,194,0,0,0,.retAddr 0) := rfl
theorem fd_SR_headIsRight_193 : am_fd mt_SR_headIsRight.1 193 = (.iconst 0,1,0,0,0,0,.int 0) := rfl
theorem fd_SR_headIsRight_194 : am_fd mt_SR_headIsRight.1 194 = (.ireturn,1,1,0,0,0,.retAddr 0) := rfl
theorem fd_Pages_four_0 : am_fd mt_Pages_four.1 0 = (.aload_n 0,1,0,0,0,0,.retAddr 0) := rfl
theorem fd_Pages_four_1 : am_fd mt_Pages_four.1 1 = (.iload_n 1,1,1,0,0,0,.retAddr 0) := rfl
theorem fd_Pages_four_2 : am_fd mt_Pages_four.1 2 = (.iload_n 2,1,2,0,0,0,.retAddr 0) := rfl
theorem fd_Pages_four_3 : am_fd mt_Pages_four.1 3 = (.invokevirtual 43,3,125,3,4,0,.retAddr 0) := rfl
theorem fd_Pages_four_6 : am_fd mt_Pages_four.1 6 = (.i2l,1,0,0,0,0,.retAddr 0) := rfl
theorem fd_Pages_four_7 : am_fd mt_Pages_four.1 7 = (.bipush 16,2,0,0,0,0,.int 16) := rfl
theorem fd_Pages_four_9 : am_fd mt_Pages_four.1 9 = (.lshl,1,0,0,0,0,.retAddr 0) := rfl
theorem fd_Pages_four_10 : am_fd mt_Pages_four.1 10 = (.aload_n 0,1,0,0,0,0,.retAddr 0) := rfl
theorem fd_Pages_four_11 : am_fd mt_Pages_four.1 11 = (.iload_n 1,1,1,0,0,0,.retAddr 0) := rfl
theorem fd_Pages_four_12 : am_fd mt_Pages_four.1 12 = (.iload_n 2,1,2,0,0,0,.retAddr 0) := rfl
theorem fd_Pages_four_13 : am_fd mt_Pages_four.1 13 = (.iconst 2,1,0,0,0,0,.int 2) := rfl
theorem fd_Pages_four_14 : am_fd mt_Pages_four.1 14 = (.iadd,1,0,0,0,0,.retAddr 0) := rfl
theorem fd_Pages_four_15 : am_fd mt_Pages_four.1 15 = (.invokevirtual 43,3,125,3,4,0,.retAddr 0) := rfl
theorem fd_Pages_four_18 : am_fd mt_Pages_four.1 18 = (.i2l,1,0,0,0,0,.retAddr 0) := rfl
theorem fd_Pages_four_19 : am_fd mt_Pages_four.1 19 = (.lor,1,0,0,0,0,.retAddr 0) := rfl
theorem fd_Pages_four_20 : am_fd mt_Pages_four.1 20 = (.lreturn,1,0,0,0,0,.retAddr 0) := rfl
theorem fd_Pages_two_0 : am_fd mt_Pages_two.1 0 = (.aload_n 0,1,0,0,0,0,.retAddr 0) := rfl
theorem fd_Pages_two_1 : am_fd mt_Pages_two.1 1 = (.iload_n 1,1,1,0,0,0,.retAddr 0) := rfl
theorem fd_Pages_two_2 : am_fd mt_Pages_two.1 2 = (.iload_n 2,1,2,0,0,0,.retAddr 0) := rfl
theorem fd_Pages_two_3 : am_fd mt_Pages_two.1 3 = (.invokevirtual 39,3,56,3,4,0,.retAddr 0) := rfl
theorem fd_Pages_two_6 : am_fd mt_Pages_two.1 6 = (.bipush 8,2,0,0,0,0,.int 8) := rfl
theorem fd_Pages_two_8 : am_fd mt_Pages_two.1 8 = (.ishl,1,0,0,0,0,.retAddr 0) := rfl
theorem fd_Pages_two_9 : am_fd mt_Pages_two.1 9 = (.aload_n 0,1,0,0,0,0,.retAddr 0) := rfl
theorem fd_Pages_two_10 : am_fd mt_Pages_two.1 10 = (.iload_n 1,1,1,0,0,0,.retAddr 0) := rfl
theorem fd_Pages_two_11 : am_fd mt_Pages_two.1 11 = (.iload_n 2,1,2,0,0,0,.retAddr 0) := rfl
theorem fd_Pages_two_12 : am_fd mt_Pages_two.1 12 = (.iconst 1,1,0,0,0,0,.int 1) := rfl
theorem fd_Pages_two_13 : am_fd mt_Pages_two.1 13 = (.iadd,1,0,0,0,0,.retAddr 0) := rfl
theorem fd_Pages_two_14 : am_fd mt_Pages_two.1 14 = (.invokevirtual 39,3,56,3,4,0,.retAddr 0) := rfl
theorem fd_Pages_two_17 : am_fd mt_Pages_two.1 17 = (.ior,1,0,0,0,0,.retAddr 0) := rfl
theorem fd_Pages_two_18 : am_fd mt_Pages_two.1 18 = (.ireturn,1,0,0,0,0,.retAddr 0) := rfl
theorem fd_SR_openRun_0 : am_fd mt_SR_openRun.1 0 = (.aload_n 1,1,1,0,0,0,.retAddr 0) := rfl
theorem fd_SR_openRun_1 : am_fd mt_SR_openRun.1 1 = (.getfield 224,3,3,0,5,5,.retAddr 0) := rfl
theorem fd_SR_openRun_4 : am_fd mt_SR_openRun.1 4 = (.istore_n 3,1,3,0,0,0,.retAddr 0) := rfl
theorem fd_SR_openRun_5 : am_fd mt_SR_openRun.1 5 = (.iconst 0,1,0,0,0,0,.int 0) := rfl
theorem fd_SR_openRun_6 : am_fd mt_SR_openRun.1 6 = (.istore 4,2,4,0,0,0,.retAddr 0) := rfl
theorem fd_SR_openRun_8 : am_fd mt_SR_openRun.1 8 = (.iload 4,2,4,0,0,0,.retAddr 0) := rfl
theorem fd_SR_openRun_10 : am_fd mt_SR_openRun.1 10 = (.iload_n 2,1,2,0,0,0,.retAddr 0) := rfl
theorem fd_SR_openRun_11 : am_fd mt_SR_openRun.1 11 = (.if_icmp .ge 81,3,92,0,0,0,.retAddr 0) := rfl
theorem fd_SR_openRun_14 : am_fd mt_SR_openRun.1 14 = (.aload_n 0,1,0,0,0,0,.retAddr 0) := rfl
theorem fd_SR_openRun_15 : am_fd mt_SR_openRun.1 15 = (.getfield 79,3,0,2,1,1,.retAddr 0) := rfl
theorem fd_SR_openRun_18 : am_fd mt_SR_openRun.1 18 = (.iload_n 3,1,3,0,0,0,.retAddr 0) := rfl
theorem fd_SR_openRun_19 : am_fd mt_SR_openRun.1 19 = (.invokevirtual 230,3,49,2,4,0,.retAddr 0) := rfl
theorem fd_SR_openRun_22 : am_fd mt_SR_openRun.1 22 = (.istore 5,2,5,0,0,0,.retAddr 0) := rfl
theorem fd_SR_openRun_24 : am_fd mt_SR_openRun.1 24 = (.iload_n 3,1,3,0,0,0,.retAddr 0) := rfl
theorem fd_SR_openRun_25 : am_fd mt_SR_openRun.1 25 = (.iconst 2,1,0,0,0,0,.int 2) := rfl
theorem fd_SR_openRun_26 : am_fd mt_SR_openRun.1 26 = (.if_icmp .lt 17,3,43,0,0,0,.retAddr 0) := rfl
theorem fd_SR_openRun_29 : am_fd mt_SR_openRun.1 29 = (.iload 5,2,5,0,0,0,.retAddr 0) := rfl
theorem fd_SR_openRun_31 : am_fd mt_SR_openRun.1 31 = (.ifCond .eq 12,3,43,0,0,0,.retAddr 0) := rfl
theorem fd_SR_openRun_34 : am_fd mt_SR_openRun.1 34 = (.aload_n 0,1,0,0,0,0,.retAddr 0) := rfl
theorem fd_SR_openRun_35 : am_fd mt_SR_openRun.1 35 = (.aload_n 1,1,1,0,0,0,.retAddr 0) := rfl
theorem fd_SR_openRun_36 : am_fd mt_SR_openRun.1 36 = (.iload_n 3,1,3,0,0,0,.retAddr 0) := rfl
theorem fd_SR_openRun_37 : am_fd mt_SR_openRun.1 37 = (.invokevirtual 463,3,127,3,1,0,.retAddr 0) := rfl
theorem fd_SR_openRun_40 : am_fd mt_SR_openRun.1 40 = (.ifCond .ne 5,3,45,0,0,0,.retAddr 0) := rfl
theorem fd_SR_openRun_43 : am_fd mt_SR_openRun.1 43 = (.iload_n 3,1,3,0,0,0,.retAddr 0) := rfl
theorem fd_SR_openRun_44 : am_fd mt_SR_openRun.1 44 = (.ireturn,1,0,0,0,0,.retAddr 0) := rfl
theorem fd_SR_openRun_45 : am_fd mt_SR_openRun.1 45 = (.aload_n 0,1,0,0,0,0,.retAddr 0) := rfl
theorem fd_SR_openRun_46 : am_fd mt_SR_openRun.1 46 = (.getfield 79,3,0,2,1,1,.retAddr 0) := rfl
theorem fd_SR_openRun_49 : am_fd mt_SR_openRun.1 49 = (.iload_n 3,1,3,0,0,0,.retAddr 0) := rfl
theorem fd_SR_openRun_50 : am_fd mt_SR_openRun.1 50 = (.iconst 2,1,0,0,0,0,.int 2) := rfl
theorem fd_SR_openRun_51 : am_fd mt_SR_openRun.1 51 = (.invokevirtual 447,3,125,3,4,0,.retAddr 0) := rfl
theorem fd_SR_openRun_54 : am_fd mt_SR_openRun.1 54 = (.istore 6,2,6,0,0,0,.retAddr 0) := rfl
theorem fd_SR_openRun_56 : am_fd mt_SR_openRun.1 56 = (.aload_n 0,1,0,0,0,0,.retAddr 0) := rfl
theorem fd_SR_openRun_57 : am_fd mt_SR_openRun.1 57 = (.getfield 86,3,1,2,1,1,.retAddr 0) := rfl
theorem fd_SR_openRun_60 : am_fd mt_SR_openRun.1 60 = (.iload_n 3,1,3,0,0,0,.retAddr 0) := rfl
theorem fd_SR_openRun_61 : am_fd mt_SR_openRun.1 61 = (.iload 6,2,6,0,0,0,.retAddr 0) := rfl
theorem fd_SR_openRun_63 : am_fd mt_SR_openRun.1 63 = (.aload_n 0,1,0,0,0,0,.retAddr 0) := rfl
theorem fd_SR_openRun_64 : am_fd mt_SR_openRun.1 64 = (.getfield 37,3,8,2,1,1,.retAddr 0) := rfl
theorem fd_SR_openRun_67 : am_fd mt_SR_openRun.1 67 = (.getfield 290,3,3,1,8,8,.retAddr 0) := rfl
theorem fd_SR_openRun_70 : am_fd mt_SR_openRun.1 70 = (.invokevirtual 293,3,78,4,9,0,.retAddr 0) := rfl
theorem fd_SR_openRun_73 : am_fd mt_SR_openRun.1 73 = (.aload_n 1,1,1,0,0,0,.retAddr 0) := rfl
theorem fd_SR_openRun_74 : am_fd mt_SR_openRun.1 74 = (.dup,1,0,0,0,0,.retAddr 0) := rfl
theorem fd_SR_openRun_75 : am_fd mt_SR_openRun.1 75 = (.getfield 227,3,4,0,5,5,.retAddr 0) := rfl
theorem fd_SR_openRun_78 : am_fd mt_SR_openRun.1 78 = (.iconst 1,1,0,0,0,0,.int 1) := rfl
theorem fd_SR_openRun_79 : am_fd mt_SR_openRun.1 79 = (.iadd,1,0,0,0,0,.retAddr 0) := rfl
theorem fd_SR_openRun_80 : am_fd mt_SR_openRun.1 80 = (.putfield 227,3,4,0,5,5,.retAddr 0) := rfl
theorem fd_SR_openRun_83 : am_fd mt_SR_openRun.1 83 = (.iload 6,2,6,0,0,0,.retAddr 0) := rfl
theorem fd_SR_openRun_85 : am_fd mt_SR_openRun.1 85 = (.istore_n 3,1,3,0,0,0,.retAddr 0) := rfl
theorem fd_SR_openRun_86 : am_fd mt_SR_openRun.1 86 = (.iinc 4 1,3,4,0,0,0,.int 1) := rfl
theorem fd_SR_openRun_89 : am_fd mt_SR_openRun.1 89 = (.goto (-81),3,8,0,0,0,.retAddr 0) := rfl
theorem fd_SR_openRun_92 : am_fd mt_SR_openRun.1 92 = (.iconst (-1),1,0,0,0,0,.int (-1)) := rfl
theorem fd_SR_openRun_93 : am_fd mt_SR_openRun.1 93 = (.ireturn,1,0,0,0,0,.retAddr 0) := rfl
theorem fd_SR_openPage_0 : am_fd mt_SR_openPage.1 0 = (.aload_n 0,1,0,0,0,0,.retAddr 0) := rfl
theorem fd_SR_openPage_1 : am_fd mt_SR_openPage.1 1 = (.getfield 37,3,8,2,1,1,.retAddr 0) := rfl
theorem fd_SR_openPage_4 : am_fd mt_SR_openPage.1 4 = (.aload_n 1,1,1,0,0,0,.retAddr 0) := rfl
theorem fd_SR_openPage_5 : am_fd mt_SR_openPage.1 5 = (.getfield 171,3,0,0,5,5,.retAddr 0) := rfl
theorem fd_SR_openPage_8 : am_fd mt_SR_openPage.1 8 = (.invokevirtual 266,3,70,2,8,0,.retAddr 0) := rfl
theorem fd_SR_openPage_11 : am_fd mt_SR_openPage.1 11 = (.aload_n 0,1,0,0,0,0,.retAddr 0) := rfl
theorem fd_SR_openPage_12 : am_fd mt_SR_openPage.1 12 = (.getfield 104,3,6,2,1,1,.retAddr 0) := rfl
theorem fd_SR_openPage_15 : am_fd mt_SR_openPage.1 15 = (.iload_n 2,1,2,0,0,0,.retAddr 0) := rfl
theorem fd_SR_openPage_16 : am_fd mt_SR_openPage.1 16 = (.invokevirtual 372,3,108,2,7,0,.retAddr 0) := rfl
theorem fd_SR_openPage_19 : am_fd mt_SR_openPage.1 19 = (.aload_n 0,1,0,0,0,0,.retAddr 0) := rfl
theorem fd_SR_openPage_20 : am_fd mt_SR_openPage.1 20 = (.getfield 104,3,6,2,1,1,.retAddr 0) := rfl
theorem fd_SR_openPage_23 : am_fd mt_SR_openPage.1 23 = (.invokevirtual 378,3,55,1,7,0,.retAddr 0) := rfl
theorem fd_SR_openPage_26 : am_fd mt_SR_openPage.1 26 = (.iconst 0,1,0,0,0,0,.int 0) := rfl
theorem fd_SR_openPage_27 : am_fd mt_SR_openPage.1 27 = (.istore_n 3,1,3,0,0,0,.retAddr 0) := rfl
theorem fd_SR_openPage_28 : am_fd mt_SR_openPage.1 28 = (.iload_n 3,1,3,0,0,0,.retAddr 0) := rfl
theorem fd_SR_openPage_29 : am_fd mt_SR_openPage.1 29 = (.sipush 255,3,0,0,0,0,.int 255) := rfl
theorem fd_SR_openPage_32 : am_fd mt_SR_openPage.1 32 = (.if_icmp .ge 146,3,178,0,0,0,.retAddr 0) := rfl
theorem fd_SR_openPage_35 : am_fd mt_SR_openPage.1 35 = (.aload_n 0,1,0,0,0,0,.retAddr 0) := rfl
theorem fd_SR_openPage_36 : am_fd mt_SR_openPage.1 36 = (.getfield 104,3,6,2,1,1,.retAddr 0) := rfl
theorem fd_SR_openPage_39 : am_fd mt_SR_openPage.1 39 = (.getfield 381,3,0,0,7,7,.retAddr 0) := rfl
theorem fd_SR_openPage_42 : am_fd mt_SR_openPage.1 42 = (.ifCond .eq 136,3,178,0,0,0,.retAddr 0) := rfl
theorem fd_SR_openPage_45 : am_fd mt_SR_openPage.1 45 = (.aload_n 1,1,1,0,0,0,.retAddr 0) := rfl
theorem fd_SR_openPage_46 : am_fd mt_SR_openPage.1 46 = (.getfield 404,3,5,0,5,5,.retAddr 0) := rfl
theorem fd_SR_openPage_49 : am_fd mt_SR_openPage.1 49 = (.ifCond .eq 18,3,67,0,0,0,.retAddr 0) := rfl
theorem fd_SR_openPage_52 : am_fd mt_SR_openPage.1 52 = (.aload_n 0,1,0,0,0,0,.retAddr 0) := rfl
theorem fd_SR_openPage_53 : am_fd mt_SR_openPage.1 53 = (.getfield 104,3,6,2,1,1,.retAddr 0) := rfl
theorem fd_SR_openPage_56 : am_fd mt_SR_openPage.1 56 = (.getfield 384,3,1,1,7,7,.retAddr 0) := rfl
theorem fd_SR_openPage_59 : am_fd mt_SR_openPage.1 59 = (.aload_n 1,1,1,0,0,0,.retAddr 0) := rfl
theorem fd_SR_openPage_60 : am_fd mt_SR_openPage.1 60 = (.getfield 467,3,7,1,5,5,.retAddr 0) := rfl
theorem fd_SR_openPage_63 : am_fd mt_SR_openPage.1 63 = (.lcmp,1,0,0,0,0,.retAddr 0) := rfl
theorem fd_SR_openPage_64 : am_fd mt_SR_openPage.1 64 = (.ifCond .le 7,3,71,0,0,0,.retAddr 0) := rfl
theorem fd_SR_openPage_67 : am_fd mt_SR_openPage.1 67 = (.iconst 1,1,0,0,0,0,.int 1) := rfl
theorem fd_SR_openPage_68 : am_fd mt_SR_openPage.1 68 = (.goto 4,3,72,0,0,0,.retAddr 0) := rfl
theorem fd_SR_openPage_71 : am_fd mt_SR_openPage.1 71 = (.iconst 0,1,0,0,0,0,.int 0) := rfl
theorem fd_SR_openPage_72 : am_fd mt_SR_openPage.1 72 = (.istore 4,2,4,0,0,0,.retAddr 0) := rfl
theorem fd_SR_openPage_74 : am_fd mt_SR_openPage.1 74 = (.aload_n 0,1,0,0,0,0,.retAddr 0) := rfl
theorem fd_SR_openPage_75 : am_fd mt_SR_openPage.1 75 = (.getfield 30,3,7,2,1,1,.retAddr 0) := rfl
theorem fd_SR_openPage_78 : am_fd mt_SR_openPage.1 78 = (.aload_n 0,1,0,0,0,0,.retAddr 0) := rfl
theorem fd_SR_openPage_79 : am_fd mt_SR_openPage.1 79 = (.getfield 104,3,6,2,1,1,.retAddr 0) := rfl
theorem fd_SR_openPage_82 : am_fd mt_SR_openPage.1 82 = (.getfield 385,3,2,0,7,7,.retAddr 0) := rfl
theorem fd_SR_openPage_85 : am_fd mt_SR_openPage.1 85 = (.aload_n 0,1,0,0,0,0,.retAddr 0) := rfl
theorem fd_SR_openPage_86 : am_fd mt_SR_openPage.1 86 = (.getfield 104,3,6,2,1,1,.retAddr 0) := rfl
theorem fd_SR_openPage_89 : am_fd mt_SR_openPage.1 89 = (.getfield 386,3,3,1,7,7,.retAddr 0) := rfl
theorem fd_SR_openPage_92 : am_fd mt_SR_openPage.1 92 = (.invokevirtual 341,3,39,3,3,0,.retAddr 0) := rfl
theorem fd_SR_openPage_95 : am_fd mt_SR_openPage.1 95 = (.iload 4,2,4,0,0,0,.retAddr 0) := rfl
theorem fd_SR_openPage_97 : am_fd mt_SR_openPage.1 97 = (.ifCond .eq 37,3,134,0,0,0,.retAddr 0) := rfl
theorem fd_SR_openPage_100 : am_fd mt_SR_openPage.1 100 = (.aload_n 0,1,0,0,0,0,.retAddr 0) := rfl
theorem fd_SR_openPage_101 : am_fd mt_SR_openPage.1 101 = (.getfield 104,3,6,2,1,1,.retAddr 0) := rfl
theorem fd_SR_openPage_104 : am_fd mt_SR_openPage.1 104 = (.getfield 385,3,2,0,7,7,.retAddr 0) := rfl
theorem fd_SR_openPage_107 : am_fd mt_SR_openPage.1 107 = (.invokestatic 147,3,45,1,0,0,.retAddr 0) := rfl
theorem fd_SR_openPage_110 : am_fd mt_SR_openPage.1 110 = (.ifCond .eq 24,3,134,0,0,0,.retAddr 0) := rfl
theorem fd_SR_openPage_113 : am_fd mt_SR_openPage.1 113 = (.aload_n 0,1,0,0,0,0,.retAddr 0) := rfl
theorem fd_SR_openPage_114 : am_fd mt_SR_openPage.1 114 = (.getfield 37,3,8,2,1,1,.retAddr 0) := rfl
theorem fd_SR_openPage_117 : am_fd mt_SR_openPage.1 117 = (.aload_n 0,1,0,0,0,0,.retAddr 0) := rfl
theorem fd_SR_openPage_118 : am_fd mt_SR_openPage.1 118 = (.getfield 104,3,6,2,1,1,.retAddr 0) := rfl
theorem fd_SR_openPage_121 : am_fd mt_SR_openPage.1 121 = (.getfield 384,3,1,1,7,7,.retAddr 0) := rfl
theorem fd_SR_openPage_124 : am_fd mt_SR_openPage.1 124 = (.aload_n 0,1,0,0,0,0,.retAddr 0) := rfl
theorem fd_SR_openPage_125 : am_fd mt_SR_openPage.1 125 = (.getfield 30,3,7,2,1,1,.retAddr 0) := rfl
theorem fd_SR_openPage_128 : am_fd mt_SR_openPage.1 128 = (.invokevirtual 262,3,66,3,8,0,.retAddr 0) := rfl
theorem fd_SR_openPage_131 : am_fd mt_SR_openPage.1 131 = (.ifCond .ne 5,3,136,0,0,0,.retAddr 0) := rfl
theorem fd_SR_openPage_134 : am_fd mt_SR_openPage.1 134 = (.iconst 0,1,0,0,0,0,.int 0) := rfl
theorem fd_SR_openPage_135 : am_fd mt_SR_openPage.1 135 = (.ireturn,1,1,0,0,0,.retAddr 0) := rfl
theorem fd_SR_openPage_136 : am_fd mt_SR_openPage.1 136 = (.aload_n 0,1,0,0,0,0,.retAddr 0) := rfl
theorem fd_SR_openPage_137 : am_fd mt_SR_openPage.1 137 = (.getfield 37,3,8,2,1,1,.retAddr 0) := rfl
theorem fd_SR_openPage_140 : am_fd mt_SR_openPage.1 140 = (.aload_n 0,1,0,0,0,0,.retAddr 0) := rfl
theorem fd_SR_openPage_141 : am_fd mt_SR_openPage.1 141 = (.getfield 104,3,6,2,1,1,.retAddr 0) := rfl
theorem fd_SR_openPage_144 : am_fd mt_SR_openPage.1 144 = (.getfield 384,3,1,1,7,7,.retAddr 0) := rfl
theorem fd_SR_openPage_147 : am_fd mt_SR_openPage.1 147 = (.aload_n 0,1,0,0,0,0,.retAddr 0) := rfl
theorem fd_SR_openPage_148 : am_fd mt_SR_openPage.1 148 = (.getfield 30,3,7,2,1,1,.retAddr 0) := rfl
theorem fd_SR_openPage_151 : am_fd mt_SR_openPage.1 151 = (.invokevirtual 269,3,71,3,8,0,.retAddr 0) := rfl
theorem fd_SR_openPage_154 : am_fd mt_SR_openPage.1 154 = (.aload_n 1,1,1,0,0,0,.retAddr 0) := rfl
theorem fd_SR_openPage_155 : am_fd mt_SR_openPage.1 155 = (.aload_n 0,1,0,0,0,0,.retAddr 0) := rfl
theorem fd_SR_openPage_156 : am_fd mt_SR_openPage.1 156 = (.getfield 104,3,6,2,1,1,.retAddr 0) := rfl
theorem fd_SR_openPage_159 : am_fd mt_SR_openPage.1 159 = (.getfield 384,3,1,1,7,7,.retAddr 0) := rfl
theorem fd_SR_openPage_162 : am_fd mt_SR_openPage.1 162 = (.invokevirtual 283,3,80,2,5,0,.retAddr 0) := rfl
theorem fd_SR_openPage_165 : am_fd mt_SR_openPage.1 165 = (.aload_n 0,1,0,0,0,0,.retAddr 0) := rfl
theorem fd_SR_openPage_166 : am_fd mt_SR_openPage.1 166 = (.getfield 104,3,6,2,1,1,.retAddr 0) := rfl
theorem fd_SR_openPage_169 : am_fd mt_SR_openPage.1 169 = (.invokevirtual 378,3,55,1,7,0,.retAddr 0) := rfl
theorem fd_SR_openPage_172 : am_fd mt_SR_openPage.1 172 = (.iinc 3 1,3,3,0,0,0,.int 1) := rfl
theorem fd_SR_openPage_175 : am_fd mt_SR_openPage.1 175 = (.goto (-147),3,28,0,0,0,.retAddr 0) := rfl
theorem fd_SR_openPage_178 : am_fd mt_SR_openPage.1 178 = (.aload_n 0,1,0,0,0,0,.retAddr 0) := rfl
theorem fd_SR_openPage_179 : am_fd mt_SR_openPage.1 179 = (.getfield 37,3,8,2,1,1,.retAddr 0) := rfl
theorem fd_SR_openPage_182 : am_fd mt_SR_openPage.1 182 = (.aload_n 0,1,0,0,0,0,.retAddr 0) := rfl
theorem fd_SR_openPage_183 : am_fd mt_SR_openPage.1 183 = (.getfield 79,3,0,2,1,1,.retAddr 0) := rfl
theorem fd_SR_openPage_186 : am_fd mt_SR_openPage.1 186 = (.iload_n 2,1,2,0,0,0,.retAddr 0) := rfl
theorem fd_SR_openPage_187 : am_fd mt_SR_openPage.1 187 = (.iconst 2,1,0,0,0,0,.int 2) := rfl
theorem fd_SR_openPage_188 : am_fd mt_SR_openPage.1 188 = (.invokevirtual 447,3,125,3,4,0,.retAddr 0) := rfl
theorem fd_SR_openPage_191 : am_fd mt_SR_openPage.1 191 = (.invokevirtual 287,3,77,2,8,0,.retAddr 0) := rfl
theorem fd_SR_openPage_194 : am_fd mt_SR_openPage.1 194 = (.aload_n 0,1,0,0,0,0,.retAddr 0) := rfl
theorem fd_SR_openPage_195 : am_fd mt_SR_openPage.1 195 = (.getfield 37,3,8,2,1,1,.retAddr 0) := rfl
theorem fd_SR_openPage_198 : am_fd mt_SR_openPage.1 198 = (.getfield 470,3,2,0,8,8,.retAddr 0) := rfl
theorem fd_SR_openPage_201 : am_fd mt_SR_openPage.1 201 = (.ifCond .le 22,3,223,0,0,0,.retAddr 0) := rfl
theorem fd_SR_openPage_204 : am_fd mt_SR_openPage.1 204 = (.aload_n 0,1,0,0,0,0,.retAddr 0) := rfl
theorem fd_SR_openPage_205 : am_fd mt_SR_openPage.1 205 = (.getfield 79,3,0,2,1,1,.retAddr 0) := rfl
theorem fd_SR_openPage_208 : am_fd mt_SR_openPage.1 208 = (.iload_n 2,1,2,0,0,0,.retAddr 0) := rfl
theorem fd_SR_openPage_209 : am_fd mt_SR_openPage.1 209 = (.aload_n 0,1,0,0,0,0,.retAddr 0) := rfl
theorem fd_SR_openPage_210 : am_fd mt_SR_openPage.1 210 = (.getfield 37,3,8,2,1,1,.retAddr 0) := rfl
theorem fd_SR_openPage_213 : am_fd mt_SR_openPage.1 213 = (.invokevirtual 471,3,128,3,4,0,.retAddr 0) := rfl
theorem fd_SR_openPage_216 : am_fd mt_SR_openPage.1 216 = (.ifCond .eq 7,3,223,0,0,0,.retAddr 0) := rfl
theorem fd_SR_openPage_219 : am_fd mt_SR_openPage.1 219 = (.iconst 1,1,0,0,0,0,.int 1) := rfl
theorem fd_SR_openPage_220 : am_fd mt_SR_openPage.1 220 = (.goto 4,3,224,0,0,0,.retAddr 0) := rfl
theorem fd_SR_openPage_223 : am_fd mt_SR_openPage.1 223 = (.iconst 0,1,0,0,0,0,.int 0) := rfl
theorem fd_SR_openPage_224 : am_fd mt_SR_openPage.1 224 = (.ireturn,1,1,0,0,0,.retAddr 0) := rfl
theorem fd_Pages_bodyIs_0 : am_fd mt_Pages_bodyIs.1 0 = (.iconst 0,1,0,0,0,0,.int 0) := rfl
theorem fd_Pages_bodyIs_1 : am_fd mt_Pages_bodyIs.1 1 = (.istore_n 3,1,3,0,0,0,.retAddr 0) := rfl
theorem fd_Pages_bodyIs_2 : am_fd mt_Pages_bodyIs.1 2 = (.iload_n 3,1,3,0,0,0,.retAddr 0) := rfl
theorem fd_Pages_bodyIs_3 : am_fd mt_Pages_bodyIs.1 3 = (.bipush 120,2,0,0,0,0,.int 120) := rfl
theorem fd_Pages_bodyIs_5 : am_fd mt_Pages_bodyIs.1 5 = (.if_icmp .ge 30,3,35,0,0,0,.retAddr 0) := rfl
theorem fd_Pages_bodyIs_8 : am_fd mt_Pages_bodyIs.1 8 = (.aload_n 0,1,0,0,0,0,.retAddr 0) := rfl
theorem fd_Pages_bodyIs_9 : am_fd mt_Pages_bodyIs.1 9 = (.iload_n 1,1,1,0,0,0,.retAddr 0) := rfl
theorem fd_Pages_bodyIs_10 : am_fd mt_Pages_bodyIs.1 10 = (.iload_n 3,1,3,0,0,0,.retAddr 0) := rfl
theorem fd_Pages_bodyIs_11 : am_fd mt_Pages_bodyIs.1 11 = (.invokevirtual 39,3,56,3,4,0,.retAddr 0) := rfl
theorem fd_Pages_bodyIs_14 : am_fd mt_Pages_bodyIs.1 14 = (.aload_n 2,1,2,0,0,0,.retAddr 0) := rfl
theorem fd_Pages_bodyIs_15 : am_fd mt_Pages_bodyIs.1 15 = (.getfield 49,3,0,2,8,8,.retAddr 0) := rfl
theorem fd_Pages_bodyIs_18 : am_fd mt_Pages_bodyIs.1 18 = (.iload_n 3,1,3,0,0,0,.retAddr 0) := rfl
theorem fd_Pages_bodyIs_19 : am_fd mt_Pages_bodyIs.1 19 = (.baload,1,0,0,0,0,.retAddr 0) := rfl
theorem fd_Pages_bodyIs_20 : am_fd mt_Pages_bodyIs.1 20 = (.sipush 255,3,0,0,0,0,.int 255) := rfl
theorem fd_Pages_bodyIs_23 : am_fd mt_Pages_bodyIs.1 23 = (.iand,1,0,0,0,0,.retAddr 0) := rfl
theorem fd_Pages_bodyIs_24 : am_fd mt_Pages_bodyIs.1 24 = (.if_icmp .eq 5,3,29,0,0,0,.retAddr 0) := rfl
theorem fd_Pages_bodyIs_27 : am_fd mt_Pages_bodyIs.1 27 = (.iconst 0,1,0,0,0,0,.int 0) := rfl
theorem fd_Pages_bodyIs_28 : am_fd mt_Pages_bodyIs.1 28 = (.ireturn,1,1,0,0,0,.retAddr 0) := rfl
theorem fd_Pages_bodyIs_29 : am_fd mt_Pages_bodyIs.1 29 = (.iinc 3 1,3,3,0,0,0,.int 1) := rfl
theorem fd_Pages_bodyIs_32 : am_fd mt_Pages_bodyIs.1 32 = (.goto (-30),3,2,0,0,0,.retAddr 0) := rfl
theorem fd_Pages_bodyIs_35 : am_fd mt_Pages_bodyIs.1 35 = (.iconst 1,1,0,0,0,0,.int 1) := rfl
theorem fd_Pages_bodyIs_36 : am_fd mt_Pages_bodyIs.1 36 = (.ireturn,1,1,0,0,0,.retAddr 0) := rfl
theorem fd_SR_told_0 : am_fd mt_SR_told.1 0 = (.iload_n 1,1,1,0,0,0,.retAddr 0) := rfl
theorem fd_SR_told_1 : am_fd mt_SR_told.1 1 = (.ifCond .lt 9,3,10,0,0,0,.retAddr 0) := rfl
theorem fd_SR_told_4 : am_fd mt_SR_told.1 4 = (.iload_n 1,1,1,0,0,0,.retAddr 0) := rfl
theorem fd_SR_told_5 : am_fd mt_SR_told.1 5 = (.bipush 7,2,0,0,0,0,.int 7) := rfl
theorem fd_SR_told_7 : am_fd mt_SR_told.1 7 = (.if_icmp .le 14,3,21,0,0,0,.retAddr 0) := rfl
theorem fd_SR_told_10 : am_fd mt_SR_told.1 10 = (.new 333,3,2,1,3,474,.ref 337) := rfl
theorem fd_SR_told_21 : am_fd mt_SR_told.1 21 = (.iload_n 1,1,1,0,0,0,.retAddr 0) := rfl
theorem fd_SR_told_22 : am_fd mt_SR_told.1 22 = (.tableswitch 103 0 6 #[42, 61, 69, 77, 85, 93, 98],42,125,0,0,0,.int 0) := rfl
theorem fd_SR_told_64 : am_fd mt_SR_told.1 64 = (.aload_n 0,1,0,0,0,0,.retAddr 0) := rfl
theorem fd_SR_told_65 : am_fd mt_SR_told.1 65 = (.getfield 61,3,15,0,1,1,.retAddr 0) := rfl
theorem fd_SR_told_68 : am_fd mt_SR_told.1 68 = (.ifCond .eq 7,3,75,0,0,0,.retAddr 0) := rfl
theorem fd_SR_told_71 : am_fd mt_SR_told.1 71 = (.iconst 0,1,0,0,0,0,.int 0) := rfl
theorem fd_SR_told_72 : am_fd mt_SR_told.1 72 = (.goto 10,3,82,0,0,0,.retAddr 0) := rfl
theorem fd_SR_told_75 : am_fd mt_SR_told.1 75 = (.aload_n 0,1,0,0,0,0,.retAddr 0) := rfl
theorem fd_SR_told_76 : am_fd mt_SR_told.1 76 = (.getfield 86,3,1,2,1,1,.retAddr 0) := rfl
theorem fd_SR_told_79 : am_fd mt_SR_told.1 79 = (.getfield 179,3,4,0,9,9,.retAddr 0) := rfl
theorem fd_SR_told_82 : am_fd mt_SR_told.1 82 = (.ireturn,1,0,0,0,0,.retAddr 0) := rfl
theorem fd_SR_told_83 : am_fd mt_SR_told.1 83 = (.aload_n 0,1,0,0,0,0,.retAddr 0) := rfl
theorem fd_SR_told_84 : am_fd mt_SR_told.1 84 = (.getfield 10,3,2,2,1,1,.retAddr 0) := rfl
theorem fd_SR_told_87 : am_fd mt_SR_told.1 87 = (.getfield 143,3,4,0,10,10,.retAddr 0) := rfl
theorem fd_SR_told_90 : am_fd mt_SR_told.1 90 = (.ireturn,1,0,0,0,0,.retAddr 0) := rfl
theorem fd_SR_told_91 : am_fd mt_SR_told.1 91 = (.aload_n 0,1,0,0,0,0,.retAddr 0) := rfl
theorem fd_SR_told_92 : am_fd mt_SR_told.1 92 = (.getfield 79,3,0,2,1,1,.retAddr 0) := rfl
theorem fd_SR_told_95 : am_fd mt_SR_told.1 95 = (.getfield 476,3,3,0,4,4,.retAddr 0) := rfl
theorem fd_SR_told_98 : am_fd mt_SR_told.1 98 = (.ireturn,1,0,0,0,0,.retAddr 0) := rfl
theorem fd_SR_told_99 : am_fd mt_SR_told.1 99 = (.aload_n 0,1,0,0,0,0,.retAddr 0) := rfl
theorem fd_SR_told_100 : am_fd mt_SR_told.1 100 = (.getfield 79,3,0,2,1,1,.retAddr 0) := rfl
theorem fd_SR_told_103 : am_fd mt_SR_told.1 103 = (.getfield 479,3,4,0,4,4,.retAddr 0) := rfl
theorem fd_SR_told_106 : am_fd mt_SR_told.1 106 = (.ireturn,1,0,0,0,0,.retAddr 0) := rfl
theorem fd_SR_told_107 : am_fd mt_SR_told.1 107 = (.aload_n 0,1,0,0,0,0,.retAddr 0) := rfl
theorem fd_SR_told_108 : am_fd mt_SR_told.1 108 = (.getfield 19,3,3,2,1,1,.retAddr 0) := rfl
theorem fd_SR_told_111 : am_fd mt_SR_told.1 111 = (.getfield 243,3,1,0,6,6,.retAddr 0) := rfl
theorem fd_SR_told_114 : am_fd mt_SR_told.1 114 = (.ireturn,1,0,0,0,0,.retAddr 0) := rfl
theorem fd_SR_told_115 : am_fd mt_SR_told.1 115 = (.aload_n 0,1,0,0,0,0,.retAddr 0) := rfl
theorem fd_SR_told_116 : am_fd mt_SR_told.1 116 = (.invokevirtual 482,3,130,1,1,0,.retAddr 0) := rfl
theorem fd_SR_told_119 : am_fd mt_SR_told.1 119 = (.ireturn,1,0,0,0,0,.retAddr 0) := rfl
theorem fd_SR_told_120 : am_fd mt_SR_told.1 120 = (.aload_n 0,1,0,0,0,0,.retAddr 0) := rfl
theorem fd_SR_told_121 : am_fd mt_SR_told.1 121 = (.getfield 52,3,12,0,1,1,.retAddr 0) := rfl
theorem fd_SR_told_124 : am_fd mt_SR_told.1 124 = (.ireturn,1,0,0,0,0,.retAddr 0) := rfl
theorem fd_SR_told_125 : am_fd mt_SR_told.1 125 = (.aload_n 0,1,0,0,0,0,.retAddr 0) := rfl
theorem fd_SR_told_126 : am_fd mt_SR_told.1 126 = (.getfield 61,3,15,0,1,1,.retAddr 0) := rfl
theorem fd_SR_told_129 : am_fd mt_SR_told.1 129 = (.ifCond .eq 7,3,136,0,0,0,.retAddr 0) := rfl
theorem fd_SR_told_132 : am_fd mt_SR_told.1 132 = (.iconst 1,1,0,0,0,0,.int 1) := rfl
theorem fd_SR_told_133 : am_fd mt_SR_told.1 133 = (.goto 4,3,137,0,0,0,.retAddr 0) := rfl
theorem fd_SR_told_136 : am_fd mt_SR_told.1 136 = (.iconst 0,1,0,0,0,0,.int 0) := rfl
theorem fd_SR_told_137 : am_fd mt_SR_told.1 137 = (.ireturn,1,0,0,0,0,.retAddr 0) := rfl
theorem fd_SR_countMarks_0 : am_fd mt_SR_countMarks.1 0 = (.iconst 0,1,0,0,0,0,.int 0) := rfl
theorem fd_SR_countMarks_1 : am_fd mt_SR_countMarks.1 1 = (.istore_n 1,1,1,0,0,0,.retAddr 0) := rfl
theorem fd_SR_countMarks_2 : am_fd mt_SR_countMarks.1 2 = (.iconst 0,1,0,0,0,0,.int 0) := rfl
theorem fd_SR_countMarks_3 : am_fd mt_SR_countMarks.1 3 = (.istore_n 2,1,2,0,0,0,.retAddr 0) := rfl
theorem fd_SR_countMarks_4 : am_fd mt_SR_countMarks.1 4 = (.iload_n 2,1,2,0,0,0,.retAddr 0) := rfl
theorem fd_SR_countMarks_5 : am_fd mt_SR_countMarks.1 5 = (.bipush 8,2,0,0,0,0,.int 8) := rfl
theorem fd_SR_countMarks_7 : am_fd mt_SR_countMarks.1 7 = (.if_icmp .ge 29,3,36,0,0,0,.retAddr 0) := rfl
theorem fd_SR_countMarks_10 : am_fd mt_SR_countMarks.1 10 = (.iload_n 1,1,1,0,0,0,.retAddr 0) := rfl
theorem fd_SR_countMarks_11 : am_fd mt_SR_countMarks.1 11 = (.aload_n 0,1,0,0,0,0,.retAddr 0) := rfl
theorem fd_SR_countMarks_12 : am_fd mt_SR_countMarks.1 12 = (.getfield 23,3,4,2,1,1,.retAddr 0) := rfl
theorem fd_SR_countMarks_15 : am_fd mt_SR_countMarks.1 15 = (.iload_n 2,1,2,0,0,0,.retAddr 0) := rfl
theorem fd_SR_countMarks_16 : am_fd mt_SR_countMarks.1 16 = (.aaload,1,0,0,0,0,.retAddr 0) := rfl
theorem fd_SR_countMarks_17 : am_fd mt_SR_countMarks.1 17 = (.getfield 323,3,2,0,6,6,.retAddr 0) := rfl
theorem fd_SR_countMarks_20 : am_fd mt_SR_countMarks.1 20 = (.ifCond .eq 7,3,27,0,0,0,.retAddr 0) := rfl
theorem fd_SR_countMarks_23 : am_fd mt_SR_countMarks.1 23 = (.iconst 1,1,0,0,0,0,.int 1) := rfl
theorem fd_SR_countMarks_24 : am_fd mt_SR_countMarks.1 24 = (.goto 4,3,28,0,0,0,.retAddr 0) := rfl
theorem fd_SR_countMarks_27 : am_fd mt_SR_countMarks.1 27 = (.iconst 0,1,0,0,0,0,.int 0) := rfl
theorem fd_SR_countMarks_28 : am_fd mt_SR_countMarks.1 28 = (.iadd,1,0,0,0,0,.retAddr 0) := rfl
theorem fd_SR_countMarks_29 : am_fd mt_SR_countMarks.1 29 = (.istore_n 1,1,1,0,0,0,.retAddr 0) := rfl
theorem fd_SR_countMarks_30 : am_fd mt_SR_countMarks.1 30 = (.iinc 2 1,3,2,0,0,0,.int 1) := rfl
theorem fd_SR_countMarks_33 : am_fd mt_SR_countMarks.1 33 = (.goto (-29),3,4,0,0,0,.retAddr 0) := rfl
theorem fd_SR_countMarks_36 : am_fd mt_SR_countMarks.1 36 = (.iload_n 1,1,1,0,0,0,.retAddr 0) := rfl
theorem fd_SR_countMarks_37 : am_fd mt_SR_countMarks.1 37 = (.ireturn,1,0,0,0,0,.retAddr 0) := rfl
theorem fd_Mo_init_0 : am_fd mt_Mo_init.1 0 = (.aload_n 0,1,0,0,0,0,.retAddr 0) := rfl
theorem fd_Mo_init_1 : am_fd mt_Mo_init.1 1 = (.invokespecial 1,3,0,0,0,1,.retAddr 0) := rfl
theorem fd_Mo_init_4 : am_fd mt_Mo_init.1 4 = (.aload_n 0,1,0,0,0,0,.retAddr 0) := rfl
theorem fd_Mo_init_5 : am_fd mt_Mo_init.1 5 = (.ldc 7,2,0,0,0,0,.int 131072) := rfl
theorem fd_Mo_init_7 : am_fd mt_Mo_init.1 7 = (.newarray .byte,2,102,0,0,0,.retAddr 0) := rfl
theorem fd_Mo_init_9 : am_fd mt_Mo_init.1 9 = (.putfield 8,3,2,2,12,12,.retAddr 0) := rfl
theorem fd_Mo_init_12 : am_fd mt_Mo_init.1 12 = (.aload_n 0,1,0,0,0,0,.retAddr 0) := rfl
theorem fd_Mo_init_13 : am_fd mt_Mo_init.1 13 = (.bipush 64,2,0,0,0,0,.int 64) := rfl
theorem fd_Mo_init_15 : am_fd mt_Mo_init.1 15 = (.newarray .long,2,101,0,0,0,.retAddr 0) := rfl
theorem fd_Mo_init_17 : am_fd mt_Mo_init.1 17 = (.putfield 14,3,12,2,12,12,.retAddr 0) := rfl
theorem fd_Mo_init_20 : am_fd mt_Mo_init.1 20 = (.aload_n 0,1,0,0,0,0,.retAddr 0) := rfl
theorem fd_Mo_init_21 : am_fd mt_Mo_init.1 21 = (.bipush 64,2,0,0,0,0,.int 64) := rfl
theorem fd_Mo_init_23 : am_fd mt_Mo_init.1 23 = (.newarray .int,2,100,0,0,0,.retAddr 0) := rfl
theorem fd_Mo_init_25 : am_fd mt_Mo_init.1 25 = (.putfield 18,3,13,2,12,12,.retAddr 0) := rfl
theorem fd_Mo_init_28 : am_fd mt_Mo_init.1 28 = (.aload_n 0,1,0,0,0,0,.retAddr 0) := rfl
theorem fd_Mo_init_29 : am_fd mt_Mo_init.1 29 = (.bipush 64,2,0,0,0,0,.int 64) := rfl
theorem fd_Mo_init_31 : am_fd mt_Mo_init.1 31 = (.newarray .long,2,101,0,0,0,.retAddr 0) := rfl
theorem fd_Mo_init_33 : am_fd mt_Mo_init.1 33 = (.putfield 22,3,14,2,12,12,.retAddr 0) := rfl
theorem fd_Mo_init_36 : am_fd mt_Mo_init.1 36 = (.aload_n 0,1,0,0,0,0,.retAddr 0) := rfl
theorem fd_Mo_init_37 : am_fd mt_Mo_init.1 37 = (.bipush 100,2,0,0,0,0,.int 100) := rfl
theorem fd_Mo_init_39 : am_fd mt_Mo_init.1 39 = (.newarray .int,2,100,0,0,0,.retAddr 0) := rfl
theorem fd_Mo_init_41 : am_fd mt_Mo_init.1 41 = (.putfield 25,3,15,2,12,12,.retAddr 0) := rfl
theorem fd_Mo_init_44 : am_fd mt_Mo_init.1 44 = (.aload_n 0,1,0,0,0,0,.retAddr 0) := rfl
theorem fd_Mo_init_45 : am_fd mt_Mo_init.1 45 = (.bipush 100,2,0,0,0,0,.int 100) := rfl
theorem fd_Mo_init_47 : am_fd mt_Mo_init.1 47 = (.newarray .int,2,100,0,0,0,.retAddr 0) := rfl
theorem fd_Mo_init_49 : am_fd mt_Mo_init.1 49 = (.putfield 28,3,16,2,12,12,.retAddr 0) := rfl
theorem fd_Mo_init_52 : am_fd mt_Mo_init.1 52 = (.aload_n 0,1,0,0,0,0,.retAddr 0) := rfl
theorem fd_Mo_init_53 : am_fd mt_Mo_init.1 53 = (.bipush 100,2,0,0,0,0,.int 100) := rfl
theorem fd_Mo_init_55 : am_fd mt_Mo_init.1 55 = (.newarray .int,2,100,0,0,0,.retAddr 0) := rfl
theorem fd_Mo_init_57 : am_fd mt_Mo_init.1 57 = (.putfield 31,3,17,2,12,12,.retAddr 0) := rfl
theorem fd_Mo_init_60 : am_fd mt_Mo_init.1 60 = (.aload_n 0,1,0,0,0,0,.retAddr 0) := rfl
theorem fd_Mo_init_61 : am_fd mt_Mo_init.1 61 = (.bipush 100,2,0,0,0,0,.int 100) := rfl
theorem fd_Mo_init_63 : am_fd mt_Mo_init.1 63 = (.newarray .int,2,100,0,0,0,.retAddr 0) := rfl
theorem fd_Mo_init_65 : am_fd mt_Mo_init.1 65 = (.putfield 34,3,18,2,12,12,.retAddr 0) := rfl
theorem fd_Mo_init_68 : am_fd mt_Mo_init.1 68 = (.aload_n 0,1,0,0,0,0,.retAddr 0) := rfl
theorem fd_Mo_init_69 : am_fd mt_Mo_init.1 69 = (.bipush 100,2,0,0,0,0,.int 100) := rfl
theorem fd_Mo_init_71 : am_fd mt_Mo_init.1 71 = (.newarray .int,2,100,0,0,0,.retAddr 0) := rfl
theorem fd_Mo_init_73 : am_fd mt_Mo_init.1 73 = (.putfield 37,3,19,2,12,12,.retAddr 0) := rfl
theorem fd_Mo_init_76 : am_fd mt_Mo_init.1 76 = (.aload_n 0,1,0,0,0,0,.retAddr 0) := rfl
theorem fd_Mo_init_77 : am_fd mt_Mo_init.1 77 = (.ldc 40,2,0,0,0,0,.int 102400) := rfl
theorem fd_Mo_init_79 : am_fd mt_Mo_init.1 79 = (.newarray .int,2,100,0,0,0,.retAddr 0) := rfl
theorem fd_Mo_init_81 : am_fd mt_Mo_init.1 81 = (.putfield 41,3,20,2,12,12,.retAddr 0) := rfl
theorem fd_Mo_init_84 : am_fd mt_Mo_init.1 84 = (.aload_n 0,1,0,0,0,0,.retAddr 0) := rfl
theorem fd_Mo_init_85 : am_fd mt_Mo_init.1 85 = (.ldc 40,2,0,0,0,0,.int 102400) := rfl
theorem fd_Mo_init_87 : am_fd mt_Mo_init.1 87 = (.newarray .long,2,101,0,0,0,.retAddr 0) := rfl
theorem fd_Mo_init_89 : am_fd mt_Mo_init.1 89 = (.putfield 44,3,21,2,12,12,.retAddr 0) := rfl
theorem fd_Mo_init_92 : am_fd mt_Mo_init.1 92 = (.aload_n 0,1,0,0,0,0,.retAddr 0) := rfl
theorem fd_Mo_init_93 : am_fd mt_Mo_init.1 93 = (.bipush 100,2,0,0,0,0,.int 100) := rfl
theorem fd_Mo_init_95 : am_fd mt_Mo_init.1 95 = (.newarray .long,2,101,0,0,0,.retAddr 0) := rfl
theorem fd_Mo_init_97 : am_fd mt_Mo_init.1 97 = (.putfield 47,3,22,2,12,12,.retAddr 0) := rfl
theorem fd_Mo_init_100 : am_fd mt_Mo_init.1 100 = (.aload_n 0,1,0,0,0,0,.retAddr 0) := rfl
theorem fd_Mo_init_101 : am_fd mt_Mo_init.1 101 = (.sipush 800,3,0,0,0,0,.int 800) := rfl
theorem fd_Mo_init_104 : am_fd mt_Mo_init.1 104 = (.newarray .long,2,101,0,0,0,.retAddr 0) := rfl
theorem fd_Mo_init_106 : am_fd mt_Mo_init.1 106 = (.putfield 50,3,23,2,12,12,.retAddr 0) := rfl
theorem fd_Mo_init_109 : am_fd mt_Mo_init.1 109 = (.aload_n 0,1,0,0,0,0,.retAddr 0) := rfl
theorem fd_Mo_init_110 : am_fd mt_Mo_init.1 110 = (.bipush 9,2,0,0,0,0,.int 9) := rfl
theorem fd_Mo_init_112 : am_fd mt_Mo_init.1 112 = (.newarray .int,2,100,0,0,0,.retAddr 0) := rfl
theorem fd_Mo_init_114 : am_fd mt_Mo_init.1 114 = (.putfield 53,3,25,2,12,12,.retAddr 0) := rfl
theorem fd_Mo_init_117 : am_fd mt_Mo_init.1 117 = (.aload_n 0,1,0,0,0,0,.retAddr 0) := rfl
theorem fd_Mo_init_118 : am_fd mt_Mo_init.1 118 = (.bipush 8,2,0,0,0,0,.int 8) := rfl
theorem fd_Mo_init_120 : am_fd mt_Mo_init.1 120 = (.newarray .boolean,2,103,0,0,0,.retAddr 0) := rfl
theorem fd_Mo_init_122 : am_fd mt_Mo_init.1 122 = (.putfield 56,3,26,2,12,12,.retAddr 0) := rfl
theorem fd_Mo_init_125 : am_fd mt_Mo_init.1 125 = (.aload_n 0,1,0,0,0,0,.retAddr 0) := rfl
theorem fd_Mo_init_126 : am_fd mt_Mo_init.1 126 = (.bipush 8,2,0,0,0,0,.int 8) := rfl
theorem fd_Mo_init_128 : am_fd mt_Mo_init.1 128 = (.newarray .int,2,100,0,0,0,.retAddr 0) := rfl
theorem fd_Mo_init_130 : am_fd mt_Mo_init.1 130 = (.putfield 60,3,27,2,12,12,.retAddr 0) := rfl
theorem fd_Mo_init_133 : am_fd mt_Mo_init.1 133 = (.aload_n 0,1,0,0,0,0,.retAddr 0) := rfl
theorem fd_Mo_init_134 : am_fd mt_Mo_init.1 134 = (.bipush 72,2,0,0,0,0,.int 72) := rfl
theorem fd_Mo_init_136 : am_fd mt_Mo_init.1 136 = (.newarray .int,2,100,0,0,0,.retAddr 0) := rfl
theorem fd_Mo_init_138 : am_fd mt_Mo_init.1 138 = (.putfield 63,3,28,2,12,12,.retAddr 0) := rfl
theorem fd_Mo_init_141 : am_fd mt_Mo_init.1 141 = (.aload_n 0,1,0,0,0,0,.retAddr 0) := rfl
theorem fd_Mo_init_142 : am_fd mt_Mo_init.1 142 = (.sipush 1024,3,0,0,0,0,.int 1024) := rfl
theorem fd_Mo_init_145 : am_fd mt_Mo_init.1 145 = (.newarray .boolean,2,103,0,0,0,.retAddr 0) := rfl
theorem fd_Mo_init_147 : am_fd mt_Mo_init.1 147 = (.putfield 66,3,29,2,12,12,.retAddr 0) := rfl
theorem fd_Mo_init_150 : am_fd mt_Mo_init.1 150 = (.aload_n 0,1,0,0,0,0,.retAddr 0) := rfl
theorem fd_Mo_init_151 : am_fd mt_Mo_init.1 151 = (.sipush 128,3,0,0,0,0,.int 128) := rfl
theorem fd_Mo_init_154 : am_fd mt_Mo_init.1 154 = (.newarray .byte,2,102,0,0,0,.retAddr 0) := rfl
theorem fd_Mo_init_156 : am_fd mt_Mo_init.1 156 = (.putfield 69,3,30,2,12,12,.retAddr 0) := rfl
theorem fd_Mo_init_159 : am_fd mt_Mo_init.1 159 = (.aload_n 0,1,0,0,0,0,.retAddr 0) := rfl
theorem fd_Mo_init_160 : am_fd mt_Mo_init.1 160 = (.ldc 72,2,0,0,0,0,.int 45000) := rfl
theorem fd_Mo_init_162 : am_fd mt_Mo_init.1 162 = (.newarray .long,2,101,0,0,0,.retAddr 0) := rfl
theorem fd_Mo_init_164 : am_fd mt_Mo_init.1 164 = (.putfield 73,3,32,2,12,12,.retAddr 0) := rfl
theorem fd_Mo_init_167 : am_fd mt_Mo_init.1 167 = (.aload_n 0,1,0,0,0,0,.retAddr 0) := rfl
theorem fd_Mo_init_168 : am_fd mt_Mo_init.1 168 = (.ldc 72,2,0,0,0,0,.int 45000) := rfl
theorem fd_Mo_init_170 : am_fd mt_Mo_init.1 170 = (.newarray .int,2,100,0,0,0,.retAddr 0) := rfl
theorem fd_Mo_init_172 : am_fd mt_Mo_init.1 172 = (.putfield 76,3,33,2,12,12,.retAddr 0) := rfl
theorem fd_Mo_init_175 : am_fd mt_Mo_init.1 175 = (.aload_n 0,1,0,0,0,0,.retAddr 0) := rfl
theorem fd_Mo_init_176 : am_fd mt_Mo_init.1 176 = (.ldc 72,2,0,0,0,0,.int 45000) := rfl
theorem fd_Mo_init_178 : am_fd mt_Mo_init.1 178 = (.newarray .long,2,101,0,0,0,.retAddr 0) := rfl
theorem fd_Mo_init_180 : am_fd mt_Mo_init.1 180 = (.putfield 79,3,34,2,12,12,.retAddr 0) := rfl
theorem fd_Mo_init_183 : am_fd mt_Mo_init.1 183 = (.aload_n 0,1,0,0,0,0,.retAddr 0) := rfl
theorem fd_Mo_init_184 : am_fd mt_Mo_init.1 184 = (.bipush 60,2,0,0,0,0,.int 60) := rfl
theorem fd_Mo_init_186 : am_fd mt_Mo_init.1 186 = (.newarray .long,2,101,0,0,0,.retAddr 0) := rfl
theorem fd_Mo_init_188 : am_fd mt_Mo_init.1 188 = (.putfield 82,3,36,2,12,12,.retAddr 0) := rfl
theorem fd_Mo_init_191 : am_fd mt_Mo_init.1 191 = (.aload_n 0,1,0,0,0,0,.retAddr 0) := rfl
theorem fd_Mo_init_192 : am_fd mt_Mo_init.1 192 = (.bipush 60,2,0,0,0,0,.int 60) := rfl
theorem fd_Mo_init_194 : am_fd mt_Mo_init.1 194 = (.newarray .int,2,100,0,0,0,.retAddr 0) := rfl
theorem fd_Mo_init_196 : am_fd mt_Mo_init.1 196 = (.putfield 85,3,37,2,12,12,.retAddr 0) := rfl
theorem fd_Mo_init_199 : am_fd mt_Mo_init.1 199 = (.aload_n 0,1,0,0,0,0,.retAddr 0) := rfl
theorem fd_Mo_init_200 : am_fd mt_Mo_init.1 200 = (.bipush 60,2,0,0,0,0,.int 60) := rfl
theorem fd_Mo_init_202 : am_fd mt_Mo_init.1 202 = (.newarray .long,2,101,0,0,0,.retAddr 0) := rfl
theorem fd_Mo_init_204 : am_fd mt_Mo_init.1 204 = (.putfield 88,3,38,2,12,12,.retAddr 0) := rfl
theorem fd_Mo_init_207 : am_fd mt_Mo_init.1 207 = (.aload_n 0,1,0,0,0,0,.retAddr 0) := rfl
theorem fd_Mo_init_208 : am_fd mt_Mo_init.1 208 = (.ldc 72,2,0,0,0,0,.int 45000) := rfl
theorem fd_Mo_init_210 : am_fd mt_Mo_init.1 210 = (.newarray .long,2,101,0,0,0,.retAddr 0) := rfl
theorem fd_Mo_init_212 : am_fd mt_Mo_init.1 212 = (.putfield 91,3,39,2,12,12,.retAddr 0) := rfl
theorem fd_Mo_init_215 : am_fd mt_Mo_init.1 215 = (.aload_n 0,1,0,0,0,0,.retAddr 0) := rfl
theorem fd_Mo_init_216 : am_fd mt_Mo_init.1 216 = (.ldc 72,2,0,0,0,0,.int 45000) := rfl
theorem fd_Mo_init_218 : am_fd mt_Mo_init.1 218 = (.newarray .int,2,100,0,0,0,.retAddr 0) := rfl
theorem fd_Mo_init_220 : am_fd mt_Mo_init.1 220 = (.putfield 94,3,40,2,12,12,.retAddr 0) := rfl
theorem fd_Mo_init_223 : am_fd mt_Mo_init.1 223 = (.aload_n 0,1,0,0,0,0,.retAddr 0) := rfl
theorem fd_Mo_init_224 : am_fd mt_Mo_init.1 224 = (.ldc 72,2,0,0,0,0,.int 45000) := rfl
theorem fd_Mo_init_226 : am_fd mt_Mo_init.1 226 = (.newarray .long,2,101,0,0,0,.retAddr 0) := rfl
theorem fd_Mo_init_228 : am_fd mt_Mo_init.1 228 = (.putfield 97,3,41,2,12,12,.retAddr 0) := rfl
theorem fd_Mo_init_231 : am_fd mt_Mo_init.1 231 = (.aload_n 0,1,0,0,0,0,.retAddr 0) := rfl
theorem fd_Mo_init_232 : am_fd mt_Mo_init.1 232 = (.ldc 72,2,0,0,0,0,.int 45000) := rfl
theorem fd_Mo_init_234 : am_fd mt_Mo_init.1 234 = (.newarray .long,2,101,0,0,0,.retAddr 0) := rfl
theorem fd_Mo_init_236 : am_fd mt_Mo_init.1 236 = (.putfield 100,3,42,2,12,12,.retAddr 0) := rfl
theorem fd_Mo_init_239 : am_fd mt_Mo_init.1 239 = (.aload_n 0,1,0,0,0,0,.retAddr 0) := rfl
theorem fd_Mo_init_240 : am_fd mt_Mo_init.1 240 = (.ldc 72,2,0,0,0,0,.int 45000) := rfl
theorem fd_Mo_init_242 : am_fd mt_Mo_init.1 242 = (.newarray .int,2,100,0,0,0,.retAddr 0) := rfl
theorem fd_Mo_init_244 : am_fd mt_Mo_init.1 244 = (.putfield 103,3,43,2,12,12,.retAddr 0) := rfl
theorem fd_Mo_init_247 : am_fd mt_Mo_init.1 247 = (.aload_n 0,1,0,0,0,0,.retAddr 0) := rfl
theorem fd_Mo_init_248 : am_fd mt_Mo_init.1 248 = (.ldc 72,2,0,0,0,0,.int 45000) := rfl
theorem fd_Mo_init_250 : am_fd mt_Mo_init.1 250 = (.newarray .long,2,101,0,0,0,.retAddr 0) := rfl
theorem fd_Mo_init_252 : am_fd mt_Mo_init.1 252 = (.putfield 106,3,44,2,12,12,.retAddr 0) := rfl
theorem fd_Mo_init_255 : am_fd mt_Mo_init.1 255 = (.aload_n 0,1,0,0,0,0,.retAddr 0) := rfl
theorem fd_Mo_init_256 : am_fd mt_Mo_init.1 256 = (.sipush 200,3,0,0,0,0,.int 200) := rfl
theorem fd_Mo_init_259 : am_fd mt_Mo_init.1 259 = (.newarray .long,2,101,0,0,0,.retAddr 0) := rfl
theorem fd_Mo_init_261 : am_fd mt_Mo_init.1 261 = (.putfield 109,3,46,2,12,12,.retAddr 0) := rfl
theorem fd_Mo_init_264 : am_fd mt_Mo_init.1 264 = (.aload_n 0,1,0,0,0,0,.retAddr 0) := rfl
theorem fd_Mo_init_265 : am_fd mt_Mo_init.1 265 = (.sipush 200,3,0,0,0,0,.int 200) := rfl
theorem fd_Mo_init_268 : am_fd mt_Mo_init.1 268 = (.newarray .long,2,101,0,0,0,.retAddr 0) := rfl
theorem fd_Mo_init_270 : am_fd mt_Mo_init.1 270 = (.putfield 112,3,47,2,12,12,.retAddr 0) := rfl
theorem fd_Mo_init_273 : am_fd mt_Mo_init.1 273 = (.aload_n 0,1,0,0,0,0,.retAddr 0) := rfl
theorem fd_Mo_init_274 : am_fd mt_Mo_init.1 274 = (.bipush 8,2,0,0,0,0,.int 8) := rfl
theorem fd_Mo_init_276 : am_fd mt_Mo_init.1 276 = (.newarray .int,2,100,0,0,0,.retAddr 0) := rfl
theorem fd_Mo_init_278 : am_fd mt_Mo_init.1 278 = (.putfield 115,3,48,2,12,12,.retAddr 0) := rfl
theorem fd_Mo_init_281 : am_fd mt_Mo_init.1 281 = (.aload_n 0,1,0,0,0,0,.retAddr 0) := rfl
theorem fd_Mo_init_282 : am_fd mt_Mo_init.1 282 = (.bipush 8,2,0,0,0,0,.int 8) := rfl
theorem fd_Mo_init_284 : am_fd mt_Mo_init.1 284 = (.newarray .int,2,100,0,0,0,.retAddr 0) := rfl
theorem fd_Mo_init_286 : am_fd mt_Mo_init.1 286 = (.putfield 118,3,49,2,12,12,.retAddr 0) := rfl
theorem fd_Mo_init_289 : am_fd mt_Mo_init.1 289 = (.aload_n 0,1,0,0,0,0,.retAddr 0) := rfl
theorem fd_Mo_init_290 : am_fd mt_Mo_init.1 290 = (.iload_n 1,1,1,0,0,0,.retAddr 0) := rfl
theorem fd_Mo_init_291 : am_fd mt_Mo_init.1 291 = (.iconst 4,1,0,0,0,0,.int 4) := rfl
theorem fd_Mo_init_292 : am_fd mt_Mo_init.1 292 = (.if_icmp .ge 7,3,299,0,0,0,.retAddr 0) := rfl
theorem fd_Mo_init_295 : am_fd mt_Mo_init.1 295 = (.iconst 4,1,0,0,0,0,.int 4) := rfl
theorem fd_Mo_init_296 : am_fd mt_Mo_init.1 296 = (.goto 17,3,313,0,0,0,.retAddr 0) := rfl
theorem fd_Mo_init_299 : am_fd mt_Mo_init.1 299 = (.iload_n 1,1,1,0,0,0,.retAddr 0) := rfl
theorem fd_Mo_init_300 : am_fd mt_Mo_init.1 300 = (.sipush 1024,3,0,0,0,0,.int 1024) := rfl
theorem fd_Mo_init_303 : am_fd mt_Mo_init.1 303 = (.if_icmp .le 9,3,312,0,0,0,.retAddr 0) := rfl
theorem fd_Mo_init_306 : am_fd mt_Mo_init.1 306 = (.sipush 1024,3,0,0,0,0,.int 1024) := rfl
theorem fd_Mo_init_309 : am_fd mt_Mo_init.1 309 = (.goto 4,3,313,0,0,0,.retAddr 0) := rfl
theorem fd_Mo_init_312 : am_fd mt_Mo_init.1 312 = (.iload_n 1,1,1,0,0,0,.retAddr 0) := rfl
theorem fd_Mo_init_313 : am_fd mt_Mo_init.1 313 = (.putfield 121,3,1,0,12,12,.retAddr 0) := rfl
theorem fd_Mo_init_316 : am_fd mt_Mo_init.1 316 = (.aload_n 0,1,0,0,0,0,.retAddr 0) := rfl
theorem fd_Mo_init_317 : am_fd mt_Mo_init.1 317 = (.iconst 1,1,0,0,0,0,.int 1) := rfl
theorem fd_Mo_init_318 : am_fd mt_Mo_init.1 318 = (.putfield 125,3,4,0,12,12,.retAddr 0) := rfl
theorem fd_Mo_init_321 : am_fd mt_Mo_init.1 321 = (.aload_n 0,1,0,0,0,0,.retAddr 0) := rfl
theorem fd_Mo_init_322 : am_fd mt_Mo_init.1 322 = (.iconst 1,1,0,0,0,0,.int 1) := rfl
theorem fd_Mo_init_323 : am_fd mt_Mo_init.1 323 = (.putfield 128,3,5,0,12,12,.retAddr 0) := rfl
theorem fd_Mo_init_326 : am_fd mt_Mo_init.1 326 = (.aload_n 0,1,0,0,0,0,.retAddr 0) := rfl
theorem fd_Mo_init_327 : am_fd mt_Mo_init.1 327 = (.invokevirtual 131,3,132,1,12,0,.retAddr 0) := rfl
theorem fd_Mo_init_330 : am_fd mt_Mo_init.1 330 = (.aload_n 0,1,0,0,0,0,.retAddr 0) := rfl
theorem fd_Mo_init_331 : am_fd mt_Mo_init.1 331 = (.iconst 1,1,0,0,0,0,.int 1) := rfl
theorem fd_Mo_init_332 : am_fd mt_Mo_init.1 332 = (.invokevirtual 134,3,135,2,12,0,.retAddr 0) := rfl
theorem fd_Mo_init_335 : am_fd mt_Mo_init.1 335 = (.istore_n 2,1,2,0,0,0,.retAddr 0) := rfl
theorem fd_Mo_init_336 : am_fd mt_Mo_init.1 336 = (.aload_n 0,1,0,0,0,0,.retAddr 0) := rfl
theorem fd_Mo_init_337 : am_fd mt_Mo_init.1 337 = (.iconst 0,1,0,0,0,0,.int 0) := rfl
theorem fd_Mo_init_338 : am_fd mt_Mo_init.1 338 = (.putfield 138,3,7,0,12,12,.retAddr 0) := rfl
theorem fd_Mo_init_341 : am_fd mt_Mo_init.1 341 = (.return_,1,0,0,0,0,.retAddr 0) := rfl
theorem fd_Mo_layHead_0 : am_fd mt_Mo_layHead.1 0 = (.aload_n 0,1,0,0,0,0,.retAddr 0) := rfl
theorem fd_Mo_layHead_1 : am_fd mt_Mo_layHead.1 1 = (.invokevirtual 171,3,133,1,12,0,.retAddr 0) := rfl
theorem fd_Mo_layHead_4 : am_fd mt_Mo_layHead.1 4 = (.aload_n 0,1,0,0,0,0,.retAddr 0) := rfl
theorem fd_Mo_layHead_5 : am_fd mt_Mo_layHead.1 5 = (.iconst 0,1,0,0,0,0,.int 0) := rfl
theorem fd_Mo_layHead_6 : am_fd mt_Mo_layHead.1 6 = (.aload_n 0,1,0,0,0,0,.retAddr 0) := rfl
theorem fd_Mo_layHead_7 : am_fd mt_Mo_layHead.1 7 = (.getfield 125,3,4,0,12,12,.retAddr 0) := rfl
theorem fd_Mo_layHead_10 : am_fd mt_Mo_layHead.1 10 = (.bipush 16,2,0,0,0,0,.int 16) := rfl
theorem fd_Mo_layHead_12 : am_fd mt_Mo_layHead.1 12 = (.iushr,1,0,0,0,0,.retAddr 0) := rfl
theorem fd_Mo_layHead_13 : am_fd mt_Mo_layHead.1 13 = (.invokevirtual 174,3,134,3,12,0,.retAddr 0) := rfl
theorem fd_Mo_layHead_16 : am_fd mt_Mo_layHead.1 16 = (.istore_n 1,1,1,0,0,0,.retAddr 0) := rfl
theorem fd_Mo_layHead_17 : am_fd mt_Mo_layHead.1 17 = (.aload_n 0,1,0,0,0,0,.retAddr 0) := rfl
theorem fd_Mo_layHead_18 : am_fd mt_Mo_layHead.1 18 = (.iload_n 1,1,1,0,0,0,.retAddr 0) := rfl
theorem fd_Mo_layHead_19 : am_fd mt_Mo_layHead.1 19 = (.aload_n 0,1,0,0,0,0,.retAddr 0) := rfl
theorem fd_Mo_layHead_20 : am_fd mt_Mo_layHead.1 20 = (.getfield 125,3,4,0,12,12,.retAddr 0) := rfl
theorem fd_Mo_layHead_23 : am_fd mt_Mo_layHead.1 23 = (.invokevirtual 174,3,134,3,12,0,.retAddr 0) := rfl
theorem fd_Mo_layHead_26 : am_fd mt_Mo_layHead.1 26 = (.istore_n 1,1,1,0,0,0,.retAddr 0) := rfl
theorem fd_Mo_layHead_27 : am_fd mt_Mo_layHead.1 27 = (.aload_n 0,1,0,0,0,0,.retAddr 0) := rfl
theorem fd_Mo_layHead_28 : am_fd mt_Mo_layHead.1 28 = (.iload_n 1,1,1,0,0,0,.retAddr 0) := rfl
theorem fd_Mo_layHead_29 : am_fd mt_Mo_layHead.1 29 = (.aload_n 0,1,0,0,0,0,.retAddr 0) := rfl
theorem fd_Mo_layHead_30 : am_fd mt_Mo_layHead.1 30 = (.getfield 128,3,5,0,12,12,.retAddr 0) := rfl
theorem fd_Mo_layHead_33 : am_fd mt_Mo_layHead.1 33 = (.invokevirtual 174,3,134,3,12,0,.retAddr 0) := rfl
theorem fd_Mo_layHead_36 : am_fd mt_Mo_layHead.1 36 = (.istore_n 1,1,1,0,0,0,.retAddr 0) := rfl
theorem fd_Mo_layHead_37 : am_fd mt_Mo_layHead.1 37 = (.aload_n 0,1,0,0,0,0,.retAddr 0) := rfl
theorem fd_Mo_layHead_38 : am_fd mt_Mo_layHead.1 38 = (.getfield 69,3,30,2,12,12,.retAddr 0) := rfl
theorem fd_Mo_layHead_41 : am_fd mt_Mo_layHead.1 41 = (.iload_n 1,1,1,0,0,0,.retAddr 0) := rfl
theorem fd_Mo_layHead_42 : am_fd mt_Mo_layHead.1 42 = (.aload_n 0,1,0,0,0,0,.retAddr 0) := rfl
theorem fd_Mo_layHead_43 : am_fd mt_Mo_layHead.1 43 = (.getfield 168,3,24,0,12,12,.retAddr 0) := rfl
theorem fd_Mo_layHead_46 : am_fd mt_Mo_layHead.1 46 = (.i2b,1,0,0,0,0,.retAddr 0) := rfl
theorem fd_Mo_layHead_47 : am_fd mt_Mo_layHead.1 47 = (.bastore,1,0,0,0,0,.retAddr 0) := rfl
theorem fd_Mo_layHead_48 : am_fd mt_Mo_layHead.1 48 = (.iinc 1 1,3,1,0,0,0,.int 1) := rfl
theorem fd_Mo_layHead_51 : am_fd mt_Mo_layHead.1 51 = (.iconst 0,1,0,0,0,0,.int 0) := rfl
theorem fd_Mo_layHead_52 : am_fd mt_Mo_layHead.1 52 = (.istore_n 2,1,2,0,0,0,.retAddr 0) := rfl
theorem fd_Mo_layHead_53 : am_fd mt_Mo_layHead.1 53 = (.iload_n 2,1,2,0,0,0,.retAddr 0) := rfl
theorem fd_Mo_layHead_54 : am_fd mt_Mo_layHead.1 54 = (.aload_n 0,1,0,0,0,0,.retAddr 0) := rfl
theorem fd_Mo_layHead_55 : am_fd mt_Mo_layHead.1 55 = (.getfield 168,3,24,0,12,12,.retAddr 0) := rfl
theorem fd_Mo_layHead_58 : am_fd mt_Mo_layHead.1 58 = (.if_icmp .ge 71,3,129,0,0,0,.retAddr 0) := rfl
theorem fd_Mo_layHead_61 : am_fd mt_Mo_layHead.1 61 = (.aload_n 0,1,0,0,0,0,.retAddr 0) := rfl
theorem fd_Mo_layHead_62 : am_fd mt_Mo_layHead.1 62 = (.getfield 53,3,25,2,12,12,.retAddr 0) := rfl
theorem fd_Mo_layHead_65 : am_fd mt_Mo_layHead.1 65 = (.iload_n 2,1,2,0,0,0,.retAddr 0) := rfl
theorem fd_Mo_layHead_66 : am_fd mt_Mo_layHead.1 66 = (.iaload,1,0,0,0,0,.retAddr 0) := rfl
theorem fd_Mo_layHead_67 : am_fd mt_Mo_layHead.1 67 = (.istore_n 3,1,3,0,0,0,.retAddr 0) := rfl
theorem fd_Mo_layHead_68 : am_fd mt_Mo_layHead.1 68 = (.aload_n 0,1,0,0,0,0,.retAddr 0) := rfl
theorem fd_Mo_layHead_69 : am_fd mt_Mo_layHead.1 69 = (.iload_n 1,1,1,0,0,0,.retAddr 0) := rfl
theorem fd_Mo_layHead_70 : am_fd mt_Mo_layHead.1 70 = (.aload_n 0,1,0,0,0,0,.retAddr 0) := rfl
theorem fd_Mo_layHead_71 : am_fd mt_Mo_layHead.1 71 = (.getfield 28,3,16,2,12,12,.retAddr 0) := rfl
theorem fd_Mo_layHead_74 : am_fd mt_Mo_layHead.1 74 = (.iload_n 3,1,3,0,0,0,.retAddr 0) := rfl
theorem fd_Mo_layHead_75 : am_fd mt_Mo_layHead.1 75 = (.iaload,1,0,0,0,0,.retAddr 0) := rfl
theorem fd_Mo_layHead_76 : am_fd mt_Mo_layHead.1 76 = (.invokevirtual 174,3,134,3,12,0,.retAddr 0) := rfl
theorem fd_Mo_layHead_79 : am_fd mt_Mo_layHead.1 79 = (.istore_n 1,1,1,0,0,0,.retAddr 0) := rfl
theorem fd_Mo_layHead_80 : am_fd mt_Mo_layHead.1 80 = (.aload_n 0,1,0,0,0,0,.retAddr 0) := rfl
theorem fd_Mo_layHead_81 : am_fd mt_Mo_layHead.1 81 = (.getfield 69,3,30,2,12,12,.retAddr 0) := rfl
theorem fd_Mo_layHead_84 : am_fd mt_Mo_layHead.1 84 = (.iload_n 1,1,1,0,0,0,.retAddr 0) := rfl
theorem fd_Mo_layHead_85 : am_fd mt_Mo_layHead.1 85 = (.aload_n 0,1,0,0,0,0,.retAddr 0) := rfl
theorem fd_Mo_layHead_86 : am_fd mt_Mo_layHead.1 86 = (.getfield 31,3,17,2,12,12,.retAddr 0) := rfl
theorem fd_Mo_layHead_89 : am_fd mt_Mo_layHead.1 89 = (.iload_n 3,1,3,0,0,0,.retAddr 0) := rfl
theorem fd_Mo_layHead_90 : am_fd mt_Mo_layHead.1 90 = (.iaload,1,0,0,0,0,.retAddr 0) := rfl
theorem fd_Mo_layHead_91 : am_fd mt_Mo_layHead.1 91 = (.i2b,1,0,0,0,0,.retAddr 0) := rfl
theorem fd_Mo_layHead_92 : am_fd mt_Mo_layHead.1 92 = (.bastore,1,0,0,0,0,.retAddr 0) := rfl
theorem fd_Mo_layHead_93 : am_fd mt_Mo_layHead.1 93 = (.aload_n 0,1,0,0,0,0,.retAddr 0) := rfl
theorem fd_Mo_layHead_94 : am_fd mt_Mo_layHead.1 94 = (.iload_n 1,1,1,0,0,0,.retAddr 0) := rfl
theorem fd_Mo_layHead_95 : am_fd mt_Mo_layHead.1 95 = (.iconst 1,1,0,0,0,0,.int 1) := rfl
theorem fd_Mo_layHead_96 : am_fd mt_Mo_layHead.1 96 = (.iadd,1,0,0,0,0,.retAddr 0) := rfl
theorem fd_Mo_layHead_97 : am_fd mt_Mo_layHead.1 97 = (.aload_n 0,1,0,0,0,0,.retAddr 0) := rfl
theorem fd_Mo_layHead_98 : am_fd mt_Mo_layHead.1 98 = (.getfield 41,3,20,2,12,12,.retAddr 0) := rfl
theorem fd_Mo_layHead_101 : am_fd mt_Mo_layHead.1 101 = (.sipush 1024,3,0,0,0,0,.int 1024) := rfl
theorem fd_Mo_layHead_104 : am_fd mt_Mo_layHead.1 104 = (.iload_n 3,1,3,0,0,0,.retAddr 0) := rfl
theorem fd_Mo_layHead_105 : am_fd mt_Mo_layHead.1 105 = (.imul,1,0,0,0,0,.retAddr 0) := rfl
theorem fd_Mo_layHead_106 : am_fd mt_Mo_layHead.1 106 = (.iaload,1,0,0,0,0,.retAddr 0) := rfl
theorem fd_Mo_layHead_107 : am_fd mt_Mo_layHead.1 107 = (.invokevirtual 174,3,134,3,12,0,.retAddr 0) := rfl
theorem fd_Mo_layHead_110 : am_fd mt_Mo_layHead.1 110 = (.istore_n 1,1,1,0,0,0,.retAddr 0) := rfl
theorem fd_Mo_layHead_111 : am_fd mt_Mo_layHead.1 111 = (.aload_n 0,1,0,0,0,0,.retAddr 0) := rfl
theorem fd_Mo_layHead_112 : am_fd mt_Mo_layHead.1 112 = (.iload_n 1,1,1,0,0,0,.retAddr 0) := rfl
theorem fd_Mo_layHead_113 : am_fd mt_Mo_layHead.1 113 = (.aload_n 0,1,0,0,0,0,.retAddr 0) := rfl
theorem fd_Mo_layHead_114 : am_fd mt_Mo_layHead.1 114 = (.getfield 34,3,18,2,12,12,.retAddr 0) := rfl
theorem fd_Mo_layHead_117 : am_fd mt_Mo_layHead.1 117 = (.iload_n 3,1,3,0,0,0,.retAddr 0) := rfl
theorem fd_Mo_layHead_118 : am_fd mt_Mo_layHead.1 118 = (.iaload,1,0,0,0,0,.retAddr 0) := rfl
theorem fd_Mo_layHead_119 : am_fd mt_Mo_layHead.1 119 = (.invokevirtual 174,3,134,3,12,0,.retAddr 0) := rfl
theorem fd_Mo_layHead_122 : am_fd mt_Mo_layHead.1 122 = (.istore_n 1,1,1,0,0,0,.retAddr 0) := rfl
theorem fd_Mo_layHead_123 : am_fd mt_Mo_layHead.1 123 = (.iinc 2 1,3,2,0,0,0,.int 1) := rfl
theorem fd_Mo_layHead_126 : am_fd mt_Mo_layHead.1 126 = (.goto (-73),3,53,0,0,0,.retAddr 0) := rfl
theorem fd_Mo_layHead_129 : am_fd mt_Mo_layHead.1 129 = (.return_,1,0,0,0,0,.retAddr 0) := rfl
theorem fd_Mo_clearDraft_0 : am_fd mt_Mo_clearDraft.1 0 = (.iconst 0,1,0,0,0,0,.int 0) := rfl
theorem fd_Mo_clearDraft_1 : am_fd mt_Mo_clearDraft.1 1 = (.istore_n 1,1,1,0,0,0,.retAddr 0) := rfl
theorem fd_Mo_clearDraft_2 : am_fd mt_Mo_clearDraft.1 2 = (.iload_n 1,1,1,0,0,0,.retAddr 0) := rfl
theorem fd_Mo_clearDraft_3 : am_fd mt_Mo_clearDraft.1 3 = (.sipush 128,3,0,0,0,0,.int 128) := rfl
theorem fd_Mo_clearDraft_6 : am_fd mt_Mo_clearDraft.1 6 = (.if_icmp .ge 16,3,22,0,0,0,.retAddr 0) := rfl
theorem fd_Mo_clearDraft_9 : am_fd mt_Mo_clearDraft.1 9 = (.aload_n 0,1,0,0,0,0,.retAddr 0) := rfl
theorem fd_Mo_clearDraft_10 : am_fd mt_Mo_clearDraft.1 10 = (.getfield 69,3,30,2,12,12,.retAddr 0) := rfl
theorem fd_Mo_clearDraft_13 : am_fd mt_Mo_clearDraft.1 13 = (.iload_n 1,1,1,0,0,0,.retAddr 0) := rfl
theorem fd_Mo_clearDraft_14 : am_fd mt_Mo_clearDraft.1 14 = (.iconst 0,1,0,0,0,0,.int 0) := rfl
theorem fd_Mo_clearDraft_15 : am_fd mt_Mo_clearDraft.1 15 = (.bastore,1,0,0,0,0,.retAddr 0) := rfl
theorem fd_Mo_clearDraft_16 : am_fd mt_Mo_clearDraft.1 16 = (.iinc 1 1,3,1,0,0,0,.int 1) := rfl
theorem fd_Mo_clearDraft_19 : am_fd mt_Mo_clearDraft.1 19 = (.goto (-17),3,2,0,0,0,.retAddr 0) := rfl
theorem fd_Mo_clearDraft_22 : am_fd mt_Mo_clearDraft.1 22 = (.return_,1,0,0,0,0,.retAddr 0) := rfl
theorem fd_Mo_put2_0 : am_fd mt_Mo_put2.1 0 = (.aload_n 0,1,0,0,0,0,.retAddr 0) := rfl
theorem fd_Mo_put2_1 : am_fd mt_Mo_put2.1 1 = (.getfield 69,3,30,2,12,12,.retAddr 0) := rfl
theorem fd_Mo_put2_4 : am_fd mt_Mo_put2.1 4 = (.iload_n 1,1,1,0,0,0,.retAddr 0) := rfl
theorem fd_Mo_put2_5 : am_fd mt_Mo_put2.1 5 = (.iload_n 2,1,2,0,0,0,.retAddr 0) := rfl
theorem fd_Mo_put2_6 : am_fd mt_Mo_put2.1 6 = (.bipush 8,2,0,0,0,0,.int 8) := rfl
theorem fd_Mo_put2_8 : am_fd mt_Mo_put2.1 8 = (.ishr,1,0,0,0,0,.retAddr 0) := rfl
theorem fd_Mo_put2_9 : am_fd mt_Mo_put2.1 9 = (.i2b,1,0,0,0,0,.retAddr 0) := rfl
theorem fd_Mo_put2_10 : am_fd mt_Mo_put2.1 10 = (.bastore,1,0,0,0,0,.retAddr 0) := rfl
theorem fd_Mo_put2_11 : am_fd mt_Mo_put2.1 11 = (.aload_n 0,1,0,0,0,0,.retAddr 0) := rfl
theorem fd_Mo_put2_12 : am_fd mt_Mo_put2.1 12 = (.getfield 69,3,30,2,12,12,.retAddr 0) := rfl
theorem fd_Mo_put2_15 : am_fd mt_Mo_put2.1 15 = (.iload_n 1,1,1,0,0,0,.retAddr 0) := rfl
theorem fd_Mo_put2_16 : am_fd mt_Mo_put2.1 16 = (.iconst 1,1,0,0,0,0,.int 1) := rfl
theorem fd_Mo_put2_17 : am_fd mt_Mo_put2.1 17 = (.iadd,1,0,0,0,0,.retAddr 0) := rfl
theorem fd_Mo_put2_18 : am_fd mt_Mo_put2.1 18 = (.iload_n 2,1,2,0,0,0,.retAddr 0) := rfl
theorem fd_Mo_put2_19 : am_fd mt_Mo_put2.1 19 = (.i2b,1,0,0,0,0,.retAddr 0) := rfl
theorem fd_Mo_put2_20 : am_fd mt_Mo_put2.1 20 = (.bastore,1,0,0,0,0,.retAddr 0) := rfl
theorem fd_Mo_put2_21 : am_fd mt_Mo_put2.1 21 = (.iload_n 1,1,1,0,0,0,.retAddr 0) := rfl
theorem fd_Mo_put2_22 : am_fd mt_Mo_put2.1 22 = (.iconst 2,1,0,0,0,0,.int 2) := rfl
theorem fd_Mo_put2_23 : am_fd mt_Mo_put2.1 23 = (.iadd,1,0,0,0,0,.retAddr 0) := rfl
theorem fd_Mo_put2_24 : am_fd mt_Mo_put2.1 24 = (.ireturn,1,0,0,0,0,.retAddr 0) := rfl
theorem fd_Mo_write_0 : am_fd mt_Mo_write.1 0 = (.aload_n 0,1,0,0,0,0,.retAddr 0) := rfl
theorem fd_Mo_write_1 : am_fd mt_Mo_write.1 1 = (.iload_n 1,1,1,0,0,0,.retAddr 0) := rfl
theorem fd_Mo_write_2 : am_fd mt_Mo_write.1 2 = (.iconst 1,1,0,0,0,0,.int 1) := rfl
theorem fd_Mo_write_3 : am_fd mt_Mo_write.1 3 = (.invokevirtual 146,3,136,3,12,0,.retAddr 0) := rfl
theorem fd_Mo_write_6 : am_fd mt_Mo_write.1 6 = (.lstore_n 2,1,2,0,0,0,.retAddr 0) := rfl
theorem fd_Mo_write_7 : am_fd mt_Mo_write.1 7 = (.iconst 0,1,0,0,0,0,.int 0) := rfl
theorem fd_Mo_write_8 : am_fd mt_Mo_write.1 8 = (.istore 4,2,4,0,0,0,.retAddr 0) := rfl
theorem fd_Mo_write_10 : am_fd mt_Mo_write.1 10 = (.iload 4,2,4,0,0,0,.retAddr 0) := rfl
theorem fd_Mo_write_12 : am_fd mt_Mo_write.1 12 = (.bipush 8,2,0,0,0,0,.int 8) := rfl
theorem fd_Mo_write_14 : am_fd mt_Mo_write.1 14 = (.if_icmp .ge 31,3,45,0,0,0,.retAddr 0) := rfl
theorem fd_Mo_write_17 : am_fd mt_Mo_write.1 17 = (.aload_n 0,1,0,0,0,0,.retAddr 0) := rfl
theorem fd_Mo_write_18 : am_fd mt_Mo_write.1 18 = (.getfield 69,3,30,2,12,12,.retAddr 0) := rfl
theorem fd_Mo_write_21 : am_fd mt_Mo_write.1 21 = (.bipush 120,2,0,0,0,0,.int 120) := rfl
theorem fd_Mo_write_23 : am_fd mt_Mo_write.1 23 = (.iload 4,2,4,0,0,0,.retAddr 0) := rfl
theorem fd_Mo_write_25 : am_fd mt_Mo_write.1 25 = (.iadd,1,0,0,0,0,.retAddr 0) := rfl
theorem fd_Mo_write_26 : am_fd mt_Mo_write.1 26 = (.lload_n 2,1,2,0,0,0,.retAddr 0) := rfl
theorem fd_Mo_write_27 : am_fd mt_Mo_write.1 27 = (.bipush 56,2,0,0,0,0,.int 56) := rfl
theorem fd_Mo_write_29 : am_fd mt_Mo_write.1 29 = (.bipush 8,2,0,0,0,0,.int 8) := rfl
theorem fd_Mo_write_31 : am_fd mt_Mo_write.1 31 = (.iload 4,2,4,0,0,0,.retAddr 0) := rfl
theorem fd_Mo_write_33 : am_fd mt_Mo_write.1 33 = (.imul,1,0,0,0,0,.retAddr 0) := rfl
theorem fd_Mo_write_34 : am_fd mt_Mo_write.1 34 = (.isub,1,0,0,0,0,.retAddr 0) := rfl
theorem fd_Mo_write_35 : am_fd mt_Mo_write.1 35 = (.lushr,1,0,0,0,0,.retAddr 0) := rfl
theorem fd_Mo_write_36 : am_fd mt_Mo_write.1 36 = (.l2i,1,0,0,0,0,.retAddr 0) := rfl
theorem fd_Mo_write_37 : am_fd mt_Mo_write.1 37 = (.i2b,1,0,0,0,0,.retAddr 0) := rfl
theorem fd_Mo_write_38 : am_fd mt_Mo_write.1 38 = (.bastore,1,0,0,0,0,.retAddr 0) := rfl
theorem fd_Mo_write_39 : am_fd mt_Mo_write.1 39 = (.iinc 4 1,3,4,0,0,0,.int 1) := rfl
theorem fd_Mo_write_42 : am_fd mt_Mo_write.1 42 = (.goto (-32),3,10,0,0,0,.retAddr 0) := rfl
theorem fd_Mo_write_45 : am_fd mt_Mo_write.1 45 = (.aload_n 0,1,0,0,0,0,.retAddr 0) := rfl
theorem fd_Mo_write_46 : am_fd mt_Mo_write.1 46 = (.dup,1,0,0,0,0,.retAddr 0) := rfl
theorem fd_Mo_write_47 : am_fd mt_Mo_write.1 47 = (.getfield 138,3,7,0,12,12,.retAddr 0) := rfl
theorem fd_Mo_write_50 : am_fd mt_Mo_write.1 50 = (.iconst 1,1,0,0,0,0,.int 1) := rfl
theorem fd_Mo_write_51 : am_fd mt_Mo_write.1 51 = (.iadd,1,0,0,0,0,.retAddr 0) := rfl
theorem fd_Mo_write_52 : am_fd mt_Mo_write.1 52 = (.putfield 138,3,7,0,12,12,.retAddr 0) := rfl
theorem fd_Mo_write_55 : am_fd mt_Mo_write.1 55 = (.sipush 128,3,0,0,0,0,.int 128) := rfl
theorem fd_Mo_write_58 : am_fd mt_Mo_write.1 58 = (.istore 4,2,4,0,0,0,.retAddr 0) := rfl
theorem fd_Mo_write_60 : am_fd mt_Mo_write.1 60 = (.aload_n 0,1,0,0,0,0,.retAddr 0) := rfl
theorem fd_Mo_write_61 : am_fd mt_Mo_write.1 61 = (.getfield 152,3,8,0,12,12,.retAddr 0) := rfl
theorem fd_Mo_write_64 : am_fd mt_Mo_write.1 64 = (.ifCond .le 26,3,90,0,0,0,.retAddr 0) := rfl
theorem fd_Mo_write_67 : am_fd mt_Mo_write.1 67 = (.aload_n 0,1,0,0,0,0,.retAddr 0) := rfl
theorem fd_Mo_write_68 : am_fd mt_Mo_write.1 68 = (.dup,1,0,0,0,0,.retAddr 0) := rfl
theorem fd_Mo_write_69 : am_fd mt_Mo_write.1 69 = (.getfield 152,3,8,0,12,12,.retAddr 0) := rfl
theorem fd_Mo_write_72 : am_fd mt_Mo_write.1 72 = (.iconst 1,1,0,0,0,0,.int 1) := rfl
theorem fd_Mo_write_73 : am_fd mt_Mo_write.1 73 = (.isub,1,0,0,0,0,.retAddr 0) := rfl
theorem fd_Mo_write_74 : am_fd mt_Mo_write.1 74 = (.putfield 152,3,8,0,12,12,.retAddr 0) := rfl
theorem fd_Mo_write_77 : am_fd mt_Mo_write.1 77 = (.aload_n 0,1,0,0,0,0,.retAddr 0) := rfl
theorem fd_Mo_write_78 : am_fd mt_Mo_write.1 78 = (.getfield 152,3,8,0,12,12,.retAddr 0) := rfl
theorem fd_Mo_write_81 : am_fd mt_Mo_write.1 81 = (.ifCond .ne 9,3,90,0,0,0,.retAddr 0) := rfl
theorem fd_Mo_write_84 : am_fd mt_Mo_write.1 84 = (.aload_n 0,1,0,0,0,0,.retAddr 0) := rfl
theorem fd_Mo_write_85 : am_fd mt_Mo_write.1 85 = (.getfield 155,3,9,0,12,12,.retAddr 0) := rfl
theorem fd_Mo_write_88 : am_fd mt_Mo_write.1 88 = (.istore 4,2,4,0,0,0,.retAddr 0) := rfl
theorem fd_Mo_write_90 : am_fd mt_Mo_write.1 90 = (.iload 4,2,4,0,0,0,.retAddr 0) := rfl
theorem fd_Mo_write_92 : am_fd mt_Mo_write.1 92 = (.sipush 128,3,0,0,0,0,.int 128) := rfl
theorem fd_Mo_write_95 : am_fd mt_Mo_write.1 95 = (.if_icmp .ne 7,3,102,0,0,0,.retAddr 0) := rfl
theorem fd_Mo_write_98 : am_fd mt_Mo_write.1 98 = (.iconst 1,1,0,0,0,0,.int 1) := rfl
theorem fd_Mo_write_99 : am_fd mt_Mo_write.1 99 = (.goto 4,3,103,0,0,0,.retAddr 0) := rfl
theorem fd_Mo_write_102 : am_fd mt_Mo_write.1 102 = (.iconst 0,1,0,0,0,0,.int 0) := rfl
theorem fd_Mo_write_103 : am_fd mt_Mo_write.1 103 = (.istore 5,2,5,0,0,0,.retAddr 0) := rfl
theorem fd_Mo_write_105 : am_fd mt_Mo_write.1 105 = (.iconst 0,1,0,0,0,0,.int 0) := rfl
theorem fd_Mo_write_106 : am_fd mt_Mo_write.1 106 = (.istore 6,2,6,0,0,0,.retAddr 0) := rfl
theorem fd_Mo_write_108 : am_fd mt_Mo_write.1 108 = (.iload 6,2,6,0,0,0,.retAddr 0) := rfl
theorem fd_Mo_write_110 : am_fd mt_Mo_write.1 110 = (.iload 4,2,4,0,0,0,.retAddr 0) := rfl
theorem fd_Mo_write_112 : am_fd mt_Mo_write.1 112 = (.if_icmp .ge 29,3,141,0,0,0,.retAddr 0) := rfl
theorem fd_Mo_write_115 : am_fd mt_Mo_write.1 115 = (.aload_n 0,1,0,0,0,0,.retAddr 0) := rfl
theorem fd_Mo_write_116 : am_fd mt_Mo_write.1 116 = (.getfield 8,3,2,2,12,12,.retAddr 0) := rfl
theorem fd_Mo_write_119 : am_fd mt_Mo_write.1 119 = (.sipush 128,3,0,0,0,0,.int 128) := rfl
theorem fd_Mo_write_122 : am_fd mt_Mo_write.1 122 = (.iload_n 1,1,1,0,0,0,.retAddr 0) := rfl
theorem fd_Mo_write_123 : am_fd mt_Mo_write.1 123 = (.imul,1,0,0,0,0,.retAddr 0) := rfl
theorem fd_Mo_write_124 : am_fd mt_Mo_write.1 124 = (.iload 6,2,6,0,0,0,.retAddr 0) := rfl
theorem fd_Mo_write_126 : am_fd mt_Mo_write.1 126 = (.iadd,1,0,0,0,0,.retAddr 0) := rfl
theorem fd_Mo_write_127 : am_fd mt_Mo_write.1 127 = (.aload_n 0,1,0,0,0,0,.retAddr 0) := rfl
theorem fd_Mo_write_128 : am_fd mt_Mo_write.1 128 = (.getfield 69,3,30,2,12,12,.retAddr 0) := rfl
theorem fd_Mo_write_131 : am_fd mt_Mo_write.1 131 = (.iload 6,2,6,0,0,0,.retAddr 0) := rfl
theorem fd_Mo_write_133 : am_fd mt_Mo_write.1 133 = (.baload,1,0,0,0,0,.retAddr 0) := rfl
theorem fd_Mo_write_134 : am_fd mt_Mo_write.1 134 = (.bastore,1,0,0,0,0,.retAddr 0) := rfl
theorem fd_Mo_write_135 : am_fd mt_Mo_write.1 135 = (.iinc 6 1,3,6,0,0,0,.int 1) := rfl
theorem fd_Mo_write_138 : am_fd mt_Mo_write.1 138 = (.goto (-30),3,108,0,0,0,.retAddr 0) := rfl
theorem fd_Mo_write_141 : am_fd mt_Mo_write.1 141 = (.iload 5,2,5,0,0,0,.retAddr 0) := rfl
theorem fd_Mo_write_143 : am_fd mt_Mo_write.1 143 = (.ifCond .ne 7,3,150,0,0,0,.retAddr 0) := rfl
theorem fd_Mo_write_146 : am_fd mt_Mo_write.1 146 = (.aload_n 0,1,0,0,0,0,.retAddr 0) := rfl
theorem fd_Mo_write_147 : am_fd mt_Mo_write.1 147 = (.invokevirtual 158,3,137,1,12,0,.retAddr 0) := rfl
theorem fd_Mo_write_150 : am_fd mt_Mo_write.1 150 = (.iload 5,2,5,0,0,0,.retAddr 0) := rfl
theorem fd_Mo_write_152 : am_fd mt_Mo_write.1 152 = (.ireturn,1,1,0,0,0,.retAddr 0) := rfl
theorem fd_Mo_sumOf_0 : am_fd mt_Mo_sumOf.1 0 = (.iload_n 1,1,1,0,0,0,.retAddr 0) := rfl
theorem fd_Mo_sumOf_1 : am_fd mt_Mo_sumOf.1 1 = (.i2l,1,0,0,0,0,.retAddr 0) := rfl
theorem fd_Mo_sumOf_2 : am_fd mt_Mo_sumOf.1 2 = (.lstore_n 3,1,3,0,0,0,.retAddr 0) := rfl
theorem fd_Mo_sumOf_3 : am_fd mt_Mo_sumOf.1 3 = (.iconst 0,1,0,0,0,0,.int 0) := rfl
theorem fd_Mo_sumOf_4 : am_fd mt_Mo_sumOf.1 4 = (.istore 5,2,5,0,0,0,.retAddr 0) := rfl
theorem fd_Mo_sumOf_6 : am_fd mt_Mo_sumOf.1 6 = (.iload 5,2,5,0,0,0,.retAddr 0) := rfl
theorem fd_Mo_sumOf_8 : am_fd mt_Mo_sumOf.1 8 = (.bipush 120,2,0,0,0,0,.int 120) := rfl
theorem fd_Mo_sumOf_10 : am_fd mt_Mo_sumOf.1 10 = (.if_icmp .ge 56,3,66,0,0,0,.retAddr 0) := rfl
theorem fd_Mo_sumOf_13 : am_fd mt_Mo_sumOf.1 13 = (.iload_n 2,1,2,0,0,0,.retAddr 0) := rfl
theorem fd_Mo_sumOf_14 : am_fd mt_Mo_sumOf.1 14 = (.ifCond .eq 17,3,31,0,0,0,.retAddr 0) := rfl
theorem fd_Mo_sumOf_17 : am_fd mt_Mo_sumOf.1 17 = (.aload_n 0,1,0,0,0,0,.retAddr 0) := rfl
theorem fd_Mo_sumOf_18 : am_fd mt_Mo_sumOf.1 18 = (.getfield 69,3,30,2,12,12,.retAddr 0) := rfl
theorem fd_Mo_sumOf_21 : am_fd mt_Mo_sumOf.1 21 = (.iload 5,2,5,0,0,0,.retAddr 0) := rfl
theorem fd_Mo_sumOf_23 : am_fd mt_Mo_sumOf.1 23 = (.baload,1,0,0,0,0,.retAddr 0) := rfl
theorem fd_Mo_sumOf_24 : am_fd mt_Mo_sumOf.1 24 = (.sipush 255,3,0,0,0,0,.int 255) := rfl
theorem fd_Mo_sumOf_27 : am_fd mt_Mo_sumOf.1 27 = (.iand,1,0,0,0,0,.retAddr 0) := rfl
theorem fd_Mo_sumOf_28 : am_fd mt_Mo_sumOf.1 28 = (.goto 20,3,48,0,0,0,.retAddr 0) := rfl
theorem fd_Mo_sumOf_31 : am_fd mt_Mo_sumOf.1 31 = (.aload_n 0,1,0,0,0,0,.retAddr 0) := rfl
theorem fd_Mo_sumOf_32 : am_fd mt_Mo_sumOf.1 32 = (.getfield 8,3,2,2,12,12,.retAddr 0) := rfl
theorem fd_Mo_sumOf_35 : am_fd mt_Mo_sumOf.1 35 = (.sipush 128,3,0,0,0,0,.int 128) := rfl
theorem fd_Mo_sumOf_38 : am_fd mt_Mo_sumOf.1 38 = (.iload_n 1,1,1,0,0,0,.retAddr 0) := rfl
theorem fd_Mo_sumOf_39 : am_fd mt_Mo_sumOf.1 39 = (.imul,1,0,0,0,0,.retAddr 0) := rfl
theorem fd_Mo_sumOf_40 : am_fd mt_Mo_sumOf.1 40 = (.iload 5,2,5,0,0,0,.retAddr 0) := rfl
theorem fd_Mo_sumOf_42 : am_fd mt_Mo_sumOf.1 42 = (.iadd,1,0,0,0,0,.retAddr 0) := rfl
theorem fd_Mo_sumOf_43 : am_fd mt_Mo_sumOf.1 43 = (.baload,1,0,0,0,0,.retAddr 0) := rfl
theorem fd_Mo_sumOf_44 : am_fd mt_Mo_sumOf.1 44 = (.sipush 255,3,0,0,0,0,.int 255) := rfl
theorem fd_Mo_sumOf_47 : am_fd mt_Mo_sumOf.1 47 = (.iand,1,0,0,0,0,.retAddr 0) := rfl
theorem fd_Mo_sumOf_48 : am_fd mt_Mo_sumOf.1 48 = (.istore 6,2,6,0,0,0,.retAddr 0) := rfl
theorem fd_Mo_sumOf_50 : am_fd mt_Mo_sumOf.1 50 = (.lload_n 3,1,3,0,0,0,.retAddr 0) := rfl
theorem fd_Mo_sumOf_51 : am_fd mt_Mo_sumOf.1 51 = (.iload 6,2,6,0,0,0,.retAddr 0) := rfl
theorem fd_Mo_sumOf_53 : am_fd mt_Mo_sumOf.1 53 = (.i2l,1,0,0,0,0,.retAddr 0) := rfl
theorem fd_Mo_sumOf_54 : am_fd mt_Mo_sumOf.1 54 = (.lxor,1,0,0,0,0,.retAddr 0) := rfl
theorem fd_Mo_sumOf_55 : am_fd mt_Mo_sumOf.1 55 = (.ldc2_w 144,3,0,0,0,0,.long 1099511628211) := rfl
theorem fd_Mo_sumOf_58 : am_fd mt_Mo_sumOf.1 58 = (.lmul,1,0,0,0,0,.retAddr 0) := rfl
theorem fd_Mo_sumOf_59 : am_fd mt_Mo_sumOf.1 59 = (.lstore_n 3,1,3,0,0,0,.retAddr 0) := rfl
theorem fd_Mo_sumOf_60 : am_fd mt_Mo_sumOf.1 60 = (.iinc 5 1,3,5,0,0,0,.int 1) := rfl
theorem fd_Mo_sumOf_63 : am_fd mt_Mo_sumOf.1 63 = (.goto (-57),3,6,0,0,0,.retAddr 0) := rfl
theorem fd_Mo_sumOf_66 : am_fd mt_Mo_sumOf.1 66 = (.lload_n 3,1,3,0,0,0,.retAddr 0) := rfl
theorem fd_Mo_sumOf_67 : am_fd mt_Mo_sumOf.1 67 = (.lreturn,1,0,0,0,0,.retAddr 0) := rfl
theorem fd_Mo_goDown_0 : am_fd mt_Mo_goDown.1 0 = (.aload_n 0,1,0,0,0,0,.retAddr 0) := rfl
theorem fd_Mo_goDown_1 : am_fd mt_Mo_goDown.1 1 = (.iconst 1,1,0,0,0,0,.int 1) := rfl
theorem fd_Mo_goDown_2 : am_fd mt_Mo_goDown.1 2 = (.putfield 161,3,3,3,12,12,.retAddr 0) := rfl
theorem fd_Mo_goDown_5 : am_fd mt_Mo_goDown.1 5 = (.aload_n 0,1,0,0,0,0,.retAddr 0) := rfl
theorem fd_Mo_goDown_6 : am_fd mt_Mo_goDown.1 6 = (.iconst 0,1,0,0,0,0,.int 0) := rfl
theorem fd_Mo_goDown_7 : am_fd mt_Mo_goDown.1 7 = (.putfield 165,3,11,0,12,12,.retAddr 0) := rfl
theorem fd_Mo_goDown_10 : am_fd mt_Mo_goDown.1 10 = (.aload_n 0,1,0,0,0,0,.retAddr 0) := rfl
theorem fd_Mo_goDown_11 : am_fd mt_Mo_goDown.1 11 = (.iconst 0,1,0,0,0,0,.int 0) := rfl
theorem fd_Mo_goDown_12 : am_fd mt_Mo_goDown.1 12 = (.putfield 168,3,24,0,12,12,.retAddr 0) := rfl
theorem fd_Mo_goDown_15 : am_fd mt_Mo_goDown.1 15 = (.iconst 0,1,0,0,0,0,.int 0) := rfl
theorem fd_Mo_goDown_16 : am_fd mt_Mo_goDown.1 16 = (.istore_n 1,1,1,0,0,0,.retAddr 0) := rfl
theorem fd_Mo_goDown_17 : am_fd mt_Mo_goDown.1 17 = (.iload_n 1,1,1,0,0,0,.retAddr 0) := rfl
theorem fd_Mo_goDown_18 : am_fd mt_Mo_goDown.1 18 = (.bipush 8,2,0,0,0,0,.int 8) := rfl
theorem fd_Mo_goDown_20 : am_fd mt_Mo_goDown.1 20 = (.if_icmp .ge 23,3,43,0,0,0,.retAddr 0) := rfl
theorem fd_Mo_goDown_23 : am_fd mt_Mo_goDown.1 23 = (.aload_n 0,1,0,0,0,0,.retAddr 0) := rfl
theorem fd_Mo_goDown_24 : am_fd mt_Mo_goDown.1 24 = (.getfield 56,3,26,2,12,12,.retAddr 0) := rfl
theorem fd_Mo_goDown_27 : am_fd mt_Mo_goDown.1 27 = (.iload_n 1,1,1,0,0,0,.retAddr 0) := rfl
theorem fd_Mo_goDown_28 : am_fd mt_Mo_goDown.1 28 = (.iconst 0,1,0,0,0,0,.int 0) := rfl
theorem fd_Mo_goDown_29 : am_fd mt_Mo_goDown.1 29 = (.bastore,1,0,0,0,0,.retAddr 0) := rfl
theorem fd_Mo_goDown_30 : am_fd mt_Mo_goDown.1 30 = (.aload_n 0,1,0,0,0,0,.retAddr 0) := rfl
theorem fd_Mo_goDown_31 : am_fd mt_Mo_goDown.1 31 = (.getfield 60,3,27,2,12,12,.retAddr 0) := rfl
theorem fd_Mo_goDown_34 : am_fd mt_Mo_goDown.1 34 = (.iload_n 1,1,1,0,0,0,.retAddr 0) := rfl
theorem fd_Mo_goDown_35 : am_fd mt_Mo_goDown.1 35 = (.iconst 0,1,0,0,0,0,.int 0) := rfl
theorem fd_Mo_goDown_36 : am_fd mt_Mo_goDown.1 36 = (.iastore,1,0,0,0,0,.retAddr 0) := rfl
theorem fd_Mo_goDown_37 : am_fd mt_Mo_goDown.1 37 = (.iinc 1 1,3,1,0,0,0,.int 1) := rfl
theorem fd_Mo_goDown_40 : am_fd mt_Mo_goDown.1 40 = (.goto (-23),3,17,0,0,0,.retAddr 0) := rfl
theorem fd_Mo_goDown_43 : am_fd mt_Mo_goDown.1 43 = (.iconst 0,1,0,0,0,0,.int 0) := rfl
theorem fd_Mo_goDown_44 : am_fd mt_Mo_goDown.1 44 = (.istore_n 1,1,1,0,0,0,.retAddr 0) := rfl
theorem fd_Mo_goDown_45 : am_fd mt_Mo_goDown.1 45 = (.iload_n 1,1,1,0,0,0,.retAddr 0) := rfl
theorem fd_Mo_goDown_46 : am_fd mt_Mo_goDown.1 46 = (.bipush 100,2,0,0,0,0,.int 100) := rfl
theorem fd_Mo_goDown_48 : am_fd mt_Mo_goDown.1 48 = (.if_icmp .ge 16,3,64,0,0,0,.retAddr 0) := rfl
theorem fd_Mo_goDown_51 : am_fd mt_Mo_goDown.1 51 = (.aload_n 0,1,0,0,0,0,.retAddr 0) := rfl
theorem fd_Mo_goDown_52 : am_fd mt_Mo_goDown.1 52 = (.getfield 25,3,15,2,12,12,.retAddr 0) := rfl
theorem fd_Mo_goDown_55 : am_fd mt_Mo_goDown.1 55 = (.iload_n 1,1,1,0,0,0,.retAddr 0) := rfl
theorem fd_Mo_goDown_56 : am_fd mt_Mo_goDown.1 56 = (.iconst 0,1,0,0,0,0,.int 0) := rfl
theorem fd_Mo_goDown_57 : am_fd mt_Mo_goDown.1 57 = (.iastore,1,0,0,0,0,.retAddr 0) := rfl
theorem fd_Mo_goDown_58 : am_fd mt_Mo_goDown.1 58 = (.iinc 1 1,3,1,0,0,0,.int 1) := rfl
theorem fd_Mo_goDown_61 : am_fd mt_Mo_goDown.1 61 = (.goto (-16),3,45,0,0,0,.retAddr 0) := rfl
theorem fd_Mo_goDown_64 : am_fd mt_Mo_goDown.1 64 = (.return_,1,0,0,0,0,.retAddr 0) := rfl
theorem fd_Mo_thrown_0 : am_fd mt_Mo_thrown.1 0 = (.aload_n 0,1,0,0,0,0,.retAddr 0) := rfl
theorem fd_Mo_thrown_1 : am_fd mt_Mo_thrown.1 1 = (.getfield 141,3,0,0,12,12,.retAddr 0) := rfl
theorem fd_Mo_thrown_4 : am_fd mt_Mo_thrown.1 4 = (.ireturn,1,0,0,0,0,.retAddr 0) := rfl
theorem fd_Mo_put_0 : am_fd mt_Mo_put.1 0 = (.aload_n 0,1,0,0,0,0,.retAddr 0) := rfl
theorem fd_Mo_put_1 : am_fd mt_Mo_put.1 1 = (.lload_n 1,1,1,0,0,0,.retAddr 0) := rfl
theorem fd_Mo_put_2 : am_fd mt_Mo_put.1 2 = (.iconst 1,1,0,0,0,0,.int 1) := rfl
theorem fd_Mo_put_3 : am_fd mt_Mo_put.1 3 = (.lload_n 3,1,3,0,0,0,.retAddr 0) := rfl
theorem fd_Mo_put_4 : am_fd mt_Mo_put.1 4 = (.invokevirtual 251,3,140,4,12,0,.retAddr 0) := rfl
theorem fd_Mo_put_7 : am_fd mt_Mo_put.1 7 = (.ireturn,1,0,0,0,0,.retAddr 0) := rfl
theorem fd_Mo_enter_0 : am_fd mt_Mo_enter.1 0 = (.aload_n 0,1,0,0,0,0,.retAddr 0) := rfl
theorem fd_Mo_enter_1 : am_fd mt_Mo_enter.1 1 = (.getfield 161,3,3,0,12,12,.retAddr 0) := rfl
theorem fd_Mo_enter_4 : am_fd mt_Mo_enter.1 4 = (.ifCond .ne 11,3,15,0,0,0,.retAddr 0) := rfl
theorem fd_Mo_enter_7 : am_fd mt_Mo_enter.1 7 = (.aload_n 0,1,0,0,0,0,.retAddr 0) := rfl
theorem fd_Mo_enter_8 : am_fd mt_Mo_enter.1 8 = (.lload_n 1,1,1,0,0,0,.retAddr 0) := rfl
theorem fd_Mo_enter_9 : am_fd mt_Mo_enter.1 9 = (.invokevirtual 243,3,141,2,12,0,.retAddr 0) := rfl
theorem fd_Mo_enter_12 : am_fd mt_Mo_enter.1 12 = (.ifCond .ne 10,3,22,0,0,0,.retAddr 0) := rfl
theorem fd_Mo_enter_15 : am_fd mt_Mo_enter.1 15 = (.aload_n 0,1,0,0,0,0,.retAddr 0) := rfl
theorem fd_Mo_enter_16 : am_fd mt_Mo_enter.1 16 = (.iconst 1,1,0,0,0,0,.int 1) := rfl
theorem fd_Mo_enter_17 : am_fd mt_Mo_enter.1 17 = (.putfield 141,3,0,0,12,12,.retAddr 0) := rfl
theorem fd_Mo_enter_20 : am_fd mt_Mo_enter.1 20 = (.iconst 0,1,0,0,0,0,.int 0) := rfl
theorem fd_Mo_enter_21 : am_fd mt_Mo_enter.1 21 = (.ireturn,1,0,0,0,0,.retAddr 0) := rfl
theorem fd_Mo_enter_22 : am_fd mt_Mo_enter.1 22 = (.aload_n 0,1,0,0,0,0,.retAddr 0) := rfl
theorem fd_Mo_enter_23 : am_fd mt_Mo_enter.1 23 = (.iconst 0,1,0,0,0,0,.int 0) := rfl
theorem fd_Mo_enter_24 : am_fd mt_Mo_enter.1 24 = (.putfield 141,3,0,0,12,12,.retAddr 0) := rfl
theorem fd_Mo_enter_27 : am_fd mt_Mo_enter.1 27 = (.aload_n 0,1,0,0,0,0,.retAddr 0) := rfl
theorem fd_Mo_enter_28 : am_fd mt_Mo_enter.1 28 = (.lload_n 1,1,1,0,0,0,.retAddr 0) := rfl
theorem fd_Mo_enter_29 : am_fd mt_Mo_enter.1 29 = (.iload_n 3,1,3,0,0,0,.retAddr 0) := rfl
theorem fd_Mo_enter_30 : am_fd mt_Mo_enter.1 30 = (.lload 4,2,4,0,0,0,.retAddr 0) := rfl
theorem fd_Mo_enter_32 : am_fd mt_Mo_enter.1 32 = (.invokevirtual 247,3,143,4,12,0,.retAddr 0) := rfl
theorem fd_Mo_enter_35 : am_fd mt_Mo_enter.1 35 = (.aload_n 0,1,0,0,0,0,.retAddr 0) := rfl
theorem fd_Mo_enter_36 : am_fd mt_Mo_enter.1 36 = (.getfield 165,3,11,0,12,12,.retAddr 0) := rfl
theorem fd_Mo_enter_39 : am_fd mt_Mo_enter.1 39 = (.ireturn,1,0,0,0,0,.retAddr 0) := rfl
theorem fd_Mo_hasPlace_0 : am_fd mt_Mo_hasPlace.1 0 = (.aload_n 0,1,0,0,0,0,.retAddr 0) := rfl
theorem fd_Mo_hasPlace_1 : am_fd mt_Mo_hasPlace.1 1 = (.lload_n 1,1,1,0,0,0,.retAddr 0) := rfl
theorem fd_Mo_hasPlace_2 : am_fd mt_Mo_hasPlace.1 2 = (.invokevirtual 240,3,142,2,12,0,.retAddr 0) := rfl
theorem fd_Mo_hasPlace_5 : am_fd mt_Mo_hasPlace.1 5 = (.istore_n 3,1,3,0,0,0,.retAddr 0) := rfl
theorem fd_Mo_hasPlace_6 : am_fd mt_Mo_hasPlace.1 6 = (.aload_n 0,1,0,0,0,0,.retAddr 0) := rfl
theorem fd_Mo_hasPlace_7 : am_fd mt_Mo_hasPlace.1 7 = (.getfield 165,3,11,0,12,12,.retAddr 0) := rfl
theorem fd_Mo_hasPlace_10 : am_fd mt_Mo_hasPlace.1 10 = (.bipush 64,2,0,0,0,0,.int 64) := rfl
theorem fd_Mo_hasPlace_12 : am_fd mt_Mo_hasPlace.1 12 = (.if_icmp .lt 22,3,34,0,0,0,.retAddr 0) := rfl
theorem fd_Mo_hasPlace_15 : am_fd mt_Mo_hasPlace.1 15 = (.iload_n 3,1,3,0,0,0,.retAddr 0) := rfl
theorem fd_Mo_hasPlace_16 : am_fd mt_Mo_hasPlace.1 16 = (.aload_n 0,1,0,0,0,0,.retAddr 0) := rfl
theorem fd_Mo_hasPlace_17 : am_fd mt_Mo_hasPlace.1 17 = (.getfield 165,3,11,0,12,12,.retAddr 0) := rfl
theorem fd_Mo_hasPlace_20 : am_fd mt_Mo_hasPlace.1 20 = (.if_icmp .ge 18,3,38,0,0,0,.retAddr 0) := rfl
theorem fd_Mo_hasPlace_23 : am_fd mt_Mo_hasPlace.1 23 = (.aload_n 0,1,0,0,0,0,.retAddr 0) := rfl
theorem fd_Mo_hasPlace_24 : am_fd mt_Mo_hasPlace.1 24 = (.getfield 14,3,12,2,12,12,.retAddr 0) := rfl
theorem fd_Mo_hasPlace_27 : am_fd mt_Mo_hasPlace.1 27 = (.iload_n 3,1,3,0,0,0,.retAddr 0) := rfl
theorem fd_Mo_hasPlace_28 : am_fd mt_Mo_hasPlace.1 28 = (.laload,1,0,0,0,0,.retAddr 0) := rfl
theorem fd_Mo_hasPlace_29 : am_fd mt_Mo_hasPlace.1 29 = (.lload_n 1,1,1,0,0,0,.retAddr 0) := rfl
theorem fd_Mo_hasPlace_30 : am_fd mt_Mo_hasPlace.1 30 = (.lcmp,1,0,0,0,0,.retAddr 0) := rfl
theorem fd_Mo_hasPlace_31 : am_fd mt_Mo_hasPlace.1 31 = (.ifCond .ne 7,3,38,0,0,0,.retAddr 0) := rfl
theorem fd_Mo_hasPlace_34 : am_fd mt_Mo_hasPlace.1 34 = (.iconst 1,1,0,0,0,0,.int 1) := rfl
theorem fd_Mo_hasPlace_35 : am_fd mt_Mo_hasPlace.1 35 = (.goto 4,3,39,0,0,0,.retAddr 0) := rfl
theorem fd_Mo_hasPlace_38 : am_fd mt_Mo_hasPlace.1 38 = (.iconst 0,1,0,0,0,0,.int 0) := rfl
theorem fd_Mo_hasPlace_39 : am_fd mt_Mo_hasPlace.1 39 = (.ireturn,1,1,0,0,0,.retAddr 0) := rfl
theorem fd_Mo_placeOf_0 : am_fd mt_Mo_placeOf.1 0 = (.iconst 0,1,0,0,0,0,.int 0) := rfl
theorem fd_Mo_placeOf_1 : am_fd mt_Mo_placeOf.1 1 = (.istore_n 3,1,3,0,0,0,.retAddr 0) := rfl
theorem fd_Mo_placeOf_2 : am_fd mt_Mo_placeOf.1 2 = (.iload_n 3,1,3,0,0,0,.retAddr 0) := rfl
theorem fd_Mo_placeOf_3 : am_fd mt_Mo_placeOf.1 3 = (.aload_n 0,1,0,0,0,0,.retAddr 0) := rfl
theorem fd_Mo_placeOf_4 : am_fd mt_Mo_placeOf.1 4 = (.getfield 165,3,11,0,12,12,.retAddr 0) := rfl
theorem fd_Mo_placeOf_7 : am_fd mt_Mo_placeOf.1 7 = (.if_icmp .ge 20,3,27,0,0,0,.retAddr 0) := rfl
theorem fd_Mo_placeOf_10 : am_fd mt_Mo_placeOf.1 10 = (.aload_n 0,1,0,0,0,0,.retAddr 0) := rfl
theorem fd_Mo_placeOf_11 : am_fd mt_Mo_placeOf.1 11 = (.getfield 14,3,12,2,12,12,.retAddr 0) := rfl
theorem fd_Mo_placeOf_14 : am_fd mt_Mo_placeOf.1 14 = (.iload_n 3,1,3,0,0,0,.retAddr 0) := rfl
theorem fd_Mo_placeOf_15 : am_fd mt_Mo_placeOf.1 15 = (.laload,1,0,0,0,0,.retAddr 0) := rfl
theorem fd_Mo_placeOf_16 : am_fd mt_Mo_placeOf.1 16 = (.lload_n 1,1,1,0,0,0,.retAddr 0) := rfl
theorem fd_Mo_placeOf_17 : am_fd mt_Mo_placeOf.1 17 = (.lcmp,1,0,0,0,0,.retAddr 0) := rfl
theorem fd_Mo_placeOf_18 : am_fd mt_Mo_placeOf.1 18 = (.ifCond .ge 9,3,27,0,0,0,.retAddr 0) := rfl
theorem fd_Mo_placeOf_21 : am_fd mt_Mo_placeOf.1 21 = (.iinc 3 1,3,3,0,0,0,.int 1) := rfl
theorem fd_Mo_placeOf_24 : am_fd mt_Mo_placeOf.1 24 = (.goto (-22),3,2,0,0,0,.retAddr 0) := rfl
theorem fd_Mo_placeOf_27 : am_fd mt_Mo_placeOf.1 27 = (.iload_n 3,1,3,0,0,0,.retAddr 0) := rfl
theorem fd_Mo_placeOf_28 : am_fd mt_Mo_placeOf.1 28 = (.ireturn,1,0,0,0,0,.retAddr 0) := rfl
theorem fd_Mo_come_0 : am_fd mt_Mo_come.1 0 = (.aload_n 0,1,0,0,0,0,.retAddr 0) := rfl
theorem fd_Mo_come_1 : am_fd mt_Mo_come.1 1 = (.lload_n 1,1,1,0,0,0,.retAddr 0) := rfl
theorem fd_Mo_come_2 : am_fd mt_Mo_come.1 2 = (.invokevirtual 240,3,142,2,12,0,.retAddr 0) := rfl
theorem fd_Mo_come_5 : am_fd mt_Mo_come.1 5 = (.istore 6,2,6,0,0,0,.retAddr 0) := rfl
theorem fd_Mo_come_7 : am_fd mt_Mo_come.1 7 = (.iload 6,2,6,0,0,0,.retAddr 0) := rfl
theorem fd_Mo_come_9 : am_fd mt_Mo_come.1 9 = (.aload_n 0,1,0,0,0,0,.retAddr 0) := rfl
theorem fd_Mo_come_10 : am_fd mt_Mo_come.1 10 = (.getfield 165,3,11,0,12,12,.retAddr 0) := rfl
theorem fd_Mo_come_13 : am_fd mt_Mo_come.1 13 = (.if_icmp .ge 106,3,119,0,0,0,.retAddr 0) := rfl
theorem fd_Mo_come_16 : am_fd mt_Mo_come.1 16 = (.aload_n 0,1,0,0,0,0,.retAddr 0) := rfl
theorem fd_Mo_come_17 : am_fd mt_Mo_come.1 17 = (.getfield 14,3,12,2,12,12,.retAddr 0) := rfl
theorem fd_Mo_come_20 : am_fd mt_Mo_come.1 20 = (.iload 6,2,6,0,0,0,.retAddr 0) := rfl
theorem fd_Mo_come_22 : am_fd mt_Mo_come.1 22 = (.laload,1,0,0,0,0,.retAddr 0) := rfl
theorem fd_Mo_come_23 : am_fd mt_Mo_come.1 23 = (.lload_n 1,1,1,0,0,0,.retAddr 0) := rfl
theorem fd_Mo_come_24 : am_fd mt_Mo_come.1 24 = (.lcmp,1,0,0,0,0,.retAddr 0) := rfl
theorem fd_Mo_come_25 : am_fd mt_Mo_come.1 25 = (.ifCond .ne 94,3,119,0,0,0,.retAddr 0) := rfl
theorem fd_Mo_come_28 : am_fd mt_Mo_come.1 28 = (.iload_n 3,1,3,0,0,0,.retAddr 0) := rfl
theorem fd_Mo_come_29 : am_fd mt_Mo_come.1 29 = (.iconst 3,1,0,0,0,0,.int 3) := rfl
theorem fd_Mo_come_30 : am_fd mt_Mo_come.1 30 = (.if_icmp .ne 62,3,92,0,0,0,.retAddr 0) := rfl
theorem fd_Mo_come_33 : am_fd mt_Mo_come.1 33 = (.aload_n 0,1,0,0,0,0,.retAddr 0) := rfl
theorem fd_Mo_come_34 : am_fd mt_Mo_come.1 34 = (.getfield 22,3,14,2,12,12,.retAddr 0) := rfl
theorem fd_Mo_come_37 : am_fd mt_Mo_come.1 37 = (.iload 6,2,6,0,0,0,.retAddr 0) := rfl
theorem fd_Mo_come_39 : am_fd mt_Mo_come.1 39 = (.aload_n 0,1,0,0,0,0,.retAddr 0) := rfl
theorem fd_Mo_come_40 : am_fd mt_Mo_come.1 40 = (.getfield 18,3,13,2,12,12,.retAddr 0) := rfl
theorem fd_Mo_come_43 : am_fd mt_Mo_come.1 43 = (.iload 6,2,6,0,0,0,.retAddr 0) := rfl
theorem fd_Mo_come_45 : am_fd mt_Mo_come.1 45 = (.iaload,1,0,0,0,0,.retAddr 0) := rfl
theorem fd_Mo_come_46 : am_fd mt_Mo_come.1 46 = (.iconst 2,1,0,0,0,0,.int 2) := rfl
theorem fd_Mo_come_47 : am_fd mt_Mo_come.1 47 = (.if_icmp .ne 8,3,55,0,0,0,.retAddr 0) := rfl
theorem fd_Mo_come_50 : am_fd mt_Mo_come.1 50 = (.lload 4,2,4,0,0,0,.retAddr 0) := rfl
theorem fd_Mo_come_52 : am_fd mt_Mo_come.1 52 = (.goto 13,3,65,0,0,0,.retAddr 0) := rfl
theorem fd_Mo_come_55 : am_fd mt_Mo_come.1 55 = (.aload_n 0,1,0,0,0,0,.retAddr 0) := rfl
theorem fd_Mo_come_56 : am_fd mt_Mo_come.1 56 = (.getfield 22,3,14,2,12,12,.retAddr 0) := rfl
theorem fd_Mo_come_59 : am_fd mt_Mo_come.1 59 = (.iload 6,2,6,0,0,0,.retAddr 0) := rfl
theorem fd_Mo_come_61 : am_fd mt_Mo_come.1 61 = (.laload,1,0,0,0,0,.retAddr 0) := rfl
theorem fd_Mo_come_62 : am_fd mt_Mo_come.1 62 = (.lload 4,2,4,0,0,0,.retAddr 0) := rfl
theorem fd_Mo_come_64 : am_fd mt_Mo_come.1 64 = (.ladd,1,0,0,0,0,.retAddr 0) := rfl
theorem fd_Mo_come_65 : am_fd mt_Mo_come.1 65 = (.lastore,1,0,0,0,0,.retAddr 0) := rfl
theorem fd_Mo_come_66 : am_fd mt_Mo_come.1 66 = (.aload_n 0,1,0,0,0,0,.retAddr 0) := rfl
theorem fd_Mo_come_67 : am_fd mt_Mo_come.1 67 = (.getfield 18,3,13,2,12,12,.retAddr 0) := rfl
theorem fd_Mo_come_70 : am_fd mt_Mo_come.1 70 = (.iload 6,2,6,0,0,0,.retAddr 0) := rfl
theorem fd_Mo_come_72 : am_fd mt_Mo_come.1 72 = (.aload_n 0,1,0,0,0,0,.retAddr 0) := rfl
theorem fd_Mo_come_73 : am_fd mt_Mo_come.1 73 = (.getfield 18,3,13,2,12,12,.retAddr 0) := rfl
theorem fd_Mo_come_76 : am_fd mt_Mo_come.1 76 = (.iload 6,2,6,0,0,0,.retAddr 0) := rfl
theorem fd_Mo_come_78 : am_fd mt_Mo_come.1 78 = (.iaload,1,0,0,0,0,.retAddr 0) := rfl
theorem fd_Mo_come_79 : am_fd mt_Mo_come.1 79 = (.iconst 3,1,0,0,0,0,.int 3) := rfl
theorem fd_Mo_come_80 : am_fd mt_Mo_come.1 80 = (.if_icmp .ne 7,3,87,0,0,0,.retAddr 0) := rfl
theorem fd_Mo_come_83 : am_fd mt_Mo_come.1 83 = (.iconst 3,1,0,0,0,0,.int 3) := rfl
theorem fd_Mo_come_84 : am_fd mt_Mo_come.1 84 = (.goto 4,3,88,0,0,0,.retAddr 0) := rfl
theorem fd_Mo_come_87 : am_fd mt_Mo_come.1 87 = (.iconst 1,1,0,0,0,0,.int 1) := rfl
theorem fd_Mo_come_88 : am_fd mt_Mo_come.1 88 = (.iastore,1,0,0,0,0,.retAddr 0) := rfl
theorem fd_Mo_come_89 : am_fd mt_Mo_come.1 89 = (.goto 29,3,118,0,0,0,.retAddr 0) := rfl
theorem fd_Mo_come_92 : am_fd mt_Mo_come.1 92 = (.aload_n 0,1,0,0,0,0,.retAddr 0) := rfl
theorem fd_Mo_come_93 : am_fd mt_Mo_come.1 93 = (.getfield 18,3,13,2,12,12,.retAddr 0) := rfl
theorem fd_Mo_come_96 : am_fd mt_Mo_come.1 96 = (.iload 6,2,6,0,0,0,.retAddr 0) := rfl
theorem fd_Mo_come_98 : am_fd mt_Mo_come.1 98 = (.iload_n 3,1,3,0,0,0,.retAddr 0) := rfl
theorem fd_Mo_come_99 : am_fd mt_Mo_come.1 99 = (.iastore,1,0,0,0,0,.retAddr 0) := rfl
theorem fd_Mo_come_100 : am_fd mt_Mo_come.1 100 = (.aload_n 0,1,0,0,0,0,.retAddr 0) := rfl
theorem fd_Mo_come_101 : am_fd mt_Mo_come.1 101 = (.getfield 22,3,14,2,12,12,.retAddr 0) := rfl
theorem fd_Mo_come_104 : am_fd mt_Mo_come.1 104 = (.iload 6,2,6,0,0,0,.retAddr 0) := rfl
theorem fd_Mo_come_106 : am_fd mt_Mo_come.1 106 = (.iload_n 3,1,3,0,0,0,.retAddr 0) := rfl
theorem fd_Mo_come_107 : am_fd mt_Mo_come.1 107 = (.iconst 2,1,0,0,0,0,.int 2) := rfl
theorem fd_Mo_come_108 : am_fd mt_Mo_come.1 108 = (.if_icmp .ne 7,3,115,0,0,0,.retAddr 0) := rfl
theorem fd_Mo_come_111 : am_fd mt_Mo_come.1 111 = (.lconst 0,1,0,0,0,0,.long 0) := rfl
theorem fd_Mo_come_112 : am_fd mt_Mo_come.1 112 = (.goto 5,3,117,0,0,0,.retAddr 0) := rfl
theorem fd_Mo_come_115 : am_fd mt_Mo_come.1 115 = (.lload 4,2,4,0,0,0,.retAddr 0) := rfl
theorem fd_Mo_come_117 : am_fd mt_Mo_come.1 117 = (.lastore,1,0,0,0,0,.retAddr 0) := rfl
theorem fd_Mo_come_118 : am_fd mt_Mo_come.1 118 = (.return_,1,0,0,0,0,.retAddr 0) := rfl
theorem fd_Mo_come_119 : am_fd mt_Mo_come.1 119 = (.aload_n 0,1,0,0,0,0,.retAddr 0) := rfl
theorem fd_Mo_come_120 : am_fd mt_Mo_come.1 120 = (.getfield 165,3,11,0,12,12,.retAddr 0) := rfl
theorem fd_Mo_come_123 : am_fd mt_Mo_come.1 123 = (.istore 7,2,7,0,0,0,.retAddr 0) := rfl
theorem fd_Mo_come_125 : am_fd mt_Mo_come.1 125 = (.iload 7,2,7,0,0,0,.retAddr 0) := rfl
theorem fd_Mo_come_127 : am_fd mt_Mo_come.1 127 = (.iload 6,2,6,0,0,0,.retAddr 0) := rfl
theorem fd_Mo_come_129 : am_fd mt_Mo_come.1 129 = (.if_icmp .le 57,3,186,0,0,0,.retAddr 0) := rfl
theorem fd_Mo_come_132 : am_fd mt_Mo_come.1 132 = (.aload_n 0,1,0,0,0,0,.retAddr 0) := rfl
theorem fd_Mo_come_133 : am_fd mt_Mo_come.1 133 = (.getfield 14,3,12,2,12,12,.retAddr 0) := rfl
theorem fd_Mo_come_136 : am_fd mt_Mo_come.1 136 = (.iload 7,2,7,0,0,0,.retAddr 0) := rfl
theorem fd_Mo_come_138 : am_fd mt_Mo_come.1 138 = (.aload_n 0,1,0,0,0,0,.retAddr 0) := rfl
theorem fd_Mo_come_139 : am_fd mt_Mo_come.1 139 = (.getfield 14,3,12,2,12,12,.retAddr 0) := rfl
theorem fd_Mo_come_142 : am_fd mt_Mo_come.1 142 = (.iload 7,2,7,0,0,0,.retAddr 0) := rfl
theorem fd_Mo_come_144 : am_fd mt_Mo_come.1 144 = (.iconst 1,1,0,0,0,0,.int 1) := rfl
theorem fd_Mo_come_145 : am_fd mt_Mo_come.1 145 = (.isub,1,0,0,0,0,.retAddr 0) := rfl
theorem fd_Mo_come_146 : am_fd mt_Mo_come.1 146 = (.laload,1,0,0,0,0,.retAddr 0) := rfl
theorem fd_Mo_come_147 : am_fd mt_Mo_come.1 147 = (.lastore,1,0,0,0,0,.retAddr 0) := rfl
theorem fd_Mo_come_148 : am_fd mt_Mo_come.1 148 = (.aload_n 0,1,0,0,0,0,.retAddr 0) := rfl
theorem fd_Mo_come_149 : am_fd mt_Mo_come.1 149 = (.getfield 18,3,13,2,12,12,.retAddr 0) := rfl
theorem fd_Mo_come_152 : am_fd mt_Mo_come.1 152 = (.iload 7,2,7,0,0,0,.retAddr 0) := rfl
theorem fd_Mo_come_154 : am_fd mt_Mo_come.1 154 = (.aload_n 0,1,0,0,0,0,.retAddr 0) := rfl
theorem fd_Mo_come_155 : am_fd mt_Mo_come.1 155 = (.getfield 18,3,13,2,12,12,.retAddr 0) := rfl
theorem fd_Mo_come_158 : am_fd mt_Mo_come.1 158 = (.iload 7,2,7,0,0,0,.retAddr 0) := rfl
theorem fd_Mo_come_160 : am_fd mt_Mo_come.1 160 = (.iconst 1,1,0,0,0,0,.int 1) := rfl
theorem fd_Mo_come_161 : am_fd mt_Mo_come.1 161 = (.isub,1,0,0,0,0,.retAddr 0) := rfl
theorem fd_Mo_come_162 : am_fd mt_Mo_come.1 162 = (.iaload,1,0,0,0,0,.retAddr 0) := rfl
theorem fd_Mo_come_163 : am_fd mt_Mo_come.1 163 = (.iastore,1,0,0,0,0,.retAddr 0) := rfl
theorem fd_Mo_come_164 : am_fd mt_Mo_come.1 164 = (.aload_n 0,1,0,0,0,0,.retAddr 0) := rfl
theorem fd_Mo_come_165 : am_fd mt_Mo_come.1 165 = (.getfield 22,3,14,2,12,12,.retAddr 0) := rfl
theorem fd_Mo_come_168 : am_fd mt_Mo_come.1 168 = (.iload 7,2,7,0,0,0,.retAddr 0) := rfl
theorem fd_Mo_come_170 : am_fd mt_Mo_come.1 170 = (.aload_n 0,1,0,0,0,0,.retAddr 0) := rfl
theorem fd_Mo_come_171 : am_fd mt_Mo_come.1 171 = (.getfield 22,3,14,2,12,12,.retAddr 0) := rfl
theorem fd_Mo_come_174 : am_fd mt_Mo_come.1 174 = (.iload 7,2,7,0,0,0,.retAddr 0) := rfl
theorem fd_Mo_come_176 : am_fd mt_Mo_come.1 176 = (.iconst 1,1,0,0,0,0,.int 1) := rfl
theorem fd_Mo_come_177 : am_fd mt_Mo_come.1 177 = (.isub,1,0,0,0,0,.retAddr 0) := rfl
theorem fd_Mo_come_178 : am_fd mt_Mo_come.1 178 = (.laload,1,0,0,0,0,.retAddr 0) := rfl
theorem fd_Mo_come_179 : am_fd mt_Mo_come.1 179 = (.lastore,1,0,0,0,0,.retAddr 0) := rfl
theorem fd_Mo_come_180 : am_fd mt_Mo_come.1 180 = (.iinc 7 (-1),3,7,0,0,0,.int (-1)) := rfl
theorem fd_Mo_come_183 : am_fd mt_Mo_come.1 183 = (.goto (-58),3,125,0,0,0,.retAddr 0) := rfl
theorem fd_Mo_come_186 : am_fd mt_Mo_come.1 186 = (.aload_n 0,1,0,0,0,0,.retAddr 0) := rfl
theorem fd_Mo_come_187 : am_fd mt_Mo_come.1 187 = (.getfield 14,3,12,2,12,12,.retAddr 0) := rfl
theorem fd_Mo_come_190 : am_fd mt_Mo_come.1 190 = (.iload 6,2,6,0,0,0,.retAddr 0) := rfl
theorem fd_Mo_come_192 : am_fd mt_Mo_come.1 192 = (.lload_n 1,1,1,0,0,0,.retAddr 0) := rfl
theorem fd_Mo_come_193 : am_fd mt_Mo_come.1 193 = (.lastore,1,0,0,0,0,.retAddr 0) := rfl
theorem fd_Mo_come_194 : am_fd mt_Mo_come.1 194 = (.aload_n 0,1,0,0,0,0,.retAddr 0) := rfl
theorem fd_Mo_come_195 : am_fd mt_Mo_come.1 195 = (.getfield 18,3,13,2,12,12,.retAddr 0) := rfl
theorem fd_Mo_come_198 : am_fd mt_Mo_come.1 198 = (.iload 6,2,6,0,0,0,.retAddr 0) := rfl
theorem fd_Mo_come_200 : am_fd mt_Mo_come.1 200 = (.iload_n 3,1,3,0,0,0,.retAddr 0) := rfl
theorem fd_Mo_come_201 : am_fd mt_Mo_come.1 201 = (.iastore,1,0,0,0,0,.retAddr 0) := rfl
theorem fd_Mo_come_202 : am_fd mt_Mo_come.1 202 = (.aload_n 0,1,0,0,0,0,.retAddr 0) := rfl
theorem fd_Mo_come_203 : am_fd mt_Mo_come.1 203 = (.getfield 22,3,14,2,12,12,.retAddr 0) := rfl
theorem fd_Mo_come_206 : am_fd mt_Mo_come.1 206 = (.iload 6,2,6,0,0,0,.retAddr 0) := rfl
theorem fd_Mo_come_208 : am_fd mt_Mo_come.1 208 = (.iload_n 3,1,3,0,0,0,.retAddr 0) := rfl
theorem fd_Mo_come_209 : am_fd mt_Mo_come.1 209 = (.iconst 2,1,0,0,0,0,.int 2) := rfl
theorem fd_Mo_come_210 : am_fd mt_Mo_come.1 210 = (.if_icmp .ne 7,3,217,0,0,0,.retAddr 0) := rfl
theorem fd_Mo_come_213 : am_fd mt_Mo_come.1 213 = (.lconst 0,1,0,0,0,0,.long 0) := rfl
theorem fd_Mo_come_214 : am_fd mt_Mo_come.1 214 = (.goto 5,3,219,0,0,0,.retAddr 0) := rfl
theorem fd_Mo_come_217 : am_fd mt_Mo_come.1 217 = (.lload 4,2,4,0,0,0,.retAddr 0) := rfl
theorem fd_Mo_come_219 : am_fd mt_Mo_come.1 219 = (.lastore,1,0,0,0,0,.retAddr 0) := rfl
theorem fd_Mo_come_220 : am_fd mt_Mo_come.1 220 = (.aload_n 0,1,0,0,0,0,.retAddr 0) := rfl
theorem fd_Mo_come_221 : am_fd mt_Mo_come.1 221 = (.dup,1,0,0,0,0,.retAddr 0) := rfl
theorem fd_Mo_come_222 : am_fd mt_Mo_come.1 222 = (.getfield 165,3,11,0,12,12,.retAddr 0) := rfl
theorem fd_Mo_come_225 : am_fd mt_Mo_come.1 225 = (.iconst 1,1,0,0,0,0,.int 1) := rfl
theorem fd_Mo_come_226 : am_fd mt_Mo_come.1 226 = (.iadd,1,0,0,0,0,.retAddr 0) := rfl
theorem fd_Mo_come_227 : am_fd mt_Mo_come.1 227 = (.putfield 165,3,11,0,12,12,.retAddr 0) := rfl
theorem fd_Mo_come_230 : am_fd mt_Mo_come.1 230 = (.return_,1,0,0,0,0,.retAddr 0) := rfl
theorem fd_Mo_remove_0 : am_fd mt_Mo_remove.1 0 = (.aload_n 0,1,0,0,0,0,.retAddr 0) := rfl
theorem fd_Mo_remove_1 : am_fd mt_Mo_remove.1 1 = (.lload_n 1,1,1,0,0,0,.retAddr 0) := rfl
theorem fd_Mo_remove_2 : am_fd mt_Mo_remove.1 2 = (.iconst 2,1,0,0,0,0,.int 2) := rfl
theorem fd_Mo_remove_3 : am_fd mt_Mo_remove.1 3 = (.lconst 0,1,0,0,0,0,.long 0) := rfl
theorem fd_Mo_remove_4 : am_fd mt_Mo_remove.1 4 = (.invokevirtual 251,3,140,4,12,0,.retAddr 0) := rfl
theorem fd_Mo_remove_7 : am_fd mt_Mo_remove.1 7 = (.ireturn,1,0,0,0,0,.retAddr 0) := rfl
theorem fd_Mo_fold_0 : am_fd mt_Mo_fold.1 0 = (.aload_n 0,1,0,0,0,0,.retAddr 0) := rfl
theorem fd_Mo_fold_1 : am_fd mt_Mo_fold.1 1 = (.lload_n 1,1,1,0,0,0,.retAddr 0) := rfl
theorem fd_Mo_fold_2 : am_fd mt_Mo_fold.1 2 = (.iconst 3,1,0,0,0,0,.int 3) := rfl
theorem fd_Mo_fold_3 : am_fd mt_Mo_fold.1 3 = (.lload_n 3,1,3,0,0,0,.retAddr 0) := rfl
theorem fd_Mo_fold_4 : am_fd mt_Mo_fold.1 4 = (.invokevirtual 251,3,140,4,12,0,.retAddr 0) := rfl
theorem fd_Mo_fold_7 : am_fd mt_Mo_fold.1 7 = (.ireturn,1,0,0,0,0,.retAddr 0) := rfl
theorem fd_Mo_many_0 : am_fd mt_Mo_many.1 0 = (.aload_n 0,1,0,0,0,0,.retAddr 0) := rfl
theorem fd_Mo_many_1 : am_fd mt_Mo_many.1 1 = (.aload_n 0,1,0,0,0,0,.retAddr 0) := rfl
theorem fd_Mo_many_2 : am_fd mt_Mo_many.1 2 = (.getfield 161,3,3,0,12,12,.retAddr 0) := rfl
theorem fd_Mo_many_5 : am_fd mt_Mo_many.1 5 = (.ifCond .eq 7,3,12,0,0,0,.retAddr 0) := rfl
theorem fd_Mo_many_8 : am_fd mt_Mo_many.1 8 = (.iconst 1,1,0,0,0,0,.int 1) := rfl
theorem fd_Mo_many_9 : am_fd mt_Mo_many.1 9 = (.goto 30,3,39,0,0,0,.retAddr 0) := rfl
theorem fd_Mo_many_12 : am_fd mt_Mo_many.1 12 = (.iload_n 1,1,1,0,0,0,.retAddr 0) := rfl
theorem fd_Mo_many_13 : am_fd mt_Mo_many.1 13 = (.iconst 1,1,0,0,0,0,.int 1) := rfl
theorem fd_Mo_many_14 : am_fd mt_Mo_many.1 14 = (.if_icmp .lt 20,3,34,0,0,0,.retAddr 0) := rfl
theorem fd_Mo_many_17 : am_fd mt_Mo_many.1 17 = (.iload_n 1,1,1,0,0,0,.retAddr 0) := rfl
theorem fd_Mo_many_18 : am_fd mt_Mo_many.1 18 = (.iconst 3,1,0,0,0,0,.int 3) := rfl
theorem fd_Mo_many_19 : am_fd mt_Mo_many.1 19 = (.if_icmp .gt 15,3,34,0,0,0,.retAddr 0) := rfl
theorem fd_Mo_many_22 : am_fd mt_Mo_many.1 22 = (.iload_n 2,1,2,0,0,0,.retAddr 0) := rfl
theorem fd_Mo_many_23 : am_fd mt_Mo_many.1 23 = (.iconst 1,1,0,0,0,0,.int 1) := rfl
theorem fd_Mo_many_24 : am_fd mt_Mo_many.1 24 = (.if_icmp .lt 10,3,34,0,0,0,.retAddr 0) := rfl
theorem fd_Mo_many_27 : am_fd mt_Mo_many.1 27 = (.iload_n 2,1,2,0,0,0,.retAddr 0) := rfl
theorem fd_Mo_many_28 : am_fd mt_Mo_many.1 28 = (.sipush 1000,3,0,0,0,0,.int 1000) := rfl
theorem fd_Mo_many_31 : am_fd mt_Mo_many.1 31 = (.if_icmp .le 7,3,38,0,0,0,.retAddr 0) := rfl
theorem fd_Mo_many_34 : am_fd mt_Mo_many.1 34 = (.iconst 2,1,0,0,0,0,.int 2) := rfl
theorem fd_Mo_many_35 : am_fd mt_Mo_many.1 35 = (.goto 4,3,39,0,0,0,.retAddr 0) := rfl
theorem fd_Mo_many_38 : am_fd mt_Mo_many.1 38 = (.iconst 0,1,0,0,0,0,.int 0) := rfl
theorem fd_Mo_many_39 : am_fd mt_Mo_many.1 39 = (.putfield 141,3,0,0,12,12,.retAddr 0) := rfl
theorem fd_Mo_many_42 : am_fd mt_Mo_many.1 42 = (.aload_n 0,1,0,0,0,0,.retAddr 0) := rfl
theorem fd_Mo_many_43 : am_fd mt_Mo_many.1 43 = (.getfield 141,3,0,0,12,12,.retAddr 0) := rfl
theorem fd_Mo_many_46 : am_fd mt_Mo_many.1 46 = (.ifCond .eq 5,3,51,0,0,0,.retAddr 0) := rfl
theorem fd_Mo_many_49 : am_fd mt_Mo_many.1 49 = (.iconst 0,1,0,0,0,0,.int 0) := rfl
theorem fd_Mo_many_50 : am_fd mt_Mo_many.1 50 = (.ireturn,1,0,0,0,0,.retAddr 0) := rfl
theorem fd_Mo_many_51 : am_fd mt_Mo_many.1 51 = (.lload_n 3,1,3,0,0,0,.retAddr 0) := rfl
theorem fd_Mo_many_52 : am_fd mt_Mo_many.1 52 = (.lstore 7,2,7,0,0,0,.retAddr 0) := rfl
theorem fd_Mo_many_54 : am_fd mt_Mo_many.1 54 = (.iconst 0,1,0,0,0,0,.int 0) := rfl
theorem fd_Mo_many_55 : am_fd mt_Mo_many.1 55 = (.istore 9,2,9,0,0,0,.retAddr 0) := rfl
theorem fd_Mo_many_57 : am_fd mt_Mo_many.1 57 = (.iload 9,2,9,0,0,0,.retAddr 0) := rfl
theorem fd_Mo_many_59 : am_fd mt_Mo_many.1 59 = (.iload_n 2,1,2,0,0,0,.retAddr 0) := rfl
theorem fd_Mo_many_60 : am_fd mt_Mo_many.1 60 = (.if_icmp .ge 82,3,142,0,0,0,.retAddr 0) := rfl
theorem fd_Mo_many_63 : am_fd mt_Mo_many.1 63 = (.aload_n 0,1,0,0,0,0,.retAddr 0) := rfl
theorem fd_Mo_many_64 : am_fd mt_Mo_many.1 64 = (.lload 7,2,7,0,0,0,.retAddr 0) := rfl
theorem fd_Mo_many_66 : am_fd mt_Mo_many.1 66 = (.invokevirtual 243,3,141,2,12,0,.retAddr 0) := rfl
theorem fd_Mo_many_69 : am_fd mt_Mo_many.1 69 = (.ifCond .ne 50,3,119,0,0,0,.retAddr 0) := rfl
theorem fd_Mo_many_72 : am_fd mt_Mo_many.1 72 = (.aload_n 0,1,0,0,0,0,.retAddr 0) := rfl
theorem fd_Mo_many_73 : am_fd mt_Mo_many.1 73 = (.invokevirtual 255,3,147,1,12,0,.retAddr 0) := rfl
theorem fd_Mo_many_76 : am_fd mt_Mo_many.1 76 = (.bipush 6,2,0,0,0,0,.int 6) := rfl
theorem fd_Mo_many_78 : am_fd mt_Mo_many.1 78 = (.if_icmp .ne 9,3,87,0,0,0,.retAddr 0) := rfl
theorem fd_Mo_many_81 : am_fd mt_Mo_many.1 81 = (.aload_n 0,1,0,0,0,0,.retAddr 0) := rfl
theorem fd_Mo_many_82 : am_fd mt_Mo_many.1 82 = (.invokevirtual 258,3,148,1,12,0,.retAddr 0) := rfl
theorem fd_Mo_many_85 : am_fd mt_Mo_many.1 85 = (.istore 10,2,10,0,0,0,.retAddr 0) := rfl
theorem fd_Mo_many_87 : am_fd mt_Mo_many.1 87 = (.aload_n 0,1,0,0,0,0,.retAddr 0) := rfl
theorem fd_Mo_many_88 : am_fd mt_Mo_many.1 88 = (.getfield 161,3,3,0,12,12,.retAddr 0) := rfl
theorem fd_Mo_many_91 : am_fd mt_Mo_many.1 91 = (.ifCond .ne 9,3,100,0,0,0,.retAddr 0) := rfl
theorem fd_Mo_many_94 : am_fd mt_Mo_many.1 94 = (.aload_n 0,1,0,0,0,0,.retAddr 0) := rfl
theorem fd_Mo_many_95 : am_fd mt_Mo_many.1 95 = (.invokevirtual 261,3,168,1,12,0,.retAddr 0) := rfl
theorem fd_Mo_many_98 : am_fd mt_Mo_many.1 98 = (.istore 10,2,10,0,0,0,.retAddr 0) := rfl
theorem fd_Mo_many_100 : am_fd mt_Mo_many.1 100 = (.aload_n 0,1,0,0,0,0,.retAddr 0) := rfl
theorem fd_Mo_many_101 : am_fd mt_Mo_many.1 101 = (.getfield 161,3,3,0,12,12,.retAddr 0) := rfl
theorem fd_Mo_many_104 : am_fd mt_Mo_many.1 104 = (.ifCond .ne 12,3,116,0,0,0,.retAddr 0) := rfl
theorem fd_Mo_many_107 : am_fd mt_Mo_many.1 107 = (.aload_n 0,1,0,0,0,0,.retAddr 0) := rfl
theorem fd_Mo_many_108 : am_fd mt_Mo_many.1 108 = (.lload 7,2,7,0,0,0,.retAddr 0) := rfl
theorem fd_Mo_many_110 : am_fd mt_Mo_many.1 110 = (.invokevirtual 243,3,141,2,12,0,.retAddr 0) := rfl
theorem fd_Mo_many_113 : am_fd mt_Mo_many.1 113 = (.ifCond .ne 6,3,119,0,0,0,.retAddr 0) := rfl
theorem fd_Mo_many_116 : am_fd mt_Mo_many.1 116 = (.iload 9,2,9,0,0,0,.retAddr 0) := rfl
theorem fd_Mo_many_118 : am_fd mt_Mo_many.1 118 = (.ireturn,1,0,0,0,0,.retAddr 0) := rfl
theorem fd_Mo_many_119 : am_fd mt_Mo_many.1 119 = (.aload_n 0,1,0,0,0,0,.retAddr 0) := rfl
theorem fd_Mo_many_120 : am_fd mt_Mo_many.1 120 = (.lload 7,2,7,0,0,0,.retAddr 0) := rfl
theorem fd_Mo_many_122 : am_fd mt_Mo_many.1 122 = (.iload_n 1,1,1,0,0,0,.retAddr 0) := rfl
theorem fd_Mo_many_123 : am_fd mt_Mo_many.1 123 = (.iload 9,2,9,0,0,0,.retAddr 0) := rfl
theorem fd_Mo_many_125 : am_fd mt_Mo_many.1 125 = (.i2l,1,0,0,0,0,.retAddr 0) := rfl
theorem fd_Mo_many_126 : am_fd mt_Mo_many.1 126 = (.invokevirtual 247,3,143,4,12,0,.retAddr 0) := rfl
theorem fd_Mo_many_129 : am_fd mt_Mo_many.1 129 = (.lload 7,2,7,0,0,0,.retAddr 0) := rfl
theorem fd_Mo_many_131 : am_fd mt_Mo_many.1 131 = (.lload 5,2,5,0,0,0,.retAddr 0) := rfl
theorem fd_Mo_many_133 : am_fd mt_Mo_many.1 133 = (.ladd,1,0,0,0,0,.retAddr 0) := rfl
theorem fd_Mo_many_134 : am_fd mt_Mo_many.1 134 = (.lstore 7,2,7,0,0,0,.retAddr 0) := rfl
theorem fd_Mo_many_136 : am_fd mt_Mo_many.1 136 = (.iinc 9 1,3,9,0,0,0,.int 1) := rfl
theorem fd_Mo_many_139 : am_fd mt_Mo_many.1 139 = (.goto (-82),3,57,0,0,0,.retAddr 0) := rfl
theorem fd_Mo_many_142 : am_fd mt_Mo_many.1 142 = (.iload_n 2,1,2,0,0,0,.retAddr 0) := rfl
theorem fd_Mo_many_143 : am_fd mt_Mo_many.1 143 = (.ireturn,1,0,0,0,0,.retAddr 0) := rfl
theorem fd_Mo_atLevelNought_0 : am_fd mt_Mo_atLevelNought.1 0 = (.iconst 0,1,0,0,0,0,.int 0) := rfl
theorem fd_Mo_atLevelNought_1 : am_fd mt_Mo_atLevelNought.1 1 = (.istore_n 1,1,1,0,0,0,.retAddr 0) := rfl
theorem fd_Mo_atLevelNought_2 : am_fd mt_Mo_atLevelNought.1 2 = (.iload_n 1,1,1,0,0,0,.retAddr 0) := rfl
theorem fd_Mo_atLevelNought_3 : am_fd mt_Mo_atLevelNought.1 3 = (.aload_n 0,1,0,0,0,0,.retAddr 0) := rfl
theorem fd_Mo_atLevelNought_4 : am_fd mt_Mo_atLevelNought.1 4 = (.getfield 168,3,24,0,12,12,.retAddr 0) := rfl
theorem fd_Mo_atLevelNought_7 : am_fd mt_Mo_atLevelNought.1 7 = (.if_icmp .ge 23,3,30,0,0,0,.retAddr 0) := rfl
theorem fd_Mo_atLevelNought_10 : am_fd mt_Mo_atLevelNought.1 10 = (.aload_n 0,1,0,0,0,0,.retAddr 0) := rfl
theorem fd_Mo_atLevelNought_11 : am_fd mt_Mo_atLevelNought.1 11 = (.getfield 31,3,17,2,12,12,.retAddr 0) := rfl
theorem fd_Mo_atLevelNought_14 : am_fd mt_Mo_atLevelNought.1 14 = (.aload_n 0,1,0,0,0,0,.retAddr 0) := rfl
theorem fd_Mo_atLevelNought_15 : am_fd mt_Mo_atLevelNought.1 15 = (.getfield 53,3,25,2,12,12,.retAddr 0) := rfl
theorem fd_Mo_atLevelNought_18 : am_fd mt_Mo_atLevelNought.1 18 = (.iload_n 1,1,1,0,0,0,.retAddr 0) := rfl
theorem fd_Mo_atLevelNought_19 : am_fd mt_Mo_atLevelNought.1 19 = (.iaload,1,0,0,0,0,.retAddr 0) := rfl
theorem fd_Mo_atLevelNought_20 : am_fd mt_Mo_atLevelNought.1 20 = (.iaload,1,0,0,0,0,.retAddr 0) := rfl
theorem fd_Mo_atLevelNought_21 : am_fd mt_Mo_atLevelNought.1 21 = (.ifCond .ne 9,3,30,0,0,0,.retAddr 0) := rfl
theorem fd_Mo_atLevelNought_24 : am_fd mt_Mo_atLevelNought.1 24 = (.iinc 1 1,3,1,0,0,0,.int 1) := rfl
theorem fd_Mo_atLevelNought_27 : am_fd mt_Mo_atLevelNought.1 27 = (.goto (-25),3,2,0,0,0,.retAddr 0) := rfl
theorem fd_Mo_atLevelNought_30 : am_fd mt_Mo_atLevelNought.1 30 = (.iload_n 1,1,1,0,0,0,.retAddr 0) := rfl
theorem fd_Mo_atLevelNought_31 : am_fd mt_Mo_atLevelNought.1 31 = (.ireturn,1,0,0,0,0,.retAddr 0) := rfl
theorem fd_Mo_mergeNow_0 : am_fd mt_Mo_mergeNow.1 0 = (.aload_n 0,1,0,0,0,0,.retAddr 0) := rfl
theorem fd_Mo_mergeNow_1 : am_fd mt_Mo_mergeNow.1 1 = (.invokevirtual 255,3,147,1,12,0,.retAddr 0) := rfl
theorem fd_Mo_mergeNow_4 : am_fd mt_Mo_mergeNow.1 4 = (.ifCond .ne 7,3,11,0,0,0,.retAddr 0) := rfl
theorem fd_Mo_mergeNow_7 : am_fd mt_Mo_mergeNow.1 7 = (.ldc_w 287,3,0,0,0,0,.int (-1000000)) := rfl
theorem fd_Mo_mergeNow_10 : am_fd mt_Mo_mergeNow.1 10 = (.ireturn,1,0,0,0,0,.retAddr 0) := rfl
theorem fd_Mo_mergeNow_11 : am_fd mt_Mo_mergeNow.1 11 = (.aload_n 0,1,0,0,0,0,.retAddr 0) := rfl
theorem fd_Mo_mergeNow_12 : am_fd mt_Mo_mergeNow.1 12 = (.iconst 0,1,0,0,0,0,.int 0) := rfl
theorem fd_Mo_mergeNow_13 : am_fd mt_Mo_mergeNow.1 13 = (.putfield 197,3,31,0,12,12,.retAddr 0) := rfl
theorem fd_Mo_mergeNow_16 : am_fd mt_Mo_mergeNow.1 16 = (.iconst 0,1,0,0,0,0,.int 0) := rfl
theorem fd_Mo_mergeNow_17 : am_fd mt_Mo_mergeNow.1 17 = (.istore_n 1,1,1,0,0,0,.retAddr 0) := rfl
theorem fd_Mo_mergeNow_18 : am_fd mt_Mo_mergeNow.1 18 = (.iconst 1,1,0,0,0,0,.int 1) := rfl
theorem fd_Mo_mergeNow_19 : am_fd mt_Mo_mergeNow.1 19 = (.istore_n 2,1,2,0,0,0,.retAddr 0) := rfl
theorem fd_Mo_mergeNow_20 : am_fd mt_Mo_mergeNow.1 20 = (.iconst 0,1,0,0,0,0,.int 0) := rfl
theorem fd_Mo_mergeNow_21 : am_fd mt_Mo_mergeNow.1 21 = (.istore_n 3,1,3,0,0,0,.retAddr 0) := rfl
theorem fd_Mo_mergeNow_22 : am_fd mt_Mo_mergeNow.1 22 = (.iload_n 3,1,3,0,0,0,.retAddr 0) := rfl
theorem fd_Mo_mergeNow_23 : am_fd mt_Mo_mergeNow.1 23 = (.ifCond .ne 177,3,200,0,0,0,.retAddr 0) := rfl
theorem fd_Mo_mergeNow_26 : am_fd mt_Mo_mergeNow.1 26 = (.iload_n 1,1,1,0,0,0,.retAddr 0) := rfl
theorem fd_Mo_mergeNow_27 : am_fd mt_Mo_mergeNow.1 27 = (.aload_n 0,1,0,0,0,0,.retAddr 0) := rfl
theorem fd_Mo_mergeNow_28 : am_fd mt_Mo_mergeNow.1 28 = (.getfield 168,3,24,0,12,12,.retAddr 0) := rfl
theorem fd_Mo_mergeNow_31 : am_fd mt_Mo_mergeNow.1 31 = (.if_icmp .ge 42,3,73,0,0,0,.retAddr 0) := rfl
theorem fd_Mo_mergeNow_34 : am_fd mt_Mo_mergeNow.1 34 = (.aload_n 0,1,0,0,0,0,.retAddr 0) := rfl
theorem fd_Mo_mergeNow_35 : am_fd mt_Mo_mergeNow.1 35 = (.getfield 31,3,17,2,12,12,.retAddr 0) := rfl
theorem fd_Mo_mergeNow_38 : am_fd mt_Mo_mergeNow.1 38 = (.aload_n 0,1,0,0,0,0,.retAddr 0) := rfl
theorem fd_Mo_mergeNow_39 : am_fd mt_Mo_mergeNow.1 39 = (.getfield 53,3,25,2,12,12,.retAddr 0) := rfl
theorem fd_Mo_mergeNow_42 : am_fd mt_Mo_mergeNow.1 42 = (.iload_n 1,1,1,0,0,0,.retAddr 0) := rfl
theorem fd_Mo_mergeNow_43 : am_fd mt_Mo_mergeNow.1 43 = (.iaload,1,0,0,0,0,.retAddr 0) := rfl
theorem fd_Mo_mergeNow_44 : am_fd mt_Mo_mergeNow.1 44 = (.iaload,1,0,0,0,0,.retAddr 0) := rfl
theorem fd_Mo_mergeNow_45 : am_fd mt_Mo_mergeNow.1 45 = (.iload_n 2,1,2,0,0,0,.retAddr 0) := rfl
theorem fd_Mo_mergeNow_46 : am_fd mt_Mo_mergeNow.1 46 = (.if_icmp .gt 27,3,73,0,0,0,.retAddr 0) := rfl
theorem fd_Mo_mergeNow_49 : am_fd mt_Mo_mergeNow.1 49 = (.aload_n 0,1,0,0,0,0,.retAddr 0) := rfl
theorem fd_Mo_mergeNow_50 : am_fd mt_Mo_mergeNow.1 50 = (.aload_n 0,1,0,0,0,0,.retAddr 0) := rfl
theorem fd_Mo_mergeNow_51 : am_fd mt_Mo_mergeNow.1 51 = (.getfield 53,3,25,2,12,12,.retAddr 0) := rfl
theorem fd_Mo_mergeNow_54 : am_fd mt_Mo_mergeNow.1 54 = (.iload_n 1,1,1,0,0,0,.retAddr 0) := rfl
theorem fd_Mo_mergeNow_55 : am_fd mt_Mo_mergeNow.1 55 = (.iaload,1,0,0,0,0,.retAddr 0) := rfl
theorem fd_Mo_mergeNow_56 : am_fd mt_Mo_mergeNow.1 56 = (.invokevirtual 288,3,149,2,12,0,.retAddr 0) := rfl
theorem fd_Mo_mergeNow_59 : am_fd mt_Mo_mergeNow.1 59 = (.iconst (-1),1,0,0,0,0,.int (-1)) := rfl
theorem fd_Mo_mergeNow_60 : am_fd mt_Mo_mergeNow.1 60 = (.if_icmp .eq 7,3,67,0,0,0,.retAddr 0) := rfl
theorem fd_Mo_mergeNow_63 : am_fd mt_Mo_mergeNow.1 63 = (.ldc_w 287,3,0,0,0,0,.int (-1000000)) := rfl
theorem fd_Mo_mergeNow_66 : am_fd mt_Mo_mergeNow.1 66 = (.ireturn,1,0,0,0,0,.retAddr 0) := rfl
theorem fd_Mo_mergeNow_67 : am_fd mt_Mo_mergeNow.1 67 = (.iinc 1 1,3,1,0,0,0,.int 1) := rfl
theorem fd_Mo_mergeNow_70 : am_fd mt_Mo_mergeNow.1 70 = (.goto (-44),3,26,0,0,0,.retAddr 0) := rfl
theorem fd_Mo_mergeNow_73 : am_fd mt_Mo_mergeNow.1 73 = (.aload_n 0,1,0,0,0,0,.retAddr 0) := rfl
theorem fd_Mo_mergeNow_74 : am_fd mt_Mo_mergeNow.1 74 = (.iload_n 1,1,1,0,0,0,.retAddr 0) := rfl
theorem fd_Mo_mergeNow_75 : am_fd mt_Mo_mergeNow.1 75 = (.aload_n 0,1,0,0,0,0,.retAddr 0) := rfl
theorem fd_Mo_mergeNow_76 : am_fd mt_Mo_mergeNow.1 76 = (.getfield 168,3,24,0,12,12,.retAddr 0) := rfl
theorem fd_Mo_mergeNow_79 : am_fd mt_Mo_mergeNow.1 79 = (.if_icmp .ne 7,3,86,0,0,0,.retAddr 0) := rfl
theorem fd_Mo_mergeNow_82 : am_fd mt_Mo_mergeNow.1 82 = (.iconst 1,1,0,0,0,0,.int 1) := rfl
theorem fd_Mo_mergeNow_83 : am_fd mt_Mo_mergeNow.1 83 = (.goto 4,3,87,0,0,0,.retAddr 0) := rfl
theorem fd_Mo_mergeNow_86 : am_fd mt_Mo_mergeNow.1 86 = (.iconst 0,1,0,0,0,0,.int 0) := rfl
theorem fd_Mo_mergeNow_87 : am_fd mt_Mo_mergeNow.1 87 = (.invokevirtual 291,3,153,2,12,0,.retAddr 0) := rfl
theorem fd_Mo_mergeNow_90 : am_fd mt_Mo_mergeNow.1 90 = (.istore 4,2,4,0,0,0,.retAddr 0) := rfl
theorem fd_Mo_mergeNow_92 : am_fd mt_Mo_mergeNow.1 92 = (.aload_n 0,1,0,0,0,0,.retAddr 0) := rfl
theorem fd_Mo_mergeNow_93 : am_fd mt_Mo_mergeNow.1 93 = (.invokevirtual 204,3,154,1,12,0,.retAddr 0) := rfl
theorem fd_Mo_mergeNow_96 : am_fd mt_Mo_mergeNow.1 96 = (.istore 5,2,5,0,0,0,.retAddr 0) := rfl
theorem fd_Mo_mergeNow_98 : am_fd mt_Mo_mergeNow.1 98 = (.iload_n 2,1,2,0,0,0,.retAddr 0) := rfl
theorem fd_Mo_mergeNow_99 : am_fd mt_Mo_mergeNow.1 99 = (.iconst 3,1,0,0,0,0,.int 3) := rfl
theorem fd_Mo_mergeNow_100 : am_fd mt_Mo_mergeNow.1 100 = (.if_icmp .eq 20,3,120,0,0,0,.retAddr 0) := rfl
theorem fd_Mo_mergeNow_103 : am_fd mt_Mo_mergeNow.1 103 = (.iload 5,2,5,0,0,0,.retAddr 0) := rfl
theorem fd_Mo_mergeNow_105 : am_fd mt_Mo_mergeNow.1 105 = (.iload_n 2,1,2,0,0,0,.retAddr 0) := rfl
theorem fd_Mo_mergeNow_106 : am_fd mt_Mo_mergeNow.1 106 = (.iconst 1,1,0,0,0,0,.int 1) := rfl
theorem fd_Mo_mergeNow_107 : am_fd mt_Mo_mergeNow.1 107 = (.if_icmp .ne 8,3,115,0,0,0,.retAddr 0) := rfl
theorem fd_Mo_mergeNow_110 : am_fd mt_Mo_mergeNow.1 110 = (.bipush 8,2,0,0,0,0,.int 8) := rfl
theorem fd_Mo_mergeNow_112 : am_fd mt_Mo_mergeNow.1 112 = (.goto 5,3,117,0,0,0,.retAddr 0) := rfl
theorem fd_Mo_mergeNow_115 : am_fd mt_Mo_mergeNow.1 115 = (.bipush 24,2,0,0,0,0,.int 24) := rfl
theorem fd_Mo_mergeNow_117 : am_fd mt_Mo_mergeNow.1 117 = (.if_icmp .gt 7,3,124,0,0,0,.retAddr 0) := rfl
theorem fd_Mo_mergeNow_120 : am_fd mt_Mo_mergeNow.1 120 = (.iconst 1,1,0,0,0,0,.int 1) := rfl
theorem fd_Mo_mergeNow_121 : am_fd mt_Mo_mergeNow.1 121 = (.goto 4,3,125,0,0,0,.retAddr 0) := rfl
theorem fd_Mo_mergeNow_124 : am_fd mt_Mo_mergeNow.1 124 = (.iconst 0,1,0,0,0,0,.int 0) := rfl
theorem fd_Mo_mergeNow_125 : am_fd mt_Mo_mergeNow.1 125 = (.istore_n 3,1,3,0,0,0,.retAddr 0) := rfl
theorem fd_Mo_mergeNow_126 : am_fd mt_Mo_mergeNow.1 126 = (.iload_n 3,1,3,0,0,0,.retAddr 0) := rfl
theorem fd_Mo_mergeNow_127 : am_fd mt_Mo_mergeNow.1 127 = (.ifCond .ne 70,3,197,0,0,0,.retAddr 0) := rfl
theorem fd_Mo_mergeNow_130 : am_fd mt_Mo_mergeNow.1 130 = (.iinc 2 1,3,2,0,0,0,.int 1) := rfl
theorem fd_Mo_mergeNow_133 : am_fd mt_Mo_mergeNow.1 133 = (.aload_n 0,1,0,0,0,0,.retAddr 0) := rfl
theorem fd_Mo_mergeNow_134 : am_fd mt_Mo_mergeNow.1 134 = (.iload 4,2,4,0,0,0,.retAddr 0) := rfl
theorem fd_Mo_mergeNow_136 : am_fd mt_Mo_mergeNow.1 136 = (.putfield 197,3,31,0,12,12,.retAddr 0) := rfl
theorem fd_Mo_mergeNow_139 : am_fd mt_Mo_mergeNow.1 139 = (.iconst 0,1,0,0,0,0,.int 0) := rfl
theorem fd_Mo_mergeNow_140 : am_fd mt_Mo_mergeNow.1 140 = (.istore 6,2,6,0,0,0,.retAddr 0) := rfl
theorem fd_Mo_mergeNow_142 : am_fd mt_Mo_mergeNow.1 142 = (.iload 6,2,6,0,0,0,.retAddr 0) := rfl
theorem fd_Mo_mergeNow_144 : am_fd mt_Mo_mergeNow.1 144 = (.iload 4,2,4,0,0,0,.retAddr 0) := rfl
theorem fd_Mo_mergeNow_146 : am_fd mt_Mo_mergeNow.1 146 = (.if_icmp .ge 51,3,197,0,0,0,.retAddr 0) := rfl
theorem fd_Mo_mergeNow_149 : am_fd mt_Mo_mergeNow.1 149 = (.aload_n 0,1,0,0,0,0,.retAddr 0) := rfl
theorem fd_Mo_mergeNow_150 : am_fd mt_Mo_mergeNow.1 150 = (.getfield 73,3,32,2,12,12,.retAddr 0) := rfl
theorem fd_Mo_mergeNow_153 : am_fd mt_Mo_mergeNow.1 153 = (.iload 6,2,6,0,0,0,.retAddr 0) := rfl
theorem fd_Mo_mergeNow_155 : am_fd mt_Mo_mergeNow.1 155 = (.aload_n 0,1,0,0,0,0,.retAddr 0) := rfl
theorem fd_Mo_mergeNow_156 : am_fd mt_Mo_mergeNow.1 156 = (.getfield 100,3,42,2,12,12,.retAddr 0) := rfl
theorem fd_Mo_mergeNow_159 : am_fd mt_Mo_mergeNow.1 159 = (.iload 6,2,6,0,0,0,.retAddr 0) := rfl
theorem fd_Mo_mergeNow_161 : am_fd mt_Mo_mergeNow.1 161 = (.laload,1,0,0,0,0,.retAddr 0) := rfl
theorem fd_Mo_mergeNow_162 : am_fd mt_Mo_mergeNow.1 162 = (.lastore,1,0,0,0,0,.retAddr 0) := rfl
theorem fd_Mo_mergeNow_163 : am_fd mt_Mo_mergeNow.1 163 = (.aload_n 0,1,0,0,0,0,.retAddr 0) := rfl
theorem fd_Mo_mergeNow_164 : am_fd mt_Mo_mergeNow.1 164 = (.getfield 76,3,33,2,12,12,.retAddr 0) := rfl
theorem fd_Mo_mergeNow_167 : am_fd mt_Mo_mergeNow.1 167 = (.iload 6,2,6,0,0,0,.retAddr 0) := rfl
theorem fd_Mo_mergeNow_169 : am_fd mt_Mo_mergeNow.1 169 = (.aload_n 0,1,0,0,0,0,.retAddr 0) := rfl
theorem fd_Mo_mergeNow_170 : am_fd mt_Mo_mergeNow.1 170 = (.getfield 103,3,43,2,12,12,.retAddr 0) := rfl
theorem fd_Mo_mergeNow_173 : am_fd mt_Mo_mergeNow.1 173 = (.iload 6,2,6,0,0,0,.retAddr 0) := rfl
theorem fd_Mo_mergeNow_175 : am_fd mt_Mo_mergeNow.1 175 = (.iaload,1,0,0,0,0,.retAddr 0) := rfl
theorem fd_Mo_mergeNow_176 : am_fd mt_Mo_mergeNow.1 176 = (.iastore,1,0,0,0,0,.retAddr 0) := rfl
theorem fd_Mo_mergeNow_177 : am_fd mt_Mo_mergeNow.1 177 = (.aload_n 0,1,0,0,0,0,.retAddr 0) := rfl
theorem fd_Mo_mergeNow_178 : am_fd mt_Mo_mergeNow.1 178 = (.getfield 79,3,34,2,12,12,.retAddr 0) := rfl
theorem fd_Mo_mergeNow_181 : am_fd mt_Mo_mergeNow.1 181 = (.iload 6,2,6,0,0,0,.retAddr 0) := rfl
theorem fd_Mo_mergeNow_183 : am_fd mt_Mo_mergeNow.1 183 = (.aload_n 0,1,0,0,0,0,.retAddr 0) := rfl
theorem fd_Mo_mergeNow_184 : am_fd mt_Mo_mergeNow.1 184 = (.getfield 106,3,44,2,12,12,.retAddr 0) := rfl
theorem fd_Mo_mergeNow_187 : am_fd mt_Mo_mergeNow.1 187 = (.iload 6,2,6,0,0,0,.retAddr 0) := rfl
theorem fd_Mo_mergeNow_189 : am_fd mt_Mo_mergeNow.1 189 = (.laload,1,0,0,0,0,.retAddr 0) := rfl
theorem fd_Mo_mergeNow_190 : am_fd mt_Mo_mergeNow.1 190 = (.lastore,1,0,0,0,0,.retAddr 0) := rfl
theorem fd_Mo_mergeNow_191 : am_fd mt_Mo_mergeNow.1 191 = (.iinc 6 1,3,6,0,0,0,.int 1) := rfl
theorem fd_Mo_mergeNow_194 : am_fd mt_Mo_mergeNow.1 194 = (.goto (-52),3,142,0,0,0,.retAddr 0) := rfl
theorem fd_Mo_mergeNow_197 : am_fd mt_Mo_mergeNow.1 197 = (.goto (-175),3,22,0,0,0,.retAddr 0) := rfl
theorem fd_Mo_mergeNow_200 : am_fd mt_Mo_mergeNow.1 200 = (.aload_n 0,1,0,0,0,0,.retAddr 0) := rfl
theorem fd_Mo_mergeNow_201 : am_fd mt_Mo_mergeNow.1 201 = (.invokevirtual 208,3,159,1,12,0,.retAddr 0) := rfl
theorem fd_Mo_mergeNow_204 : am_fd mt_Mo_mergeNow.1 204 = (.istore 4,2,4,0,0,0,.retAddr 0) := rfl
theorem fd_Mo_mergeNow_206 : am_fd mt_Mo_mergeNow.1 206 = (.iconst (-1),1,0,0,0,0,.int (-1)) := rfl
theorem fd_Mo_mergeNow_207 : am_fd mt_Mo_mergeNow.1 207 = (.istore 5,2,5,0,0,0,.retAddr 0) := rfl
theorem fd_Mo_mergeNow_209 : am_fd mt_Mo_mergeNow.1 209 = (.aload_n 0,1,0,0,0,0,.retAddr 0) := rfl
theorem fd_Mo_mergeNow_210 : am_fd mt_Mo_mergeNow.1 210 = (.getfield 197,3,31,0,12,12,.retAddr 0) := rfl
theorem fd_Mo_mergeNow_213 : am_fd mt_Mo_mergeNow.1 213 = (.ifCond .le 32,3,245,0,0,0,.retAddr 0) := rfl
theorem fd_Mo_mergeNow_216 : am_fd mt_Mo_mergeNow.1 216 = (.aload_n 0,1,0,0,0,0,.retAddr 0) := rfl
theorem fd_Mo_mergeNow_217 : am_fd mt_Mo_mergeNow.1 217 = (.iload_n 2,1,2,0,0,0,.retAddr 0) := rfl
theorem fd_Mo_mergeNow_218 : am_fd mt_Mo_mergeNow.1 218 = (.invokevirtual 264,3,161,2,12,0,.retAddr 0) := rfl
theorem fd_Mo_mergeNow_221 : am_fd mt_Mo_mergeNow.1 221 = (.istore 5,2,5,0,0,0,.retAddr 0) := rfl
theorem fd_Mo_mergeNow_223 : am_fd mt_Mo_mergeNow.1 223 = (.iload 5,2,5,0,0,0,.retAddr 0) := rfl
theorem fd_Mo_mergeNow_225 : am_fd mt_Mo_mergeNow.1 225 = (.ifCond .ge 20,3,245,0,0,0,.retAddr 0) := rfl
theorem fd_Mo_mergeNow_228 : am_fd mt_Mo_mergeNow.1 228 = (.iload 5,2,5,0,0,0,.retAddr 0) := rfl
theorem fd_Mo_mergeNow_230 : am_fd mt_Mo_mergeNow.1 230 = (.bipush (-2),2,0,0,0,0,.int (-2)) := rfl
theorem fd_Mo_mergeNow_232 : am_fd mt_Mo_mergeNow.1 232 = (.if_icmp .ne 9,3,241,0,0,0,.retAddr 0) := rfl
theorem fd_Mo_mergeNow_235 : am_fd mt_Mo_mergeNow.1 235 = (.ldc_w 295,3,0,0,0,0,.int (-2000000)) := rfl
theorem fd_Mo_mergeNow_238 : am_fd mt_Mo_mergeNow.1 238 = (.goto 6,3,244,0,0,0,.retAddr 0) := rfl
theorem fd_Mo_mergeNow_241 : am_fd mt_Mo_mergeNow.1 241 = (.ldc_w 287,3,0,0,0,0,.int (-1000000)) := rfl
theorem fd_Mo_mergeNow_244 : am_fd mt_Mo_mergeNow.1 244 = (.ireturn,1,0,0,0,0,.retAddr 0) := rfl
theorem fd_Mo_mergeNow_245 : am_fd mt_Mo_mergeNow.1 245 = (.iconst 0,1,0,0,0,0,.int 0) := rfl
theorem fd_Mo_mergeNow_246 : am_fd mt_Mo_mergeNow.1 246 = (.istore 6,2,6,0,0,0,.retAddr 0) := rfl
theorem fd_Mo_mergeNow_248 : am_fd mt_Mo_mergeNow.1 248 = (.iload 6,2,6,0,0,0,.retAddr 0) := rfl
theorem fd_Mo_mergeNow_250 : am_fd mt_Mo_mergeNow.1 250 = (.iload_n 1,1,1,0,0,0,.retAddr 0) := rfl
theorem fd_Mo_mergeNow_251 : am_fd mt_Mo_mergeNow.1 251 = (.if_icmp .ge 25,3,276,0,0,0,.retAddr 0) := rfl
theorem fd_Mo_mergeNow_254 : am_fd mt_Mo_mergeNow.1 254 = (.aload_n 0,1,0,0,0,0,.retAddr 0) := rfl
theorem fd_Mo_mergeNow_255 : am_fd mt_Mo_mergeNow.1 255 = (.getfield 25,3,15,2,12,12,.retAddr 0) := rfl
theorem fd_Mo_mergeNow_258 : am_fd mt_Mo_mergeNow.1 258 = (.aload_n 0,1,0,0,0,0,.retAddr 0) := rfl
theorem fd_Mo_mergeNow_259 : am_fd mt_Mo_mergeNow.1 259 = (.getfield 53,3,25,2,12,12,.retAddr 0) := rfl
theorem fd_Mo_mergeNow_262 : am_fd mt_Mo_mergeNow.1 262 = (.iload 6,2,6,0,0,0,.retAddr 0) := rfl
theorem fd_Mo_mergeNow_264 : am_fd mt_Mo_mergeNow.1 264 = (.iaload,1,0,0,0,0,.retAddr 0) := rfl
theorem fd_Mo_mergeNow_265 : am_fd mt_Mo_mergeNow.1 265 = (.dup2,1,0,0,0,0,.retAddr 0) := rfl
theorem fd_Mo_mergeNow_266 : am_fd mt_Mo_mergeNow.1 266 = (.iaload,1,0,0,0,0,.retAddr 0) := rfl
theorem fd_Mo_mergeNow_267 : am_fd mt_Mo_mergeNow.1 267 = (.iconst 1,1,0,0,0,0,.int 1) := rfl
theorem fd_Mo_mergeNow_268 : am_fd mt_Mo_mergeNow.1 268 = (.isub,1,0,0,0,0,.retAddr 0) := rfl
theorem fd_Mo_mergeNow_269 : am_fd mt_Mo_mergeNow.1 269 = (.iastore,1,0,0,0,0,.retAddr 0) := rfl
theorem fd_Mo_mergeNow_270 : am_fd mt_Mo_mergeNow.1 270 = (.iinc 6 1,3,6,0,0,0,.int 1) := rfl
theorem fd_Mo_mergeNow_273 : am_fd mt_Mo_mergeNow.1 273 = (.goto (-25),3,248,0,0,0,.retAddr 0) := rfl
theorem fd_Mo_mergeNow_276 : am_fd mt_Mo_mergeNow.1 276 = (.iload 5,2,5,0,0,0,.retAddr 0) := rfl
theorem fd_Mo_mergeNow_278 : am_fd mt_Mo_mergeNow.1 278 = (.iconst (-1),1,0,0,0,0,.int (-1)) := rfl
theorem fd_Mo_mergeNow_279 : am_fd mt_Mo_mergeNow.1 279 = (.if_icmp .ne 7,3,286,0,0,0,.retAddr 0) := rfl
theorem fd_Mo_mergeNow_282 : am_fd mt_Mo_mergeNow.1 282 = (.iconst 0,1,0,0,0,0,.int 0) := rfl
theorem fd_Mo_mergeNow_283 : am_fd mt_Mo_mergeNow.1 283 = (.goto 4,3,287,0,0,0,.retAddr 0) := rfl
theorem fd_Mo_mergeNow_286 : am_fd mt_Mo_mergeNow.1 286 = (.iconst 1,1,0,0,0,0,.int 1) := rfl
theorem fd_Mo_mergeNow_287 : am_fd mt_Mo_mergeNow.1 287 = (.istore 6,2,6,0,0,0,.retAddr 0) := rfl
theorem fd_Mo_mergeNow_289 : am_fd mt_Mo_mergeNow.1 289 = (.aload_n 0,1,0,0,0,0,.retAddr 0) := rfl
theorem fd_Mo_mergeNow_290 : am_fd mt_Mo_mergeNow.1 290 = (.getfield 168,3,24,0,12,12,.retAddr 0) := rfl
theorem fd_Mo_mergeNow_293 : am_fd mt_Mo_mergeNow.1 293 = (.iload_n 1,1,1,0,0,0,.retAddr 0) := rfl
theorem fd_Mo_mergeNow_294 : am_fd mt_Mo_mergeNow.1 294 = (.isub,1,0,0,0,0,.retAddr 0) := rfl
theorem fd_Mo_mergeNow_295 : am_fd mt_Mo_mergeNow.1 295 = (.istore 7,2,7,0,0,0,.retAddr 0) := rfl
theorem fd_Mo_mergeNow_297 : am_fd mt_Mo_mergeNow.1 297 = (.iload 6,2,6,0,0,0,.retAddr 0) := rfl
theorem fd_Mo_mergeNow_299 : am_fd mt_Mo_mergeNow.1 299 = (.ifCond .ne 38,3,337,0,0,0,.retAddr 0) := rfl
theorem fd_Mo_mergeNow_302 : am_fd mt_Mo_mergeNow.1 302 = (.iconst 0,1,0,0,0,0,.int 0) := rfl
theorem fd_Mo_mergeNow_303 : am_fd mt_Mo_mergeNow.1 303 = (.istore 8,2,8,0,0,0,.retAddr 0) := rfl
theorem fd_Mo_mergeNow_305 : am_fd mt_Mo_mergeNow.1 305 = (.iload 8,2,8,0,0,0,.retAddr 0) := rfl
theorem fd_Mo_mergeNow_307 : am_fd mt_Mo_mergeNow.1 307 = (.iload 7,2,7,0,0,0,.retAddr 0) := rfl
theorem fd_Mo_mergeNow_309 : am_fd mt_Mo_mergeNow.1 309 = (.if_icmp .ge 25,3,334,0,0,0,.retAddr 0) := rfl
theorem fd_Mo_mergeNow_312 : am_fd mt_Mo_mergeNow.1 312 = (.aload_n 0,1,0,0,0,0,.retAddr 0) := rfl
theorem fd_Mo_mergeNow_313 : am_fd mt_Mo_mergeNow.1 313 = (.getfield 53,3,25,2,12,12,.retAddr 0) := rfl
theorem fd_Mo_mergeNow_316 : am_fd mt_Mo_mergeNow.1 316 = (.iload 8,2,8,0,0,0,.retAddr 0) := rfl
theorem fd_Mo_mergeNow_318 : am_fd mt_Mo_mergeNow.1 318 = (.aload_n 0,1,0,0,0,0,.retAddr 0) := rfl
theorem fd_Mo_mergeNow_319 : am_fd mt_Mo_mergeNow.1 319 = (.getfield 53,3,25,2,12,12,.retAddr 0) := rfl
theorem fd_Mo_mergeNow_322 : am_fd mt_Mo_mergeNow.1 322 = (.iload 8,2,8,0,0,0,.retAddr 0) := rfl
theorem fd_Mo_mergeNow_324 : am_fd mt_Mo_mergeNow.1 324 = (.iload_n 1,1,1,0,0,0,.retAddr 0) := rfl
theorem fd_Mo_mergeNow_325 : am_fd mt_Mo_mergeNow.1 325 = (.iadd,1,0,0,0,0,.retAddr 0) := rfl
theorem fd_Mo_mergeNow_326 : am_fd mt_Mo_mergeNow.1 326 = (.iaload,1,0,0,0,0,.retAddr 0) := rfl
theorem fd_Mo_mergeNow_327 : am_fd mt_Mo_mergeNow.1 327 = (.iastore,1,0,0,0,0,.retAddr 0) := rfl
theorem fd_Mo_mergeNow_328 : am_fd mt_Mo_mergeNow.1 328 = (.iinc 8 1,3,8,0,0,0,.int 1) := rfl
theorem fd_Mo_mergeNow_331 : am_fd mt_Mo_mergeNow.1 331 = (.goto (-26),3,305,0,0,0,.retAddr 0) := rfl
theorem fd_Mo_mergeNow_334 : am_fd mt_Mo_mergeNow.1 334 = (.goto 63,3,397,0,0,0,.retAddr 0) := rfl
theorem fd_Mo_mergeNow_337 : am_fd mt_Mo_mergeNow.1 337 = (.iconst 0,1,0,0,0,0,.int 0) := rfl
theorem fd_Mo_mergeNow_338 : am_fd mt_Mo_mergeNow.1 338 = (.istore 8,2,8,0,0,0,.retAddr 0) := rfl
theorem fd_Mo_mergeNow_340 : am_fd mt_Mo_mergeNow.1 340 = (.iload 8,2,8,0,0,0,.retAddr 0) := rfl
theorem fd_Mo_mergeNow_342 : am_fd mt_Mo_mergeNow.1 342 = (.iload 7,2,7,0,0,0,.retAddr 0) := rfl
theorem fd_Mo_mergeNow_344 : am_fd mt_Mo_mergeNow.1 344 = (.if_icmp .ge 27,3,371,0,0,0,.retAddr 0) := rfl
theorem fd_Mo_mergeNow_347 : am_fd mt_Mo_mergeNow.1 347 = (.aload_n 0,1,0,0,0,0,.retAddr 0) := rfl
theorem fd_Mo_mergeNow_348 : am_fd mt_Mo_mergeNow.1 348 = (.getfield 53,3,25,2,12,12,.retAddr 0) := rfl
theorem fd_Mo_mergeNow_351 : am_fd mt_Mo_mergeNow.1 351 = (.iload 8,2,8,0,0,0,.retAddr 0) := rfl
theorem fd_Mo_mergeNow_353 : am_fd mt_Mo_mergeNow.1 353 = (.iconst 1,1,0,0,0,0,.int 1) := rfl
theorem fd_Mo_mergeNow_354 : am_fd mt_Mo_mergeNow.1 354 = (.iadd,1,0,0,0,0,.retAddr 0) := rfl
theorem fd_Mo_mergeNow_355 : am_fd mt_Mo_mergeNow.1 355 = (.aload_n 0,1,0,0,0,0,.retAddr 0) := rfl
theorem fd_Mo_mergeNow_356 : am_fd mt_Mo_mergeNow.1 356 = (.getfield 53,3,25,2,12,12,.retAddr 0) := rfl
theorem fd_Mo_mergeNow_359 : am_fd mt_Mo_mergeNow.1 359 = (.iload 8,2,8,0,0,0,.retAddr 0) := rfl
theorem fd_Mo_mergeNow_361 : am_fd mt_Mo_mergeNow.1 361 = (.iload_n 1,1,1,0,0,0,.retAddr 0) := rfl
theorem fd_Mo_mergeNow_362 : am_fd mt_Mo_mergeNow.1 362 = (.iadd,1,0,0,0,0,.retAddr 0) := rfl
theorem fd_Mo_mergeNow_363 : am_fd mt_Mo_mergeNow.1 363 = (.iaload,1,0,0,0,0,.retAddr 0) := rfl
theorem fd_Mo_mergeNow_364 : am_fd mt_Mo_mergeNow.1 364 = (.iastore,1,0,0,0,0,.retAddr 0) := rfl
theorem fd_Mo_mergeNow_365 : am_fd mt_Mo_mergeNow.1 365 = (.iinc 8 1,3,8,0,0,0,.int 1) := rfl
theorem fd_Mo_mergeNow_368 : am_fd mt_Mo_mergeNow.1 368 = (.goto (-28),3,340,0,0,0,.retAddr 0) := rfl
theorem fd_Mo_mergeNow_371 : am_fd mt_Mo_mergeNow.1 371 = (.aload_n 0,1,0,0,0,0,.retAddr 0) := rfl
theorem fd_Mo_mergeNow_372 : am_fd mt_Mo_mergeNow.1 372 = (.getfield 53,3,25,2,12,12,.retAddr 0) := rfl
theorem fd_Mo_mergeNow_375 : am_fd mt_Mo_mergeNow.1 375 = (.iconst 0,1,0,0,0,0,.int 0) := rfl
theorem fd_Mo_mergeNow_376 : am_fd mt_Mo_mergeNow.1 376 = (.iload 5,2,5,0,0,0,.retAddr 0) := rfl
theorem fd_Mo_mergeNow_378 : am_fd mt_Mo_mergeNow.1 378 = (.iastore,1,0,0,0,0,.retAddr 0) := rfl
theorem fd_Mo_mergeNow_379 : am_fd mt_Mo_mergeNow.1 379 = (.aload_n 0,1,0,0,0,0,.retAddr 0) := rfl
theorem fd_Mo_mergeNow_380 : am_fd mt_Mo_mergeNow.1 380 = (.getfield 25,3,15,2,12,12,.retAddr 0) := rfl
theorem fd_Mo_mergeNow_383 : am_fd mt_Mo_mergeNow.1 383 = (.iload 5,2,5,0,0,0,.retAddr 0) := rfl
theorem fd_Mo_mergeNow_385 : am_fd mt_Mo_mergeNow.1 385 = (.iconst 1,1,0,0,0,0,.int 1) := rfl
theorem fd_Mo_mergeNow_386 : am_fd mt_Mo_mergeNow.1 386 = (.iastore,1,0,0,0,0,.retAddr 0) := rfl
theorem fd_Mo_mergeNow_387 : am_fd mt_Mo_mergeNow.1 387 = (.aload_n 0,1,0,0,0,0,.retAddr 0) := rfl
theorem fd_Mo_mergeNow_388 : am_fd mt_Mo_mergeNow.1 388 = (.dup,1,0,0,0,0,.retAddr 0) := rfl
theorem fd_Mo_mergeNow_389 : am_fd mt_Mo_mergeNow.1 389 = (.getfield 128,3,5,0,12,12,.retAddr 0) := rfl
theorem fd_Mo_mergeNow_392 : am_fd mt_Mo_mergeNow.1 392 = (.iconst 1,1,0,0,0,0,.int 1) := rfl
theorem fd_Mo_mergeNow_393 : am_fd mt_Mo_mergeNow.1 393 = (.iadd,1,0,0,0,0,.retAddr 0) := rfl
theorem fd_Mo_mergeNow_394 : am_fd mt_Mo_mergeNow.1 394 = (.putfield 128,3,5,0,12,12,.retAddr 0) := rfl
theorem fd_Mo_mergeNow_397 : am_fd mt_Mo_mergeNow.1 397 = (.aload_n 0,1,0,0,0,0,.retAddr 0) := rfl
theorem fd_Mo_mergeNow_398 : am_fd mt_Mo_mergeNow.1 398 = (.iload 7,2,7,0,0,0,.retAddr 0) := rfl
theorem fd_Mo_mergeNow_400 : am_fd mt_Mo_mergeNow.1 400 = (.iload 6,2,6,0,0,0,.retAddr 0) := rfl
theorem fd_Mo_mergeNow_402 : am_fd mt_Mo_mergeNow.1 402 = (.iadd,1,0,0,0,0,.retAddr 0) := rfl
theorem fd_Mo_mergeNow_403 : am_fd mt_Mo_mergeNow.1 403 = (.putfield 168,3,24,0,12,12,.retAddr 0) := rfl
theorem fd_Mo_mergeNow_406 : am_fd mt_Mo_mergeNow.1 406 = (.aload_n 0,1,0,0,0,0,.retAddr 0) := rfl
theorem fd_Mo_mergeNow_407 : am_fd mt_Mo_mergeNow.1 407 = (.getfield 125,3,4,0,12,12,.retAddr 0) := rfl
theorem fd_Mo_mergeNow_410 : am_fd mt_Mo_mergeNow.1 410 = (.istore 8,2,8,0,0,0,.retAddr 0) := rfl
theorem fd_Mo_mergeNow_412 : am_fd mt_Mo_mergeNow.1 412 = (.aload_n 0,1,0,0,0,0,.retAddr 0) := rfl
theorem fd_Mo_mergeNow_413 : am_fd mt_Mo_mergeNow.1 413 = (.invokevirtual 268,3,167,1,12,0,.retAddr 0) := rfl
theorem fd_Mo_mergeNow_416 : am_fd mt_Mo_mergeNow.1 416 = (.ifCond .ne 13,3,429,0,0,0,.retAddr 0) := rfl
theorem fd_Mo_mergeNow_419 : am_fd mt_Mo_mergeNow.1 419 = (.aload_n 0,1,0,0,0,0,.retAddr 0) := rfl
theorem fd_Mo_mergeNow_420 : am_fd mt_Mo_mergeNow.1 420 = (.iload 8,2,8,0,0,0,.retAddr 0) := rfl
theorem fd_Mo_mergeNow_422 : am_fd mt_Mo_mergeNow.1 422 = (.putfield 125,3,4,0,12,12,.retAddr 0) := rfl
theorem fd_Mo_mergeNow_425 : am_fd mt_Mo_mergeNow.1 425 = (.ldc_w 295,3,0,0,0,0,.int (-2000000)) := rfl
theorem fd_Mo_mergeNow_428 : am_fd mt_Mo_mergeNow.1 428 = (.ireturn,1,0,0,0,0,.retAddr 0) := rfl
theorem fd_Mo_mergeNow_429 : am_fd mt_Mo_mergeNow.1 429 = (.aload_n 0,1,0,0,0,0,.retAddr 0) := rfl
theorem fd_Mo_mergeNow_430 : am_fd mt_Mo_mergeNow.1 430 = (.invokevirtual 208,3,159,1,12,0,.retAddr 0) := rfl
theorem fd_Mo_mergeNow_433 : am_fd mt_Mo_mergeNow.1 433 = (.iload 4,2,4,0,0,0,.retAddr 0) := rfl
theorem fd_Mo_mergeNow_435 : am_fd mt_Mo_mergeNow.1 435 = (.isub,1,0,0,0,0,.retAddr 0) := rfl
theorem fd_Mo_mergeNow_436 : am_fd mt_Mo_mergeNow.1 436 = (.ireturn,1,0,0,0,0,.retAddr 0) := rfl
theorem fd_Mo_below_0 : am_fd mt_Mo_below.1 0 = (.aload_n 0,1,0,0,0,0,.retAddr 0) := rfl
theorem fd_Mo_below_1 : am_fd mt_Mo_below.1 1 = (.getfield 197,3,31,0,12,12,.retAddr 0) := rfl
theorem fd_Mo_below_4 : am_fd mt_Mo_below.1 4 = (.istore_n 2,1,2,0,0,0,.retAddr 0) := rfl
theorem fd_Mo_below_5 : am_fd mt_Mo_below.1 5 = (.iconst 0,1,0,0,0,0,.int 0) := rfl
theorem fd_Mo_below_6 : am_fd mt_Mo_below.1 6 = (.istore_n 3,1,3,0,0,0,.retAddr 0) := rfl
theorem fd_Mo_below_7 : am_fd mt_Mo_below.1 7 = (.iload_n 3,1,3,0,0,0,.retAddr 0) := rfl
theorem fd_Mo_below_8 : am_fd mt_Mo_below.1 8 = (.iload_n 2,1,2,0,0,0,.retAddr 0) := rfl
theorem fd_Mo_below_9 : am_fd mt_Mo_below.1 9 = (.if_icmp .ge 45,3,54,0,0,0,.retAddr 0) := rfl
theorem fd_Mo_below_12 : am_fd mt_Mo_below.1 12 = (.aload_n 0,1,0,0,0,0,.retAddr 0) := rfl
theorem fd_Mo_below_13 : am_fd mt_Mo_below.1 13 = (.getfield 91,3,39,2,12,12,.retAddr 0) := rfl
theorem fd_Mo_below_16 : am_fd mt_Mo_below.1 16 = (.iload_n 3,1,3,0,0,0,.retAddr 0) := rfl
theorem fd_Mo_below_17 : am_fd mt_Mo_below.1 17 = (.aload_n 0,1,0,0,0,0,.retAddr 0) := rfl
theorem fd_Mo_below_18 : am_fd mt_Mo_below.1 18 = (.getfield 73,3,32,2,12,12,.retAddr 0) := rfl
theorem fd_Mo_below_21 : am_fd mt_Mo_below.1 21 = (.iload_n 3,1,3,0,0,0,.retAddr 0) := rfl
theorem fd_Mo_below_22 : am_fd mt_Mo_below.1 22 = (.laload,1,0,0,0,0,.retAddr 0) := rfl
theorem fd_Mo_below_23 : am_fd mt_Mo_below.1 23 = (.lastore,1,0,0,0,0,.retAddr 0) := rfl
theorem fd_Mo_below_24 : am_fd mt_Mo_below.1 24 = (.aload_n 0,1,0,0,0,0,.retAddr 0) := rfl
theorem fd_Mo_below_25 : am_fd mt_Mo_below.1 25 = (.getfield 94,3,40,2,12,12,.retAddr 0) := rfl
theorem fd_Mo_below_28 : am_fd mt_Mo_below.1 28 = (.iload_n 3,1,3,0,0,0,.retAddr 0) := rfl
theorem fd_Mo_below_29 : am_fd mt_Mo_below.1 29 = (.aload_n 0,1,0,0,0,0,.retAddr 0) := rfl
theorem fd_Mo_below_30 : am_fd mt_Mo_below.1 30 = (.getfield 76,3,33,2,12,12,.retAddr 0) := rfl
theorem fd_Mo_below_33 : am_fd mt_Mo_below.1 33 = (.iload_n 3,1,3,0,0,0,.retAddr 0) := rfl
theorem fd_Mo_below_34 : am_fd mt_Mo_below.1 34 = (.iaload,1,0,0,0,0,.retAddr 0) := rfl
theorem fd_Mo_below_35 : am_fd mt_Mo_below.1 35 = (.iastore,1,0,0,0,0,.retAddr 0) := rfl
theorem fd_Mo_below_36 : am_fd mt_Mo_below.1 36 = (.aload_n 0,1,0,0,0,0,.retAddr 0) := rfl
theorem fd_Mo_below_37 : am_fd mt_Mo_below.1 37 = (.getfield 97,3,41,2,12,12,.retAddr 0) := rfl
theorem fd_Mo_below_40 : am_fd mt_Mo_below.1 40 = (.iload_n 3,1,3,0,0,0,.retAddr 0) := rfl
theorem fd_Mo_below_41 : am_fd mt_Mo_below.1 41 = (.aload_n 0,1,0,0,0,0,.retAddr 0) := rfl
theorem fd_Mo_below_42 : am_fd mt_Mo_below.1 42 = (.getfield 79,3,34,2,12,12,.retAddr 0) := rfl
theorem fd_Mo_below_45 : am_fd mt_Mo_below.1 45 = (.iload_n 3,1,3,0,0,0,.retAddr 0) := rfl
theorem fd_Mo_below_46 : am_fd mt_Mo_below.1 46 = (.laload,1,0,0,0,0,.retAddr 0) := rfl
theorem fd_Mo_below_47 : am_fd mt_Mo_below.1 47 = (.lastore,1,0,0,0,0,.retAddr 0) := rfl
theorem fd_Mo_below_48 : am_fd mt_Mo_below.1 48 = (.iinc 3 1,3,3,0,0,0,.int 1) := rfl
theorem fd_Mo_below_51 : am_fd mt_Mo_below.1 51 = (.goto (-44),3,7,0,0,0,.retAddr 0) := rfl
theorem fd_Mo_below_54 : am_fd mt_Mo_below.1 54 = (.aload_n 0,1,0,0,0,0,.retAddr 0) := rfl
theorem fd_Mo_below_55 : am_fd mt_Mo_below.1 55 = (.iconst 0,1,0,0,0,0,.int 0) := rfl
theorem fd_Mo_below_56 : am_fd mt_Mo_below.1 56 = (.putfield 197,3,31,0,12,12,.retAddr 0) := rfl
theorem fd_Mo_below_59 : am_fd mt_Mo_below.1 59 = (.iconst 0,1,0,0,0,0,.int 0) := rfl
theorem fd_Mo_below_60 : am_fd mt_Mo_below.1 60 = (.istore_n 3,1,3,0,0,0,.retAddr 0) := rfl
theorem fd_Mo_below_61 : am_fd mt_Mo_below.1 61 = (.iconst 0,1,0,0,0,0,.int 0) := rfl
theorem fd_Mo_below_62 : am_fd mt_Mo_below.1 62 = (.istore 4,2,4,0,0,0,.retAddr 0) := rfl
theorem fd_Mo_below_64 : am_fd mt_Mo_below.1 64 = (.iload 4,2,4,0,0,0,.retAddr 0) := rfl
theorem fd_Mo_below_66 : am_fd mt_Mo_below.1 66 = (.aload_n 0,1,0,0,0,0,.retAddr 0) := rfl
theorem fd_Mo_below_67 : am_fd mt_Mo_below.1 67 = (.getfield 34,3,18,2,12,12,.retAddr 0) := rfl
theorem fd_Mo_below_70 : am_fd mt_Mo_below.1 70 = (.iload_n 1,1,1,0,0,0,.retAddr 0) := rfl
theorem fd_Mo_below_71 : am_fd mt_Mo_below.1 71 = (.iaload,1,0,0,0,0,.retAddr 0) := rfl
theorem fd_Mo_below_72 : am_fd mt_Mo_below.1 72 = (.if_icmp .ge 306,3,378,0,0,0,.retAddr 0) := rfl
theorem fd_Mo_below_75 : am_fd mt_Mo_below.1 75 = (.aload_n 0,1,0,0,0,0,.retAddr 0) := rfl
theorem fd_Mo_below_76 : am_fd mt_Mo_below.1 76 = (.getfield 41,3,20,2,12,12,.retAddr 0) := rfl
theorem fd_Mo_below_79 : am_fd mt_Mo_below.1 79 = (.sipush 1024,3,0,0,0,0,.int 1024) := rfl
theorem fd_Mo_below_82 : am_fd mt_Mo_below.1 82 = (.iload_n 1,1,1,0,0,0,.retAddr 0) := rfl
theorem fd_Mo_below_83 : am_fd mt_Mo_below.1 83 = (.imul,1,0,0,0,0,.retAddr 0) := rfl
theorem fd_Mo_below_84 : am_fd mt_Mo_below.1 84 = (.iload 4,2,4,0,0,0,.retAddr 0) := rfl
theorem fd_Mo_below_86 : am_fd mt_Mo_below.1 86 = (.iadd,1,0,0,0,0,.retAddr 0) := rfl
theorem fd_Mo_below_87 : am_fd mt_Mo_below.1 87 = (.iaload,1,0,0,0,0,.retAddr 0) := rfl
theorem fd_Mo_below_88 : am_fd mt_Mo_below.1 88 = (.istore 5,2,5,0,0,0,.retAddr 0) := rfl
theorem fd_Mo_below_90 : am_fd mt_Mo_below.1 90 = (.aload_n 0,1,0,0,0,0,.retAddr 0) := rfl
theorem fd_Mo_below_91 : am_fd mt_Mo_below.1 91 = (.dup,1,0,0,0,0,.retAddr 0) := rfl
theorem fd_Mo_below_92 : am_fd mt_Mo_below.1 92 = (.getfield 275,3,6,0,12,12,.retAddr 0) := rfl
theorem fd_Mo_below_95 : am_fd mt_Mo_below.1 95 = (.iconst 1,1,0,0,0,0,.int 1) := rfl
theorem fd_Mo_below_96 : am_fd mt_Mo_below.1 96 = (.iadd,1,0,0,0,0,.retAddr 0) := rfl
theorem fd_Mo_below_97 : am_fd mt_Mo_below.1 97 = (.putfield 275,3,6,0,12,12,.retAddr 0) := rfl
theorem fd_Mo_below_100 : am_fd mt_Mo_below.1 100 = (.aload_n 0,1,0,0,0,0,.retAddr 0) := rfl
theorem fd_Mo_below_101 : am_fd mt_Mo_below.1 101 = (.iload 5,2,5,0,0,0,.retAddr 0) := rfl
theorem fd_Mo_below_103 : am_fd mt_Mo_below.1 103 = (.invokevirtual 278,3,150,2,12,0,.retAddr 0) := rfl
theorem fd_Mo_below_106 : am_fd mt_Mo_below.1 106 = (.ifCond .ne 6,3,112,0,0,0,.retAddr 0) := rfl
theorem fd_Mo_below_109 : am_fd mt_Mo_below.1 109 = (.iload 5,2,5,0,0,0,.retAddr 0) := rfl
theorem fd_Mo_below_111 : am_fd mt_Mo_below.1 111 = (.ireturn,1,0,0,0,0,.retAddr 0) := rfl
theorem fd_Mo_below_112 : am_fd mt_Mo_below.1 112 = (.aload_n 0,1,0,0,0,0,.retAddr 0) := rfl
theorem fd_Mo_below_113 : am_fd mt_Mo_below.1 113 = (.iload 5,2,5,0,0,0,.retAddr 0) := rfl
theorem fd_Mo_below_115 : am_fd mt_Mo_below.1 115 = (.invokevirtual 281,3,151,2,12,0,.retAddr 0) := rfl
theorem fd_Mo_below_118 : am_fd mt_Mo_below.1 118 = (.iconst 0,1,0,0,0,0,.int 0) := rfl
theorem fd_Mo_below_119 : am_fd mt_Mo_below.1 119 = (.istore 6,2,6,0,0,0,.retAddr 0) := rfl
theorem fd_Mo_below_121 : am_fd mt_Mo_below.1 121 = (.iload 6,2,6,0,0,0,.retAddr 0) := rfl
theorem fd_Mo_below_123 : am_fd mt_Mo_below.1 123 = (.aload_n 0,1,0,0,0,0,.retAddr 0) := rfl
theorem fd_Mo_below_124 : am_fd mt_Mo_below.1 124 = (.getfield 272,3,35,0,12,12,.retAddr 0) := rfl
theorem fd_Mo_below_127 : am_fd mt_Mo_below.1 127 = (.if_icmp .ge 245,3,372,0,0,0,.retAddr 0) := rfl
theorem fd_Mo_below_130 : am_fd mt_Mo_below.1 130 = (.iload_n 3,1,3,0,0,0,.retAddr 0) := rfl
theorem fd_Mo_below_131 : am_fd mt_Mo_below.1 131 = (.iload_n 2,1,2,0,0,0,.retAddr 0) := rfl
theorem fd_Mo_below_132 : am_fd mt_Mo_below.1 132 = (.if_icmp .ge 31,3,163,0,0,0,.retAddr 0) := rfl
theorem fd_Mo_below_135 : am_fd mt_Mo_below.1 135 = (.aload_n 0,1,0,0,0,0,.retAddr 0) := rfl
theorem fd_Mo_below_136 : am_fd mt_Mo_below.1 136 = (.getfield 91,3,39,2,12,12,.retAddr 0) := rfl
theorem fd_Mo_below_139 : am_fd mt_Mo_below.1 139 = (.iload_n 3,1,3,0,0,0,.retAddr 0) := rfl
theorem fd_Mo_below_140 : am_fd mt_Mo_below.1 140 = (.laload,1,0,0,0,0,.retAddr 0) := rfl
theorem fd_Mo_below_141 : am_fd mt_Mo_below.1 141 = (.aload_n 0,1,0,0,0,0,.retAddr 0) := rfl
theorem fd_Mo_below_142 : am_fd mt_Mo_below.1 142 = (.getfield 82,3,36,2,12,12,.retAddr 0) := rfl
theorem fd_Mo_below_145 : am_fd mt_Mo_below.1 145 = (.iload 6,2,6,0,0,0,.retAddr 0) := rfl
theorem fd_Mo_below_147 : am_fd mt_Mo_below.1 147 = (.laload,1,0,0,0,0,.retAddr 0) := rfl
theorem fd_Mo_below_148 : am_fd mt_Mo_below.1 148 = (.lcmp,1,0,0,0,0,.retAddr 0) := rfl
theorem fd_Mo_below_149 : am_fd mt_Mo_below.1 149 = (.ifCond .ge 14,3,163,0,0,0,.retAddr 0) := rfl
theorem fd_Mo_below_152 : am_fd mt_Mo_below.1 152 = (.aload_n 0,1,0,0,0,0,.retAddr 0) := rfl
theorem fd_Mo_below_153 : am_fd mt_Mo_below.1 153 = (.iload_n 3,1,3,0,0,0,.retAddr 0) := rfl
theorem fd_Mo_below_154 : am_fd mt_Mo_below.1 154 = (.invokevirtual 284,3,152,2,12,0,.retAddr 0) := rfl
theorem fd_Mo_below_157 : am_fd mt_Mo_below.1 157 = (.iinc 3 1,3,3,0,0,0,.int 1) := rfl
theorem fd_Mo_below_160 : am_fd mt_Mo_below.1 160 = (.goto (-30),3,130,0,0,0,.retAddr 0) := rfl
theorem fd_Mo_below_163 : am_fd mt_Mo_below.1 163 = (.iload_n 3,1,3,0,0,0,.retAddr 0) := rfl
theorem fd_Mo_below_164 : am_fd mt_Mo_below.1 164 = (.iload_n 2,1,2,0,0,0,.retAddr 0) := rfl
theorem fd_Mo_below_165 : am_fd mt_Mo_below.1 165 = (.if_icmp .ge 128,3,293,0,0,0,.retAddr 0) := rfl
theorem fd_Mo_below_168 : am_fd mt_Mo_below.1 168 = (.aload_n 0,1,0,0,0,0,.retAddr 0) := rfl
theorem fd_Mo_below_169 : am_fd mt_Mo_below.1 169 = (.getfield 91,3,39,2,12,12,.retAddr 0) := rfl
theorem fd_Mo_below_172 : am_fd mt_Mo_below.1 172 = (.iload_n 3,1,3,0,0,0,.retAddr 0) := rfl
theorem fd_Mo_below_173 : am_fd mt_Mo_below.1 173 = (.laload,1,0,0,0,0,.retAddr 0) := rfl
theorem fd_Mo_below_174 : am_fd mt_Mo_below.1 174 = (.aload_n 0,1,0,0,0,0,.retAddr 0) := rfl
theorem fd_Mo_below_175 : am_fd mt_Mo_below.1 175 = (.getfield 82,3,36,2,12,12,.retAddr 0) := rfl
theorem fd_Mo_below_178 : am_fd mt_Mo_below.1 178 = (.iload 6,2,6,0,0,0,.retAddr 0) := rfl
theorem fd_Mo_below_180 : am_fd mt_Mo_below.1 180 = (.laload,1,0,0,0,0,.retAddr 0) := rfl
theorem fd_Mo_below_181 : am_fd mt_Mo_below.1 181 = (.lcmp,1,0,0,0,0,.retAddr 0) := rfl
theorem fd_Mo_below_182 : am_fd mt_Mo_below.1 182 = (.ifCond .ne 111,3,293,0,0,0,.retAddr 0) := rfl
theorem fd_Mo_below_185 : am_fd mt_Mo_below.1 185 = (.aload_n 0,1,0,0,0,0,.retAddr 0) := rfl
theorem fd_Mo_below_186 : am_fd mt_Mo_below.1 186 = (.iload_n 3,1,3,0,0,0,.retAddr 0) := rfl
theorem fd_Mo_below_187 : am_fd mt_Mo_below.1 187 = (.invokevirtual 284,3,152,2,12,0,.retAddr 0) := rfl
theorem fd_Mo_below_190 : am_fd mt_Mo_below.1 190 = (.iinc 3 1,3,3,0,0,0,.int 1) := rfl
theorem fd_Mo_below_193 : am_fd mt_Mo_below.1 193 = (.aload_n 0,1,0,0,0,0,.retAddr 0) := rfl
theorem fd_Mo_below_194 : am_fd mt_Mo_below.1 194 = (.getfield 76,3,33,2,12,12,.retAddr 0) := rfl
theorem fd_Mo_below_197 : am_fd mt_Mo_below.1 197 = (.aload_n 0,1,0,0,0,0,.retAddr 0) := rfl
theorem fd_Mo_below_198 : am_fd mt_Mo_below.1 198 = (.getfield 197,3,31,0,12,12,.retAddr 0) := rfl
theorem fd_Mo_below_201 : am_fd mt_Mo_below.1 201 = (.iconst 1,1,0,0,0,0,.int 1) := rfl
theorem fd_Mo_below_202 : am_fd mt_Mo_below.1 202 = (.isub,1,0,0,0,0,.retAddr 0) := rfl
theorem fd_Mo_below_203 : am_fd mt_Mo_below.1 203 = (.iaload,1,0,0,0,0,.retAddr 0) := rfl
theorem fd_Mo_below_204 : am_fd mt_Mo_below.1 204 = (.iconst 3,1,0,0,0,0,.int 3) := rfl
theorem fd_Mo_below_205 : am_fd mt_Mo_below.1 205 = (.if_icmp .ne 161,3,366,0,0,0,.retAddr 0) := rfl
theorem fd_Mo_below_208 : am_fd mt_Mo_below.1 208 = (.aload_n 0,1,0,0,0,0,.retAddr 0) := rfl
theorem fd_Mo_below_209 : am_fd mt_Mo_below.1 209 = (.getfield 79,3,34,2,12,12,.retAddr 0) := rfl
theorem fd_Mo_below_212 : am_fd mt_Mo_below.1 212 = (.aload_n 0,1,0,0,0,0,.retAddr 0) := rfl
theorem fd_Mo_below_213 : am_fd mt_Mo_below.1 213 = (.getfield 197,3,31,0,12,12,.retAddr 0) := rfl
theorem fd_Mo_below_216 : am_fd mt_Mo_below.1 216 = (.iconst 1,1,0,0,0,0,.int 1) := rfl
theorem fd_Mo_below_217 : am_fd mt_Mo_below.1 217 = (.isub,1,0,0,0,0,.retAddr 0) := rfl
theorem fd_Mo_below_218 : am_fd mt_Mo_below.1 218 = (.aload_n 0,1,0,0,0,0,.retAddr 0) := rfl
theorem fd_Mo_below_219 : am_fd mt_Mo_below.1 219 = (.getfield 85,3,37,2,12,12,.retAddr 0) := rfl
theorem fd_Mo_below_222 : am_fd mt_Mo_below.1 222 = (.iload 6,2,6,0,0,0,.retAddr 0) := rfl
theorem fd_Mo_below_224 : am_fd mt_Mo_below.1 224 = (.iaload,1,0,0,0,0,.retAddr 0) := rfl
theorem fd_Mo_below_225 : am_fd mt_Mo_below.1 225 = (.iconst 2,1,0,0,0,0,.int 2) := rfl
theorem fd_Mo_below_226 : am_fd mt_Mo_below.1 226 = (.if_icmp .ne 17,3,243,0,0,0,.retAddr 0) := rfl
theorem fd_Mo_below_229 : am_fd mt_Mo_below.1 229 = (.aload_n 0,1,0,0,0,0,.retAddr 0) := rfl
theorem fd_Mo_below_230 : am_fd mt_Mo_below.1 230 = (.getfield 79,3,34,2,12,12,.retAddr 0) := rfl
theorem fd_Mo_below_233 : am_fd mt_Mo_below.1 233 = (.aload_n 0,1,0,0,0,0,.retAddr 0) := rfl
theorem fd_Mo_below_234 : am_fd mt_Mo_below.1 234 = (.getfield 197,3,31,0,12,12,.retAddr 0) := rfl
theorem fd_Mo_below_237 : am_fd mt_Mo_below.1 237 = (.iconst 1,1,0,0,0,0,.int 1) := rfl
theorem fd_Mo_below_238 : am_fd mt_Mo_below.1 238 = (.isub,1,0,0,0,0,.retAddr 0) := rfl
theorem fd_Mo_below_239 : am_fd mt_Mo_below.1 239 = (.laload,1,0,0,0,0,.retAddr 0) := rfl
theorem fd_Mo_below_240 : am_fd mt_Mo_below.1 240 = (.goto 22,3,262,0,0,0,.retAddr 0) := rfl
theorem fd_Mo_below_243 : am_fd mt_Mo_below.1 243 = (.aload_n 0,1,0,0,0,0,.retAddr 0) := rfl
theorem fd_Mo_below_244 : am_fd mt_Mo_below.1 244 = (.getfield 79,3,34,2,12,12,.retAddr 0) := rfl
theorem fd_Mo_below_247 : am_fd mt_Mo_below.1 247 = (.aload_n 0,1,0,0,0,0,.retAddr 0) := rfl
theorem fd_Mo_below_248 : am_fd mt_Mo_below.1 248 = (.getfield 197,3,31,0,12,12,.retAddr 0) := rfl
theorem fd_Mo_below_251 : am_fd mt_Mo_below.1 251 = (.iconst 1,1,0,0,0,0,.int 1) := rfl
theorem fd_Mo_below_252 : am_fd mt_Mo_below.1 252 = (.isub,1,0,0,0,0,.retAddr 0) := rfl
theorem fd_Mo_below_253 : am_fd mt_Mo_below.1 253 = (.laload,1,0,0,0,0,.retAddr 0) := rfl
theorem fd_Mo_below_254 : am_fd mt_Mo_below.1 254 = (.aload_n 0,1,0,0,0,0,.retAddr 0) := rfl
theorem fd_Mo_below_255 : am_fd mt_Mo_below.1 255 = (.getfield 88,3,38,2,12,12,.retAddr 0) := rfl
theorem fd_Mo_below_258 : am_fd mt_Mo_below.1 258 = (.iload 6,2,6,0,0,0,.retAddr 0) := rfl
theorem fd_Mo_below_260 : am_fd mt_Mo_below.1 260 = (.laload,1,0,0,0,0,.retAddr 0) := rfl
theorem fd_Mo_below_261 : am_fd mt_Mo_below.1 261 = (.ladd,1,0,0,0,0,.retAddr 0) := rfl
theorem fd_Mo_below_262 : am_fd mt_Mo_below.1 262 = (.lastore,1,0,0,0,0,.retAddr 0) := rfl
theorem fd_Mo_below_263 : am_fd mt_Mo_below.1 263 = (.aload_n 0,1,0,0,0,0,.retAddr 0) := rfl
theorem fd_Mo_below_264 : am_fd mt_Mo_below.1 264 = (.getfield 76,3,33,2,12,12,.retAddr 0) := rfl
theorem fd_Mo_below_267 : am_fd mt_Mo_below.1 267 = (.aload_n 0,1,0,0,0,0,.retAddr 0) := rfl
theorem fd_Mo_below_268 : am_fd mt_Mo_below.1 268 = (.getfield 197,3,31,0,12,12,.retAddr 0) := rfl
theorem fd_Mo_below_271 : am_fd mt_Mo_below.1 271 = (.iconst 1,1,0,0,0,0,.int 1) := rfl
theorem fd_Mo_below_272 : am_fd mt_Mo_below.1 272 = (.isub,1,0,0,0,0,.retAddr 0) := rfl
theorem fd_Mo_below_273 : am_fd mt_Mo_below.1 273 = (.aload_n 0,1,0,0,0,0,.retAddr 0) := rfl
theorem fd_Mo_below_274 : am_fd mt_Mo_below.1 274 = (.getfield 85,3,37,2,12,12,.retAddr 0) := rfl
theorem fd_Mo_below_277 : am_fd mt_Mo_below.1 277 = (.iload 6,2,6,0,0,0,.retAddr 0) := rfl
theorem fd_Mo_below_279 : am_fd mt_Mo_below.1 279 = (.iaload,1,0,0,0,0,.retAddr 0) := rfl
theorem fd_Mo_below_280 : am_fd mt_Mo_below.1 280 = (.iconst 3,1,0,0,0,0,.int 3) := rfl
theorem fd_Mo_below_281 : am_fd mt_Mo_below.1 281 = (.if_icmp .ne 7,3,288,0,0,0,.retAddr 0) := rfl
theorem fd_Mo_below_284 : am_fd mt_Mo_below.1 284 = (.iconst 3,1,0,0,0,0,.int 3) := rfl
theorem fd_Mo_below_285 : am_fd mt_Mo_below.1 285 = (.goto 4,3,289,0,0,0,.retAddr 0) := rfl
theorem fd_Mo_below_288 : am_fd mt_Mo_below.1 288 = (.iconst 1,1,0,0,0,0,.int 1) := rfl
theorem fd_Mo_below_289 : am_fd mt_Mo_below.1 289 = (.iastore,1,0,0,0,0,.retAddr 0) := rfl
theorem fd_Mo_below_290 : am_fd mt_Mo_below.1 290 = (.goto 76,3,366,0,0,0,.retAddr 0) := rfl
theorem fd_Mo_below_293 : am_fd mt_Mo_below.1 293 = (.aload_n 0,1,0,0,0,0,.retAddr 0) := rfl
theorem fd_Mo_below_294 : am_fd mt_Mo_below.1 294 = (.getfield 73,3,32,2,12,12,.retAddr 0) := rfl
theorem fd_Mo_below_297 : am_fd mt_Mo_below.1 297 = (.aload_n 0,1,0,0,0,0,.retAddr 0) := rfl
theorem fd_Mo_below_298 : am_fd mt_Mo_below.1 298 = (.getfield 197,3,31,0,12,12,.retAddr 0) := rfl
theorem fd_Mo_below_301 : am_fd mt_Mo_below.1 301 = (.aload_n 0,1,0,0,0,0,.retAddr 0) := rfl
theorem fd_Mo_below_302 : am_fd mt_Mo_below.1 302 = (.getfield 82,3,36,2,12,12,.retAddr 0) := rfl
theorem fd_Mo_below_305 : am_fd mt_Mo_below.1 305 = (.iload 6,2,6,0,0,0,.retAddr 0) := rfl
theorem fd_Mo_below_307 : am_fd mt_Mo_below.1 307 = (.laload,1,0,0,0,0,.retAddr 0) := rfl
theorem fd_Mo_below_308 : am_fd mt_Mo_below.1 308 = (.lastore,1,0,0,0,0,.retAddr 0) := rfl
theorem fd_Mo_below_309 : am_fd mt_Mo_below.1 309 = (.aload_n 0,1,0,0,0,0,.retAddr 0) := rfl
theorem fd_Mo_below_310 : am_fd mt_Mo_below.1 310 = (.getfield 76,3,33,2,12,12,.retAddr 0) := rfl
theorem fd_Mo_below_313 : am_fd mt_Mo_below.1 313 = (.aload_n 0,1,0,0,0,0,.retAddr 0) := rfl
theorem fd_Mo_below_314 : am_fd mt_Mo_below.1 314 = (.getfield 197,3,31,0,12,12,.retAddr 0) := rfl
theorem fd_Mo_below_317 : am_fd mt_Mo_below.1 317 = (.aload_n 0,1,0,0,0,0,.retAddr 0) := rfl
theorem fd_Mo_below_318 : am_fd mt_Mo_below.1 318 = (.getfield 85,3,37,2,12,12,.retAddr 0) := rfl
theorem fd_Mo_below_321 : am_fd mt_Mo_below.1 321 = (.iload 6,2,6,0,0,0,.retAddr 0) := rfl
theorem fd_Mo_below_323 : am_fd mt_Mo_below.1 323 = (.iaload,1,0,0,0,0,.retAddr 0) := rfl
theorem fd_Mo_below_324 : am_fd mt_Mo_below.1 324 = (.iastore,1,0,0,0,0,.retAddr 0) := rfl
theorem fd_Mo_below_325 : am_fd mt_Mo_below.1 325 = (.aload_n 0,1,0,0,0,0,.retAddr 0) := rfl
theorem fd_Mo_below_326 : am_fd mt_Mo_below.1 326 = (.getfield 79,3,34,2,12,12,.retAddr 0) := rfl
theorem fd_Mo_below_329 : am_fd mt_Mo_below.1 329 = (.aload_n 0,1,0,0,0,0,.retAddr 0) := rfl
theorem fd_Mo_below_330 : am_fd mt_Mo_below.1 330 = (.getfield 197,3,31,0,12,12,.retAddr 0) := rfl
theorem fd_Mo_below_333 : am_fd mt_Mo_below.1 333 = (.aload_n 0,1,0,0,0,0,.retAddr 0) := rfl
theorem fd_Mo_below_334 : am_fd mt_Mo_below.1 334 = (.getfield 85,3,37,2,12,12,.retAddr 0) := rfl
theorem fd_Mo_below_337 : am_fd mt_Mo_below.1 337 = (.iload 6,2,6,0,0,0,.retAddr 0) := rfl
theorem fd_Mo_below_339 : am_fd mt_Mo_below.1 339 = (.iaload,1,0,0,0,0,.retAddr 0) := rfl
theorem fd_Mo_below_340 : am_fd mt_Mo_below.1 340 = (.iconst 2,1,0,0,0,0,.int 2) := rfl
theorem fd_Mo_below_341 : am_fd mt_Mo_below.1 341 = (.if_icmp .ne 7,3,348,0,0,0,.retAddr 0) := rfl
theorem fd_Mo_below_344 : am_fd mt_Mo_below.1 344 = (.lconst 0,1,0,0,0,0,.long 0) := rfl
theorem fd_Mo_below_345 : am_fd mt_Mo_below.1 345 = (.goto 10,3,355,0,0,0,.retAddr 0) := rfl
theorem fd_Mo_below_348 : am_fd mt_Mo_below.1 348 = (.aload_n 0,1,0,0,0,0,.retAddr 0) := rfl
theorem fd_Mo_below_349 : am_fd mt_Mo_below.1 349 = (.getfield 88,3,38,2,12,12,.retAddr 0) := rfl
theorem fd_Mo_below_352 : am_fd mt_Mo_below.1 352 = (.iload 6,2,6,0,0,0,.retAddr 0) := rfl
theorem fd_Mo_below_354 : am_fd mt_Mo_below.1 354 = (.laload,1,0,0,0,0,.retAddr 0) := rfl
theorem fd_Mo_below_355 : am_fd mt_Mo_below.1 355 = (.lastore,1,0,0,0,0,.retAddr 0) := rfl
theorem fd_Mo_below_356 : am_fd mt_Mo_below.1 356 = (.aload_n 0,1,0,0,0,0,.retAddr 0) := rfl
theorem fd_Mo_below_357 : am_fd mt_Mo_below.1 357 = (.dup,1,0,0,0,0,.retAddr 0) := rfl
theorem fd_Mo_below_358 : am_fd mt_Mo_below.1 358 = (.getfield 197,3,31,0,12,12,.retAddr 0) := rfl
theorem fd_Mo_below_361 : am_fd mt_Mo_below.1 361 = (.iconst 1,1,0,0,0,0,.int 1) := rfl
theorem fd_Mo_below_362 : am_fd mt_Mo_below.1 362 = (.iadd,1,0,0,0,0,.retAddr 0) := rfl
theorem fd_Mo_below_363 : am_fd mt_Mo_below.1 363 = (.putfield 197,3,31,0,12,12,.retAddr 0) := rfl
theorem fd_Mo_below_366 : am_fd mt_Mo_below.1 366 = (.iinc 6 1,3,6,0,0,0,.int 1) := rfl
theorem fd_Mo_below_369 : am_fd mt_Mo_below.1 369 = (.goto (-248),3,121,0,0,0,.retAddr 0) := rfl
theorem fd_Mo_below_372 : am_fd mt_Mo_below.1 372 = (.iinc 4 1,3,4,0,0,0,.int 1) := rfl
theorem fd_Mo_below_375 : am_fd mt_Mo_below.1 375 = (.goto (-311),3,64,0,0,0,.retAddr 0) := rfl
theorem fd_Mo_below_378 : am_fd mt_Mo_below.1 378 = (.iload_n 3,1,3,0,0,0,.retAddr 0) := rfl
theorem fd_Mo_below_379 : am_fd mt_Mo_below.1 379 = (.iload_n 2,1,2,0,0,0,.retAddr 0) := rfl
theorem fd_Mo_below_380 : am_fd mt_Mo_below.1 380 = (.if_icmp .ge 14,3,394,0,0,0,.retAddr 0) := rfl
theorem fd_Mo_below_383 : am_fd mt_Mo_below.1 383 = (.aload_n 0,1,0,0,0,0,.retAddr 0) := rfl
theorem fd_Mo_below_384 : am_fd mt_Mo_below.1 384 = (.iload_n 3,1,3,0,0,0,.retAddr 0) := rfl
theorem fd_Mo_below_385 : am_fd mt_Mo_below.1 385 = (.invokevirtual 284,3,152,2,12,0,.retAddr 0) := rfl
theorem fd_Mo_below_388 : am_fd mt_Mo_below.1 388 = (.iinc 3 1,3,3,0,0,0,.int 1) := rfl
theorem fd_Mo_below_391 : am_fd mt_Mo_below.1 391 = (.goto (-13),3,378,0,0,0,.retAddr 0) := rfl
theorem fd_Mo_below_394 : am_fd mt_Mo_below.1 394 = (.iconst (-1),1,0,0,0,0,.int (-1)) := rfl
theorem fd_Mo_below_395 : am_fd mt_Mo_below.1 395 = (.ireturn,1,0,0,0,0,.retAddr 0) := rfl
theorem fd_Mo_isRight_0 : am_fd mt_Mo_isRight.1 0 = (.aload_n 0,1,0,0,0,0,.retAddr 0) := rfl
theorem fd_Mo_isRight_1 : am_fd mt_Mo_isRight.1 1 = (.iload_n 1,1,1,0,0,0,.retAddr 0) := rfl
theorem fd_Mo_isRight_2 : am_fd mt_Mo_isRight.1 2 = (.iconst 0,1,0,0,0,0,.int 0) := rfl
theorem fd_Mo_isRight_3 : am_fd mt_Mo_isRight.1 3 = (.invokevirtual 146,3,136,3,12,0,.retAddr 0) := rfl
theorem fd_Mo_isRight_6 : am_fd mt_Mo_isRight.1 6 = (.lstore_n 2,1,2,0,0,0,.retAddr 0) := rfl
theorem fd_Mo_isRight_7 : am_fd mt_Mo_isRight.1 7 = (.iconst 0,1,0,0,0,0,.int 0) := rfl
theorem fd_Mo_isRight_8 : am_fd mt_Mo_isRight.1 8 = (.istore 4,2,4,0,0,0,.retAddr 0) := rfl
theorem fd_Mo_isRight_10 : am_fd mt_Mo_isRight.1 10 = (.iload 4,2,4,0,0,0,.retAddr 0) := rfl
theorem fd_Mo_isRight_12 : am_fd mt_Mo_isRight.1 12 = (.bipush 8,2,0,0,0,0,.int 8) := rfl
theorem fd_Mo_isRight_14 : am_fd mt_Mo_isRight.1 14 = (.if_icmp .ge 49,3,63,0,0,0,.retAddr 0) := rfl
theorem fd_Mo_isRight_17 : am_fd mt_Mo_isRight.1 17 = (.aload_n 0,1,0,0,0,0,.retAddr 0) := rfl
theorem fd_Mo_isRight_18 : am_fd mt_Mo_isRight.1 18 = (.getfield 8,3,2,2,12,12,.retAddr 0) := rfl
theorem fd_Mo_isRight_21 : am_fd mt_Mo_isRight.1 21 = (.sipush 128,3,0,0,0,0,.int 128) := rfl
theorem fd_Mo_isRight_24 : am_fd mt_Mo_isRight.1 24 = (.iload_n 1,1,1,0,0,0,.retAddr 0) := rfl
theorem fd_Mo_isRight_25 : am_fd mt_Mo_isRight.1 25 = (.imul,1,0,0,0,0,.retAddr 0) := rfl
theorem fd_Mo_isRight_26 : am_fd mt_Mo_isRight.1 26 = (.bipush 120,2,0,0,0,0,.int 120) := rfl
theorem fd_Mo_isRight_28 : am_fd mt_Mo_isRight.1 28 = (.iadd,1,0,0,0,0,.retAddr 0) := rfl
theorem fd_Mo_isRight_29 : am_fd mt_Mo_isRight.1 29 = (.iload 4,2,4,0,0,0,.retAddr 0) := rfl
theorem fd_Mo_isRight_31 : am_fd mt_Mo_isRight.1 31 = (.iadd,1,0,0,0,0,.retAddr 0) := rfl
theorem fd_Mo_isRight_32 : am_fd mt_Mo_isRight.1 32 = (.baload,1,0,0,0,0,.retAddr 0) := rfl
theorem fd_Mo_isRight_33 : am_fd mt_Mo_isRight.1 33 = (.sipush 255,3,0,0,0,0,.int 255) := rfl
theorem fd_Mo_isRight_36 : am_fd mt_Mo_isRight.1 36 = (.iand,1,0,0,0,0,.retAddr 0) := rfl
theorem fd_Mo_isRight_37 : am_fd mt_Mo_isRight.1 37 = (.lload_n 2,1,2,0,0,0,.retAddr 0) := rfl
theorem fd_Mo_isRight_38 : am_fd mt_Mo_isRight.1 38 = (.bipush 56,2,0,0,0,0,.int 56) := rfl
theorem fd_Mo_isRight_40 : am_fd mt_Mo_isRight.1 40 = (.bipush 8,2,0,0,0,0,.int 8) := rfl
theorem fd_Mo_isRight_42 : am_fd mt_Mo_isRight.1 42 = (.iload 4,2,4,0,0,0,.retAddr 0) := rfl
theorem fd_Mo_isRight_44 : am_fd mt_Mo_isRight.1 44 = (.imul,1,0,0,0,0,.retAddr 0) := rfl
theorem fd_Mo_isRight_45 : am_fd mt_Mo_isRight.1 45 = (.isub,1,0,0,0,0,.retAddr 0) := rfl
theorem fd_Mo_isRight_46 : am_fd mt_Mo_isRight.1 46 = (.lushr,1,0,0,0,0,.retAddr 0) := rfl
theorem fd_Mo_isRight_47 : am_fd mt_Mo_isRight.1 47 = (.ldc2_w 150,3,0,0,0,0,.long 255) := rfl
theorem fd_Mo_isRight_50 : am_fd mt_Mo_isRight.1 50 = (.land,1,0,0,0,0,.retAddr 0) := rfl
theorem fd_Mo_isRight_51 : am_fd mt_Mo_isRight.1 51 = (.l2i,1,0,0,0,0,.retAddr 0) := rfl
theorem fd_Mo_isRight_52 : am_fd mt_Mo_isRight.1 52 = (.if_icmp .eq 5,3,57,0,0,0,.retAddr 0) := rfl
theorem fd_Mo_isRight_55 : am_fd mt_Mo_isRight.1 55 = (.iconst 0,1,0,0,0,0,.int 0) := rfl
theorem fd_Mo_isRight_56 : am_fd mt_Mo_isRight.1 56 = (.ireturn,1,1,0,0,0,.retAddr 0) := rfl
theorem fd_Mo_isRight_57 : am_fd mt_Mo_isRight.1 57 = (.iinc 4 1,3,4,0,0,0,.int 1) := rfl
theorem fd_Mo_isRight_60 : am_fd mt_Mo_isRight.1 60 = (.goto (-50),3,10,0,0,0,.retAddr 0) := rfl
theorem fd_Mo_isRight_63 : am_fd mt_Mo_isRight.1 63 = (.iconst 1,1,0,0,0,0,.int 1) := rfl
theorem fd_Mo_isRight_64 : am_fd mt_Mo_isRight.1 64 = (.ireturn,1,1,0,0,0,.retAddr 0) := rfl
theorem fd_Mo_see_0 : am_fd mt_Mo_see.1 0 = (.sipush 128,3,0,0,0,0,.int 128) := rfl
theorem fd_Mo_see_3 : am_fd mt_Mo_see.1 3 = (.iload_n 1,1,1,0,0,0,.retAddr 0) := rfl
theorem fd_Mo_see_4 : am_fd mt_Mo_see.1 4 = (.imul,1,0,0,0,0,.retAddr 0) := rfl
theorem fd_Mo_see_5 : am_fd mt_Mo_see.1 5 = (.iconst 5,1,0,0,0,0,.int 5) := rfl
theorem fd_Mo_see_6 : am_fd mt_Mo_see.1 6 = (.iadd,1,0,0,0,0,.retAddr 0) := rfl
theorem fd_Mo_see_7 : am_fd mt_Mo_see.1 7 = (.istore_n 2,1,2,0,0,0,.retAddr 0) := rfl
theorem fd_Mo_see_8 : am_fd mt_Mo_see.1 8 = (.aload_n 0,1,0,0,0,0,.retAddr 0) := rfl
theorem fd_Mo_see_9 : am_fd mt_Mo_see.1 9 = (.aload_n 0,1,0,0,0,0,.retAddr 0) := rfl
theorem fd_Mo_see_10 : am_fd mt_Mo_see.1 10 = (.getfield 8,3,2,2,12,12,.retAddr 0) := rfl
theorem fd_Mo_see_13 : am_fd mt_Mo_see.1 13 = (.sipush 128,3,0,0,0,0,.int 128) := rfl
theorem fd_Mo_see_16 : am_fd mt_Mo_see.1 16 = (.iload_n 1,1,1,0,0,0,.retAddr 0) := rfl
theorem fd_Mo_see_17 : am_fd mt_Mo_see.1 17 = (.imul,1,0,0,0,0,.retAddr 0) := rfl
theorem fd_Mo_see_18 : am_fd mt_Mo_see.1 18 = (.iconst 4,1,0,0,0,0,.int 4) := rfl
theorem fd_Mo_see_19 : am_fd mt_Mo_see.1 19 = (.iadd,1,0,0,0,0,.retAddr 0) := rfl
theorem fd_Mo_see_20 : am_fd mt_Mo_see.1 20 = (.baload,1,0,0,0,0,.retAddr 0) := rfl
theorem fd_Mo_see_21 : am_fd mt_Mo_see.1 21 = (.sipush 255,3,0,0,0,0,.int 255) := rfl
theorem fd_Mo_see_24 : am_fd mt_Mo_see.1 24 = (.iand,1,0,0,0,0,.retAddr 0) := rfl
theorem fd_Mo_see_25 : am_fd mt_Mo_see.1 25 = (.putfield 272,3,35,0,12,12,.retAddr 0) := rfl
theorem fd_Mo_see_28 : am_fd mt_Mo_see.1 28 = (.lconst 0,1,0,0,0,0,.long 0) := rfl
theorem fd_Mo_see_29 : am_fd mt_Mo_see.1 29 = (.lstore_n 3,1,3,0,0,0,.retAddr 0) := rfl
theorem fd_Mo_see_30 : am_fd mt_Mo_see.1 30 = (.iconst 0,1,0,0,0,0,.int 0) := rfl
theorem fd_Mo_see_31 : am_fd mt_Mo_see.1 31 = (.istore 5,2,5,0,0,0,.retAddr 0) := rfl
theorem fd_Mo_see_33 : am_fd mt_Mo_see.1 33 = (.iload 5,2,5,0,0,0,.retAddr 0) := rfl
theorem fd_Mo_see_35 : am_fd mt_Mo_see.1 35 = (.aload_n 0,1,0,0,0,0,.retAddr 0) := rfl
theorem fd_Mo_see_36 : am_fd mt_Mo_see.1 36 = (.getfield 272,3,35,0,12,12,.retAddr 0) := rfl
theorem fd_Mo_see_39 : am_fd mt_Mo_see.1 39 = (.if_icmp .ge 227,3,266,0,0,0,.retAddr 0) := rfl
theorem fd_Mo_see_42 : am_fd mt_Mo_see.1 42 = (.aload_n 0,1,0,0,0,0,.retAddr 0) := rfl
theorem fd_Mo_see_43 : am_fd mt_Mo_see.1 43 = (.getfield 8,3,2,2,12,12,.retAddr 0) := rfl
theorem fd_Mo_see_46 : am_fd mt_Mo_see.1 46 = (.iload_n 2,1,2,0,0,0,.retAddr 0) := rfl
theorem fd_Mo_see_47 : am_fd mt_Mo_see.1 47 = (.baload,1,0,0,0,0,.retAddr 0) := rfl
theorem fd_Mo_see_48 : am_fd mt_Mo_see.1 48 = (.sipush 255,3,0,0,0,0,.int 255) := rfl
theorem fd_Mo_see_51 : am_fd mt_Mo_see.1 51 = (.iand,1,0,0,0,0,.retAddr 0) := rfl
theorem fd_Mo_see_52 : am_fd mt_Mo_see.1 52 = (.istore 6,2,6,0,0,0,.retAddr 0) := rfl
theorem fd_Mo_see_54 : am_fd mt_Mo_see.1 54 = (.iinc 2 1,3,2,0,0,0,.int 1) := rfl
theorem fd_Mo_see_57 : am_fd mt_Mo_see.1 57 = (.iload 6,2,6,0,0,0,.retAddr 0) := rfl
theorem fd_Mo_see_59 : am_fd mt_Mo_see.1 59 = (.istore 7,2,7,0,0,0,.retAddr 0) := rfl
theorem fd_Mo_see_61 : am_fd mt_Mo_see.1 61 = (.iload 7,2,7,0,0,0,.retAddr 0) := rfl
theorem fd_Mo_see_63 : am_fd mt_Mo_see.1 63 = (.bipush 8,2,0,0,0,0,.int 8) := rfl
theorem fd_Mo_see_65 : am_fd mt_Mo_see.1 65 = (.if_icmp .ge 72,3,137,0,0,0,.retAddr 0) := rfl
theorem fd_Mo_see_68 : am_fd mt_Mo_see.1 68 = (.bipush 56,2,0,0,0,0,.int 56) := rfl
theorem fd_Mo_see_70 : am_fd mt_Mo_see.1 70 = (.bipush 8,2,0,0,0,0,.int 8) := rfl
theorem fd_Mo_see_72 : am_fd mt_Mo_see.1 72 = (.iload 7,2,7,0,0,0,.retAddr 0) := rfl
theorem fd_Mo_see_74 : am_fd mt_Mo_see.1 74 = (.imul,1,0,0,0,0,.retAddr 0) := rfl
theorem fd_Mo_see_75 : am_fd mt_Mo_see.1 75 = (.isub,1,0,0,0,0,.retAddr 0) := rfl
theorem fd_Mo_see_76 : am_fd mt_Mo_see.1 76 = (.istore 8,2,8,0,0,0,.retAddr 0) := rfl
theorem fd_Mo_see_78 : am_fd mt_Mo_see.1 78 = (.aload_n 0,1,0,0,0,0,.retAddr 0) := rfl
theorem fd_Mo_see_79 : am_fd mt_Mo_see.1 79 = (.getfield 8,3,2,2,12,12,.retAddr 0) := rfl
theorem fd_Mo_see_82 : am_fd mt_Mo_see.1 82 = (.iload_n 2,1,2,0,0,0,.retAddr 0) := rfl
theorem fd_Mo_see_83 : am_fd mt_Mo_see.1 83 = (.baload,1,0,0,0,0,.retAddr 0) := rfl
theorem fd_Mo_see_84 : am_fd mt_Mo_see.1 84 = (.sipush 255,3,0,0,0,0,.int 255) := rfl
theorem fd_Mo_see_87 : am_fd mt_Mo_see.1 87 = (.iand,1,0,0,0,0,.retAddr 0) := rfl
theorem fd_Mo_see_88 : am_fd mt_Mo_see.1 88 = (.i2l,1,0,0,0,0,.retAddr 0) := rfl
theorem fd_Mo_see_89 : am_fd mt_Mo_see.1 89 = (.lstore 9,2,9,0,0,0,.retAddr 0) := rfl
theorem fd_Mo_see_91 : am_fd mt_Mo_see.1 91 = (.iload 7,2,7,0,0,0,.retAddr 0) := rfl
theorem fd_Mo_see_93 : am_fd mt_Mo_see.1 93 = (.ifCond .ne 12,3,105,0,0,0,.retAddr 0) := rfl
theorem fd_Mo_see_96 : am_fd mt_Mo_see.1 96 = (.lload 9,2,9,0,0,0,.retAddr 0) := rfl
theorem fd_Mo_see_98 : am_fd mt_Mo_see.1 98 = (.ldc2_w 225,3,0,0,0,0,.long 128) := rfl
theorem fd_Mo_see_101 : am_fd mt_Mo_see.1 101 = (.lxor,1,0,0,0,0,.retAddr 0) := rfl
theorem fd_Mo_see_102 : am_fd mt_Mo_see.1 102 = (.goto 5,3,107,0,0,0,.retAddr 0) := rfl
theorem fd_Mo_see_105 : am_fd mt_Mo_see.1 105 = (.lload 9,2,9,0,0,0,.retAddr 0) := rfl
theorem fd_Mo_see_107 : am_fd mt_Mo_see.1 107 = (.lstore 9,2,9,0,0,0,.retAddr 0) := rfl
theorem fd_Mo_see_109 : am_fd mt_Mo_see.1 109 = (.lload_n 3,1,3,0,0,0,.retAddr 0) := rfl
theorem fd_Mo_see_110 : am_fd mt_Mo_see.1 110 = (.ldc2_w 150,3,0,0,0,0,.long 255) := rfl
theorem fd_Mo_see_113 : am_fd mt_Mo_see.1 113 = (.iload 8,2,8,0,0,0,.retAddr 0) := rfl
theorem fd_Mo_see_115 : am_fd mt_Mo_see.1 115 = (.lshl,1,0,0,0,0,.retAddr 0) := rfl
theorem fd_Mo_see_116 : am_fd mt_Mo_see.1 116 = (.ldc2_w 183,3,0,0,0,0,.long (-1)) := rfl
theorem fd_Mo_see_119 : am_fd mt_Mo_see.1 119 = (.lxor,1,0,0,0,0,.retAddr 0) := rfl
theorem fd_Mo_see_120 : am_fd mt_Mo_see.1 120 = (.land,1,0,0,0,0,.retAddr 0) := rfl
theorem fd_Mo_see_121 : am_fd mt_Mo_see.1 121 = (.lload 9,2,9,0,0,0,.retAddr 0) := rfl
theorem fd_Mo_see_123 : am_fd mt_Mo_see.1 123 = (.iload 8,2,8,0,0,0,.retAddr 0) := rfl
theorem fd_Mo_see_125 : am_fd mt_Mo_see.1 125 = (.lshl,1,0,0,0,0,.retAddr 0) := rfl
theorem fd_Mo_see_126 : am_fd mt_Mo_see.1 126 = (.lor,1,0,0,0,0,.retAddr 0) := rfl
theorem fd_Mo_see_127 : am_fd mt_Mo_see.1 127 = (.lstore_n 3,1,3,0,0,0,.retAddr 0) := rfl
theorem fd_Mo_see_128 : am_fd mt_Mo_see.1 128 = (.iinc 2 1,3,2,0,0,0,.int 1) := rfl
theorem fd_Mo_see_131 : am_fd mt_Mo_see.1 131 = (.iinc 7 1,3,7,0,0,0,.int 1) := rfl
theorem fd_Mo_see_134 : am_fd mt_Mo_see.1 134 = (.goto (-73),3,61,0,0,0,.retAddr 0) := rfl
theorem fd_Mo_see_137 : am_fd mt_Mo_see.1 137 = (.aload_n 0,1,0,0,0,0,.retAddr 0) := rfl
theorem fd_Mo_see_138 : am_fd mt_Mo_see.1 138 = (.getfield 8,3,2,2,12,12,.retAddr 0) := rfl
theorem fd_Mo_see_141 : am_fd mt_Mo_see.1 141 = (.iload_n 2,1,2,0,0,0,.retAddr 0) := rfl
theorem fd_Mo_see_142 : am_fd mt_Mo_see.1 142 = (.baload,1,0,0,0,0,.retAddr 0) := rfl
theorem fd_Mo_see_143 : am_fd mt_Mo_see.1 143 = (.istore 7,2,7,0,0,0,.retAddr 0) := rfl
theorem fd_Mo_see_145 : am_fd mt_Mo_see.1 145 = (.iinc 2 1,3,2,0,0,0,.int 1) := rfl
theorem fd_Mo_see_148 : am_fd mt_Mo_see.1 148 = (.lconst 0,1,0,0,0,0,.long 0) := rfl
theorem fd_Mo_see_149 : am_fd mt_Mo_see.1 149 = (.lstore 8,2,8,0,0,0,.retAddr 0) := rfl
theorem fd_Mo_see_151 : am_fd mt_Mo_see.1 151 = (.iload 7,2,7,0,0,0,.retAddr 0) := rfl
theorem fd_Mo_see_153 : am_fd mt_Mo_see.1 153 = (.iconst 2,1,0,0,0,0,.int 2) := rfl
theorem fd_Mo_see_154 : am_fd mt_Mo_see.1 154 = (.if_icmp .eq 58,3,212,0,0,0,.retAddr 0) := rfl
theorem fd_Mo_see_157 : am_fd mt_Mo_see.1 157 = (.iconst 0,1,0,0,0,0,.int 0) := rfl
theorem fd_Mo_see_158 : am_fd mt_Mo_see.1 158 = (.istore 10,2,10,0,0,0,.retAddr 0) := rfl
theorem fd_Mo_see_160 : am_fd mt_Mo_see.1 160 = (.iconst 1,1,0,0,0,0,.int 1) := rfl
theorem fd_Mo_see_161 : am_fd mt_Mo_see.1 161 = (.istore 11,2,11,0,0,0,.retAddr 0) := rfl
theorem fd_Mo_see_163 : am_fd mt_Mo_see.1 163 = (.iload 11,2,11,0,0,0,.retAddr 0) := rfl
theorem fd_Mo_see_165 : am_fd mt_Mo_see.1 165 = (.ifCond .eq 47,3,212,0,0,0,.retAddr 0) := rfl
theorem fd_Mo_see_168 : am_fd mt_Mo_see.1 168 = (.lload 8,2,8,0,0,0,.retAddr 0) := rfl
theorem fd_Mo_see_170 : am_fd mt_Mo_see.1 170 = (.aload_n 0,1,0,0,0,0,.retAddr 0) := rfl
theorem fd_Mo_see_171 : am_fd mt_Mo_see.1 171 = (.getfield 8,3,2,2,12,12,.retAddr 0) := rfl
theorem fd_Mo_see_174 : am_fd mt_Mo_see.1 174 = (.iload_n 2,1,2,0,0,0,.retAddr 0) := rfl
theorem fd_Mo_see_175 : am_fd mt_Mo_see.1 175 = (.baload,1,0,0,0,0,.retAddr 0) := rfl
theorem fd_Mo_see_176 : am_fd mt_Mo_see.1 176 = (.i2l,1,0,0,0,0,.retAddr 0) := rfl
theorem fd_Mo_see_177 : am_fd mt_Mo_see.1 177 = (.ldc2_w 223,3,0,0,0,0,.long 127) := rfl
theorem fd_Mo_see_180 : am_fd mt_Mo_see.1 180 = (.land,1,0,0,0,0,.retAddr 0) := rfl
theorem fd_Mo_see_181 : am_fd mt_Mo_see.1 181 = (.iload 10,2,10,0,0,0,.retAddr 0) := rfl
theorem fd_Mo_see_183 : am_fd mt_Mo_see.1 183 = (.lshl,1,0,0,0,0,.retAddr 0) := rfl
theorem fd_Mo_see_184 : am_fd mt_Mo_see.1 184 = (.lor,1,0,0,0,0,.retAddr 0) := rfl
theorem fd_Mo_see_185 : am_fd mt_Mo_see.1 185 = (.lstore 8,2,8,0,0,0,.retAddr 0) := rfl
theorem fd_Mo_see_187 : am_fd mt_Mo_see.1 187 = (.aload_n 0,1,0,0,0,0,.retAddr 0) := rfl
theorem fd_Mo_see_188 : am_fd mt_Mo_see.1 188 = (.getfield 8,3,2,2,12,12,.retAddr 0) := rfl
theorem fd_Mo_see_191 : am_fd mt_Mo_see.1 191 = (.iload_n 2,1,2,0,0,0,.retAddr 0) := rfl
theorem fd_Mo_see_192 : am_fd mt_Mo_see.1 192 = (.baload,1,0,0,0,0,.retAddr 0) := rfl
theorem fd_Mo_see_193 : am_fd mt_Mo_see.1 193 = (.ifCond .ge 7,3,200,0,0,0,.retAddr 0) := rfl
theorem fd_Mo_see_196 : am_fd mt_Mo_see.1 196 = (.iconst 1,1,0,0,0,0,.int 1) := rfl
theorem fd_Mo_see_197 : am_fd mt_Mo_see.1 197 = (.goto 4,3,201,0,0,0,.retAddr 0) := rfl
theorem fd_Mo_see_200 : am_fd mt_Mo_see.1 200 = (.iconst 0,1,0,0,0,0,.int 0) := rfl
theorem fd_Mo_see_201 : am_fd mt_Mo_see.1 201 = (.istore 11,2,11,0,0,0,.retAddr 0) := rfl
theorem fd_Mo_see_203 : am_fd mt_Mo_see.1 203 = (.iinc 10 7,3,10,0,0,0,.int 7) := rfl
theorem fd_Mo_see_206 : am_fd mt_Mo_see.1 206 = (.iinc 2 1,3,2,0,0,0,.int 1) := rfl
theorem fd_Mo_see_209 : am_fd mt_Mo_see.1 209 = (.goto (-46),3,163,0,0,0,.retAddr 0) := rfl
theorem fd_Mo_see_212 : am_fd mt_Mo_see.1 212 = (.aload_n 0,1,0,0,0,0,.retAddr 0) := rfl
theorem fd_Mo_see_213 : am_fd mt_Mo_see.1 213 = (.getfield 82,3,36,2,12,12,.retAddr 0) := rfl
theorem fd_Mo_see_216 : am_fd mt_Mo_see.1 216 = (.iload 5,2,5,0,0,0,.retAddr 0) := rfl
theorem fd_Mo_see_218 : am_fd mt_Mo_see.1 218 = (.lload_n 3,1,3,0,0,0,.retAddr 0) := rfl
theorem fd_Mo_see_219 : am_fd mt_Mo_see.1 219 = (.lastore,1,0,0,0,0,.retAddr 0) := rfl
theorem fd_Mo_see_220 : am_fd mt_Mo_see.1 220 = (.aload_n 0,1,0,0,0,0,.retAddr 0) := rfl
theorem fd_Mo_see_221 : am_fd mt_Mo_see.1 221 = (.getfield 85,3,37,2,12,12,.retAddr 0) := rfl
theorem fd_Mo_see_224 : am_fd mt_Mo_see.1 224 = (.iload 5,2,5,0,0,0,.retAddr 0) := rfl
theorem fd_Mo_see_226 : am_fd mt_Mo_see.1 226 = (.iload 7,2,7,0,0,0,.retAddr 0) := rfl
theorem fd_Mo_see_228 : am_fd mt_Mo_see.1 228 = (.iastore,1,0,0,0,0,.retAddr 0) := rfl
theorem fd_Mo_see_229 : am_fd mt_Mo_see.1 229 = (.aload_n 0,1,0,0,0,0,.retAddr 0) := rfl
theorem fd_Mo_see_230 : am_fd mt_Mo_see.1 230 = (.getfield 88,3,38,2,12,12,.retAddr 0) := rfl
theorem fd_Mo_see_233 : am_fd mt_Mo_see.1 233 = (.iload 5,2,5,0,0,0,.retAddr 0) := rfl
theorem fd_Mo_see_235 : am_fd mt_Mo_see.1 235 = (.lload 8,2,8,0,0,0,.retAddr 0) := rfl
theorem fd_Mo_see_237 : am_fd mt_Mo_see.1 237 = (.lconst 1,1,0,0,0,0,.long 1) := rfl
theorem fd_Mo_see_238 : am_fd mt_Mo_see.1 238 = (.land,1,0,0,0,0,.retAddr 0) := rfl
theorem fd_Mo_see_239 : am_fd mt_Mo_see.1 239 = (.lconst 0,1,0,0,0,0,.long 0) := rfl
theorem fd_Mo_see_240 : am_fd mt_Mo_see.1 240 = (.lcmp,1,0,0,0,0,.retAddr 0) := rfl
theorem fd_Mo_see_241 : am_fd mt_Mo_see.1 241 = (.ifCond .ne 10,3,251,0,0,0,.retAddr 0) := rfl
theorem fd_Mo_see_244 : am_fd mt_Mo_see.1 244 = (.lload 8,2,8,0,0,0,.retAddr 0) := rfl
theorem fd_Mo_see_246 : am_fd mt_Mo_see.1 246 = (.iconst 1,1,0,0,0,0,.int 1) := rfl
theorem fd_Mo_see_247 : am_fd mt_Mo_see.1 247 = (.lushr,1,0,0,0,0,.retAddr 0) := rfl
theorem fd_Mo_see_248 : am_fd mt_Mo_see.1 248 = (.goto 11,3,259,0,0,0,.retAddr 0) := rfl
theorem fd_Mo_see_251 : am_fd mt_Mo_see.1 251 = (.lload 8,2,8,0,0,0,.retAddr 0) := rfl
theorem fd_Mo_see_253 : am_fd mt_Mo_see.1 253 = (.iconst 1,1,0,0,0,0,.int 1) := rfl
theorem fd_Mo_see_254 : am_fd mt_Mo_see.1 254 = (.lushr,1,0,0,0,0,.retAddr 0) := rfl
theorem fd_Mo_see_255 : am_fd mt_Mo_see.1 255 = (.ldc2_w 183,3,0,0,0,0,.long (-1)) := rfl
theorem fd_Mo_see_258 : am_fd mt_Mo_see.1 258 = (.lxor,1,0,0,0,0,.retAddr 0) := rfl
theorem fd_Mo_see_259 : am_fd mt_Mo_see.1 259 = (.lastore,1,0,0,0,0,.retAddr 0) := rfl
theorem fd_Mo_see_260 : am_fd mt_Mo_see.1 260 = (.iinc 5 1,3,5,0,0,0,.int 1) := rfl
theorem fd_Mo_see_263 : am_fd mt_Mo_see.1 263 = (.goto (-230),3,33,0,0,0,.retAddr 0) := rfl
theorem fd_Mo_see_266 : am_fd mt_Mo_see.1 266 = (.return_,1,0,0,0,0,.retAddr 0) := rfl
theorem fd_Mo_copy_0 : am_fd mt_Mo_copy.1 0 = (.aload_n 0,1,0,0,0,0,.retAddr 0) := rfl
theorem fd_Mo_copy_1 : am_fd mt_Mo_copy.1 1 = (.getfield 73,3,32,2,12,12,.retAddr 0) := rfl
theorem fd_Mo_copy_4 : am_fd mt_Mo_copy.1 4 = (.aload_n 0,1,0,0,0,0,.retAddr 0) := rfl
theorem fd_Mo_copy_5 : am_fd mt_Mo_copy.1 5 = (.getfield 197,3,31,0,12,12,.retAddr 0) := rfl
theorem fd_Mo_copy_8 : am_fd mt_Mo_copy.1 8 = (.aload_n 0,1,0,0,0,0,.retAddr 0) := rfl
theorem fd_Mo_copy_9 : am_fd mt_Mo_copy.1 9 = (.getfield 91,3,39,2,12,12,.retAddr 0) := rfl
theorem fd_Mo_copy_12 : am_fd mt_Mo_copy.1 12 = (.iload_n 1,1,1,0,0,0,.retAddr 0) := rfl
theorem fd_Mo_copy_13 : am_fd mt_Mo_copy.1 13 = (.laload,1,0,0,0,0,.retAddr 0) := rfl
theorem fd_Mo_copy_14 : am_fd mt_Mo_copy.1 14 = (.lastore,1,0,0,0,0,.retAddr 0) := rfl
theorem fd_Mo_copy_15 : am_fd mt_Mo_copy.1 15 = (.aload_n 0,1,0,0,0,0,.retAddr 0) := rfl
theorem fd_Mo_copy_16 : am_fd mt_Mo_copy.1 16 = (.getfield 76,3,33,2,12,12,.retAddr 0) := rfl
theorem fd_Mo_copy_19 : am_fd mt_Mo_copy.1 19 = (.aload_n 0,1,0,0,0,0,.retAddr 0) := rfl
theorem fd_Mo_copy_20 : am_fd mt_Mo_copy.1 20 = (.getfield 197,3,31,0,12,12,.retAddr 0) := rfl
theorem fd_Mo_copy_23 : am_fd mt_Mo_copy.1 23 = (.aload_n 0,1,0,0,0,0,.retAddr 0) := rfl
theorem fd_Mo_copy_24 : am_fd mt_Mo_copy.1 24 = (.getfield 94,3,40,2,12,12,.retAddr 0) := rfl
theorem fd_Mo_copy_27 : am_fd mt_Mo_copy.1 27 = (.iload_n 1,1,1,0,0,0,.retAddr 0) := rfl
theorem fd_Mo_copy_28 : am_fd mt_Mo_copy.1 28 = (.iaload,1,0,0,0,0,.retAddr 0) := rfl
theorem fd_Mo_copy_29 : am_fd mt_Mo_copy.1 29 = (.iastore,1,0,0,0,0,.retAddr 0) := rfl
theorem fd_Mo_copy_30 : am_fd mt_Mo_copy.1 30 = (.aload_n 0,1,0,0,0,0,.retAddr 0) := rfl
theorem fd_Mo_copy_31 : am_fd mt_Mo_copy.1 31 = (.getfield 79,3,34,2,12,12,.retAddr 0) := rfl
theorem fd_Mo_copy_34 : am_fd mt_Mo_copy.1 34 = (.aload_n 0,1,0,0,0,0,.retAddr 0) := rfl
theorem fd_Mo_copy_35 : am_fd mt_Mo_copy.1 35 = (.getfield 197,3,31,0,12,12,.retAddr 0) := rfl
theorem fd_Mo_copy_38 : am_fd mt_Mo_copy.1 38 = (.aload_n 0,1,0,0,0,0,.retAddr 0) := rfl
theorem fd_Mo_copy_39 : am_fd mt_Mo_copy.1 39 = (.getfield 97,3,41,2,12,12,.retAddr 0) := rfl
theorem fd_Mo_copy_42 : am_fd mt_Mo_copy.1 42 = (.iload_n 1,1,1,0,0,0,.retAddr 0) := rfl
theorem fd_Mo_copy_43 : am_fd mt_Mo_copy.1 43 = (.laload,1,0,0,0,0,.retAddr 0) := rfl
theorem fd_Mo_copy_44 : am_fd mt_Mo_copy.1 44 = (.lastore,1,0,0,0,0,.retAddr 0) := rfl
theorem fd_Mo_copy_45 : am_fd mt_Mo_copy.1 45 = (.aload_n 0,1,0,0,0,0,.retAddr 0) := rfl
theorem fd_Mo_copy_46 : am_fd mt_Mo_copy.1 46 = (.dup,1,0,0,0,0,.retAddr 0) := rfl
theorem fd_Mo_copy_47 : am_fd mt_Mo_copy.1 47 = (.getfield 197,3,31,0,12,12,.retAddr 0) := rfl
theorem fd_Mo_copy_50 : am_fd mt_Mo_copy.1 50 = (.iconst 1,1,0,0,0,0,.int 1) := rfl
theorem fd_Mo_copy_51 : am_fd mt_Mo_copy.1 51 = (.iadd,1,0,0,0,0,.retAddr 0) := rfl
theorem fd_Mo_copy_52 : am_fd mt_Mo_copy.1 52 = (.putfield 197,3,31,0,12,12,.retAddr 0) := rfl
theorem fd_Mo_copy_55 : am_fd mt_Mo_copy.1 55 = (.return_,1,0,0,0,0,.retAddr 0) := rfl
theorem fd_Mo_ripe_0 : am_fd mt_Mo_ripe.1 0 = (.aload_n 0,1,0,0,0,0,.retAddr 0) := rfl
theorem fd_Mo_ripe_1 : am_fd mt_Mo_ripe.1 1 = (.getfield 197,3,31,0,12,12,.retAddr 0) := rfl
theorem fd_Mo_ripe_4 : am_fd mt_Mo_ripe.1 4 = (.istore_n 2,1,2,0,0,0,.retAddr 0) := rfl
theorem fd_Mo_ripe_5 : am_fd mt_Mo_ripe.1 5 = (.iconst 0,1,0,0,0,0,.int 0) := rfl
theorem fd_Mo_ripe_6 : am_fd mt_Mo_ripe.1 6 = (.istore_n 3,1,3,0,0,0,.retAddr 0) := rfl
theorem fd_Mo_ripe_7 : am_fd mt_Mo_ripe.1 7 = (.iload_n 3,1,3,0,0,0,.retAddr 0) := rfl
theorem fd_Mo_ripe_8 : am_fd mt_Mo_ripe.1 8 = (.iload_n 2,1,2,0,0,0,.retAddr 0) := rfl
theorem fd_Mo_ripe_9 : am_fd mt_Mo_ripe.1 9 = (.if_icmp .ge 45,3,54,0,0,0,.retAddr 0) := rfl
theorem fd_Mo_ripe_12 : am_fd mt_Mo_ripe.1 12 = (.aload_n 0,1,0,0,0,0,.retAddr 0) := rfl
theorem fd_Mo_ripe_13 : am_fd mt_Mo_ripe.1 13 = (.getfield 100,3,42,2,12,12,.retAddr 0) := rfl
theorem fd_Mo_ripe_16 : am_fd mt_Mo_ripe.1 16 = (.iload_n 3,1,3,0,0,0,.retAddr 0) := rfl
theorem fd_Mo_ripe_17 : am_fd mt_Mo_ripe.1 17 = (.aload_n 0,1,0,0,0,0,.retAddr 0) := rfl
theorem fd_Mo_ripe_18 : am_fd mt_Mo_ripe.1 18 = (.getfield 73,3,32,2,12,12,.retAddr 0) := rfl
theorem fd_Mo_ripe_21 : am_fd mt_Mo_ripe.1 21 = (.iload_n 3,1,3,0,0,0,.retAddr 0) := rfl
theorem fd_Mo_ripe_22 : am_fd mt_Mo_ripe.1 22 = (.laload,1,0,0,0,0,.retAddr 0) := rfl
theorem fd_Mo_ripe_23 : am_fd mt_Mo_ripe.1 23 = (.lastore,1,0,0,0,0,.retAddr 0) := rfl
theorem fd_Mo_ripe_24 : am_fd mt_Mo_ripe.1 24 = (.aload_n 0,1,0,0,0,0,.retAddr 0) := rfl
theorem fd_Mo_ripe_25 : am_fd mt_Mo_ripe.1 25 = (.getfield 103,3,43,2,12,12,.retAddr 0) := rfl
theorem fd_Mo_ripe_28 : am_fd mt_Mo_ripe.1 28 = (.iload_n 3,1,3,0,0,0,.retAddr 0) := rfl
theorem fd_Mo_ripe_29 : am_fd mt_Mo_ripe.1 29 = (.aload_n 0,1,0,0,0,0,.retAddr 0) := rfl
theorem fd_Mo_ripe_30 : am_fd mt_Mo_ripe.1 30 = (.getfield 76,3,33,2,12,12,.retAddr 0) := rfl
theorem fd_Mo_ripe_33 : am_fd mt_Mo_ripe.1 33 = (.iload_n 3,1,3,0,0,0,.retAddr 0) := rfl
theorem fd_Mo_ripe_34 : am_fd mt_Mo_ripe.1 34 = (.iaload,1,0,0,0,0,.retAddr 0) := rfl
theorem fd_Mo_ripe_35 : am_fd mt_Mo_ripe.1 35 = (.iastore,1,0,0,0,0,.retAddr 0) := rfl
theorem fd_Mo_ripe_36 : am_fd mt_Mo_ripe.1 36 = (.aload_n 0,1,0,0,0,0,.retAddr 0) := rfl
theorem fd_Mo_ripe_37 : am_fd mt_Mo_ripe.1 37 = (.getfield 106,3,44,2,12,12,.retAddr 0) := rfl
theorem fd_Mo_ripe_40 : am_fd mt_Mo_ripe.1 40 = (.iload_n 3,1,3,0,0,0,.retAddr 0) := rfl
theorem fd_Mo_ripe_41 : am_fd mt_Mo_ripe.1 41 = (.aload_n 0,1,0,0,0,0,.retAddr 0) := rfl
theorem fd_Mo_ripe_42 : am_fd mt_Mo_ripe.1 42 = (.getfield 79,3,34,2,12,12,.retAddr 0) := rfl
theorem fd_Mo_ripe_45 : am_fd mt_Mo_ripe.1 45 = (.iload_n 3,1,3,0,0,0,.retAddr 0) := rfl
theorem fd_Mo_ripe_46 : am_fd mt_Mo_ripe.1 46 = (.laload,1,0,0,0,0,.retAddr 0) := rfl
theorem fd_Mo_ripe_47 : am_fd mt_Mo_ripe.1 47 = (.lastore,1,0,0,0,0,.retAddr 0) := rfl
theorem fd_Mo_ripe_48 : am_fd mt_Mo_ripe.1 48 = (.iinc 3 1,3,3,0,0,0,.int 1) := rfl
theorem fd_Mo_ripe_51 : am_fd mt_Mo_ripe.1 51 = (.goto (-44),3,7,0,0,0,.retAddr 0) := rfl
theorem fd_Mo_ripe_54 : am_fd mt_Mo_ripe.1 54 = (.iload_n 1,1,1,0,0,0,.retAddr 0) := rfl
theorem fd_Mo_ripe_55 : am_fd mt_Mo_ripe.1 55 = (.ifCond .eq 81,3,136,0,0,0,.retAddr 0) := rfl
theorem fd_Mo_ripe_58 : am_fd mt_Mo_ripe.1 58 = (.aload_n 0,1,0,0,0,0,.retAddr 0) := rfl
theorem fd_Mo_ripe_59 : am_fd mt_Mo_ripe.1 59 = (.iconst 0,1,0,0,0,0,.int 0) := rfl
theorem fd_Mo_ripe_60 : am_fd mt_Mo_ripe.1 60 = (.putfield 197,3,31,0,12,12,.retAddr 0) := rfl
theorem fd_Mo_ripe_63 : am_fd mt_Mo_ripe.1 63 = (.iconst 0,1,0,0,0,0,.int 0) := rfl
theorem fd_Mo_ripe_64 : am_fd mt_Mo_ripe.1 64 = (.istore_n 3,1,3,0,0,0,.retAddr 0) := rfl
theorem fd_Mo_ripe_65 : am_fd mt_Mo_ripe.1 65 = (.iload_n 3,1,3,0,0,0,.retAddr 0) := rfl
theorem fd_Mo_ripe_66 : am_fd mt_Mo_ripe.1 66 = (.iload_n 2,1,2,0,0,0,.retAddr 0) := rfl
theorem fd_Mo_ripe_67 : am_fd mt_Mo_ripe.1 67 = (.if_icmp .ge 69,3,136,0,0,0,.retAddr 0) := rfl
theorem fd_Mo_ripe_70 : am_fd mt_Mo_ripe.1 70 = (.aload_n 0,1,0,0,0,0,.retAddr 0) := rfl
theorem fd_Mo_ripe_71 : am_fd mt_Mo_ripe.1 71 = (.getfield 103,3,43,2,12,12,.retAddr 0) := rfl
theorem fd_Mo_ripe_74 : am_fd mt_Mo_ripe.1 74 = (.iload_n 3,1,3,0,0,0,.retAddr 0) := rfl
theorem fd_Mo_ripe_75 : am_fd mt_Mo_ripe.1 75 = (.iaload,1,0,0,0,0,.retAddr 0) := rfl
theorem fd_Mo_ripe_76 : am_fd mt_Mo_ripe.1 76 = (.iconst 2,1,0,0,0,0,.int 2) := rfl
theorem fd_Mo_ripe_77 : am_fd mt_Mo_ripe.1 77 = (.if_icmp .eq 53,3,130,0,0,0,.retAddr 0) := rfl
theorem fd_Mo_ripe_80 : am_fd mt_Mo_ripe.1 80 = (.aload_n 0,1,0,0,0,0,.retAddr 0) := rfl
theorem fd_Mo_ripe_81 : am_fd mt_Mo_ripe.1 81 = (.getfield 73,3,32,2,12,12,.retAddr 0) := rfl
theorem fd_Mo_ripe_84 : am_fd mt_Mo_ripe.1 84 = (.aload_n 0,1,0,0,0,0,.retAddr 0) := rfl
theorem fd_Mo_ripe_85 : am_fd mt_Mo_ripe.1 85 = (.getfield 197,3,31,0,12,12,.retAddr 0) := rfl
theorem fd_Mo_ripe_88 : am_fd mt_Mo_ripe.1 88 = (.aload_n 0,1,0,0,0,0,.retAddr 0) := rfl
theorem fd_Mo_ripe_89 : am_fd mt_Mo_ripe.1 89 = (.getfield 100,3,42,2,12,12,.retAddr 0) := rfl
theorem fd_Mo_ripe_92 : am_fd mt_Mo_ripe.1 92 = (.iload_n 3,1,3,0,0,0,.retAddr 0) := rfl
theorem fd_Mo_ripe_93 : am_fd mt_Mo_ripe.1 93 = (.laload,1,0,0,0,0,.retAddr 0) := rfl
theorem fd_Mo_ripe_94 : am_fd mt_Mo_ripe.1 94 = (.lastore,1,0,0,0,0,.retAddr 0) := rfl
theorem fd_Mo_ripe_95 : am_fd mt_Mo_ripe.1 95 = (.aload_n 0,1,0,0,0,0,.retAddr 0) := rfl
theorem fd_Mo_ripe_96 : am_fd mt_Mo_ripe.1 96 = (.getfield 76,3,33,2,12,12,.retAddr 0) := rfl
theorem fd_Mo_ripe_99 : am_fd mt_Mo_ripe.1 99 = (.aload_n 0,1,0,0,0,0,.retAddr 0) := rfl
theorem fd_Mo_ripe_100 : am_fd mt_Mo_ripe.1 100 = (.getfield 197,3,31,0,12,12,.retAddr 0) := rfl
theorem fd_Mo_ripe_103 : am_fd mt_Mo_ripe.1 103 = (.iconst 1,1,0,0,0,0,.int 1) := rfl
theorem fd_Mo_ripe_104 : am_fd mt_Mo_ripe.1 104 = (.iastore,1,0,0,0,0,.retAddr 0) := rfl
theorem fd_Mo_ripe_105 : am_fd mt_Mo_ripe.1 105 = (.aload_n 0,1,0,0,0,0,.retAddr 0) := rfl
theorem fd_Mo_ripe_106 : am_fd mt_Mo_ripe.1 106 = (.getfield 79,3,34,2,12,12,.retAddr 0) := rfl
theorem fd_Mo_ripe_109 : am_fd mt_Mo_ripe.1 109 = (.aload_n 0,1,0,0,0,0,.retAddr 0) := rfl
theorem fd_Mo_ripe_110 : am_fd mt_Mo_ripe.1 110 = (.getfield 197,3,31,0,12,12,.retAddr 0) := rfl
theorem fd_Mo_ripe_113 : am_fd mt_Mo_ripe.1 113 = (.aload_n 0,1,0,0,0,0,.retAddr 0) := rfl
theorem fd_Mo_ripe_114 : am_fd mt_Mo_ripe.1 114 = (.getfield 106,3,44,2,12,12,.retAddr 0) := rfl
theorem fd_Mo_ripe_117 : am_fd mt_Mo_ripe.1 117 = (.iload_n 3,1,3,0,0,0,.retAddr 0) := rfl
theorem fd_Mo_ripe_118 : am_fd mt_Mo_ripe.1 118 = (.laload,1,0,0,0,0,.retAddr 0) := rfl
theorem fd_Mo_ripe_119 : am_fd mt_Mo_ripe.1 119 = (.lastore,1,0,0,0,0,.retAddr 0) := rfl
theorem fd_Mo_ripe_120 : am_fd mt_Mo_ripe.1 120 = (.aload_n 0,1,0,0,0,0,.retAddr 0) := rfl
theorem fd_Mo_ripe_121 : am_fd mt_Mo_ripe.1 121 = (.dup,1,0,0,0,0,.retAddr 0) := rfl
theorem fd_Mo_ripe_122 : am_fd mt_Mo_ripe.1 122 = (.getfield 197,3,31,0,12,12,.retAddr 0) := rfl
theorem fd_Mo_ripe_125 : am_fd mt_Mo_ripe.1 125 = (.iconst 1,1,0,0,0,0,.int 1) := rfl
theorem fd_Mo_ripe_126 : am_fd mt_Mo_ripe.1 126 = (.iadd,1,0,0,0,0,.retAddr 0) := rfl
theorem fd_Mo_ripe_127 : am_fd mt_Mo_ripe.1 127 = (.putfield 197,3,31,0,12,12,.retAddr 0) := rfl
theorem fd_Mo_ripe_130 : am_fd mt_Mo_ripe.1 130 = (.iinc 3 1,3,3,0,0,0,.int 1) := rfl
theorem fd_Mo_ripe_133 : am_fd mt_Mo_ripe.1 133 = (.goto (-68),3,65,0,0,0,.retAddr 0) := rfl
theorem fd_Mo_ripe_136 : am_fd mt_Mo_ripe.1 136 = (.iload_n 2,1,2,0,0,0,.retAddr 0) := rfl
theorem fd_Mo_ripe_137 : am_fd mt_Mo_ripe.1 137 = (.ireturn,1,0,0,0,0,.retAddr 0) := rfl
theorem fd_Mo_pagesFor_0 : am_fd mt_Mo_pagesFor.1 0 = (.iconst 0,1,0,0,0,0,.int 0) := rfl
theorem fd_Mo_pagesFor_1 : am_fd mt_Mo_pagesFor.1 1 = (.istore_n 1,1,1,0,0,0,.retAddr 0) := rfl
theorem fd_Mo_pagesFor_2 : am_fd mt_Mo_pagesFor.1 2 = (.bipush 121,2,0,0,0,0,.int 121) := rfl
theorem fd_Mo_pagesFor_4 : am_fd mt_Mo_pagesFor.1 4 = (.istore_n 2,1,2,0,0,0,.retAddr 0) := rfl
theorem fd_Mo_pagesFor_5 : am_fd mt_Mo_pagesFor.1 5 = (.iconst 0,1,0,0,0,0,.int 0) := rfl
theorem fd_Mo_pagesFor_6 : am_fd mt_Mo_pagesFor.1 6 = (.istore_n 3,1,3,0,0,0,.retAddr 0) := rfl
theorem fd_Mo_pagesFor_7 : am_fd mt_Mo_pagesFor.1 7 = (.iload_n 3,1,3,0,0,0,.retAddr 0) := rfl
theorem fd_Mo_pagesFor_8 : am_fd mt_Mo_pagesFor.1 8 = (.aload_n 0,1,0,0,0,0,.retAddr 0) := rfl
theorem fd_Mo_pagesFor_9 : am_fd mt_Mo_pagesFor.1 9 = (.getfield 197,3,31,0,12,12,.retAddr 0) := rfl
theorem fd_Mo_pagesFor_12 : am_fd mt_Mo_pagesFor.1 12 = (.if_icmp .ge 54,3,66,0,0,0,.retAddr 0) := rfl
theorem fd_Mo_pagesFor_15 : am_fd mt_Mo_pagesFor.1 15 = (.iload_n 2,1,2,0,0,0,.retAddr 0) := rfl
theorem fd_Mo_pagesFor_16 : am_fd mt_Mo_pagesFor.1 16 = (.bipush 120,2,0,0,0,0,.int 120) := rfl
theorem fd_Mo_pagesFor_18 : am_fd mt_Mo_pagesFor.1 18 = (.if_icmp .gt 16,3,34,0,0,0,.retAddr 0) := rfl
theorem fd_Mo_pagesFor_21 : am_fd mt_Mo_pagesFor.1 21 = (.iload_n 2,1,2,0,0,0,.retAddr 0) := rfl
theorem fd_Mo_pagesFor_22 : am_fd mt_Mo_pagesFor.1 22 = (.aload_n 0,1,0,0,0,0,.retAddr 0) := rfl
theorem fd_Mo_pagesFor_23 : am_fd mt_Mo_pagesFor.1 23 = (.iload_n 3,1,3,0,0,0,.retAddr 0) := rfl
theorem fd_Mo_pagesFor_24 : am_fd mt_Mo_pagesFor.1 24 = (.iconst 0,1,0,0,0,0,.int 0) := rfl
theorem fd_Mo_pagesFor_25 : am_fd mt_Mo_pagesFor.1 25 = (.invokevirtual 200,3,155,3,12,0,.retAddr 0) := rfl
theorem fd_Mo_pagesFor_28 : am_fd mt_Mo_pagesFor.1 28 = (.iadd,1,0,0,0,0,.retAddr 0) := rfl
theorem fd_Mo_pagesFor_29 : am_fd mt_Mo_pagesFor.1 29 = (.bipush 120,2,0,0,0,0,.int 120) := rfl
theorem fd_Mo_pagesFor_31 : am_fd mt_Mo_pagesFor.1 31 = (.if_icmp .le 20,3,51,0,0,0,.retAddr 0) := rfl
theorem fd_Mo_pagesFor_34 : am_fd mt_Mo_pagesFor.1 34 = (.iinc 1 1,3,1,0,0,0,.int 1) := rfl
theorem fd_Mo_pagesFor_37 : am_fd mt_Mo_pagesFor.1 37 = (.iconst 5,1,0,0,0,0,.int 5) := rfl
theorem fd_Mo_pagesFor_38 : am_fd mt_Mo_pagesFor.1 38 = (.istore_n 2,1,2,0,0,0,.retAddr 0) := rfl
theorem fd_Mo_pagesFor_39 : am_fd mt_Mo_pagesFor.1 39 = (.iload_n 2,1,2,0,0,0,.retAddr 0) := rfl
theorem fd_Mo_pagesFor_40 : am_fd mt_Mo_pagesFor.1 40 = (.aload_n 0,1,0,0,0,0,.retAddr 0) := rfl
theorem fd_Mo_pagesFor_41 : am_fd mt_Mo_pagesFor.1 41 = (.iload_n 3,1,3,0,0,0,.retAddr 0) := rfl
theorem fd_Mo_pagesFor_42 : am_fd mt_Mo_pagesFor.1 42 = (.iconst 1,1,0,0,0,0,.int 1) := rfl
theorem fd_Mo_pagesFor_43 : am_fd mt_Mo_pagesFor.1 43 = (.invokevirtual 200,3,155,3,12,0,.retAddr 0) := rfl
theorem fd_Mo_pagesFor_46 : am_fd mt_Mo_pagesFor.1 46 = (.iadd,1,0,0,0,0,.retAddr 0) := rfl
theorem fd_Mo_pagesFor_47 : am_fd mt_Mo_pagesFor.1 47 = (.istore_n 2,1,2,0,0,0,.retAddr 0) := rfl
theorem fd_Mo_pagesFor_48 : am_fd mt_Mo_pagesFor.1 48 = (.goto 12,3,60,0,0,0,.retAddr 0) := rfl
theorem fd_Mo_pagesFor_51 : am_fd mt_Mo_pagesFor.1 51 = (.iload_n 2,1,2,0,0,0,.retAddr 0) := rfl
theorem fd_Mo_pagesFor_52 : am_fd mt_Mo_pagesFor.1 52 = (.aload_n 0,1,0,0,0,0,.retAddr 0) := rfl
theorem fd_Mo_pagesFor_53 : am_fd mt_Mo_pagesFor.1 53 = (.iload_n 3,1,3,0,0,0,.retAddr 0) := rfl
theorem fd_Mo_pagesFor_54 : am_fd mt_Mo_pagesFor.1 54 = (.iconst 0,1,0,0,0,0,.int 0) := rfl
theorem fd_Mo_pagesFor_55 : am_fd mt_Mo_pagesFor.1 55 = (.invokevirtual 200,3,155,3,12,0,.retAddr 0) := rfl
theorem fd_Mo_pagesFor_58 : am_fd mt_Mo_pagesFor.1 58 = (.iadd,1,0,0,0,0,.retAddr 0) := rfl
theorem fd_Mo_pagesFor_59 : am_fd mt_Mo_pagesFor.1 59 = (.istore_n 2,1,2,0,0,0,.retAddr 0) := rfl
theorem fd_Mo_pagesFor_60 : am_fd mt_Mo_pagesFor.1 60 = (.iinc 3 1,3,3,0,0,0,.int 1) := rfl
theorem fd_Mo_pagesFor_63 : am_fd mt_Mo_pagesFor.1 63 = (.goto (-56),3,7,0,0,0,.retAddr 0) := rfl
theorem fd_Mo_pagesFor_66 : am_fd mt_Mo_pagesFor.1 66 = (.iload_n 1,1,1,0,0,0,.retAddr 0) := rfl
theorem fd_Mo_pagesFor_67 : am_fd mt_Mo_pagesFor.1 67 = (.ireturn,1,0,0,0,0,.retAddr 0) := rfl
theorem fd_Mo_sizeOf_0 : am_fd mt_Mo_sizeOf.1 0 = (.iload_n 2,1,2,0,0,0,.retAddr 0) := rfl
theorem fd_Mo_sizeOf_1 : am_fd mt_Mo_sizeOf.1 1 = (.ifCond .eq 7,3,8,0,0,0,.retAddr 0) := rfl
theorem fd_Mo_sizeOf_4 : am_fd mt_Mo_sizeOf.1 4 = (.iconst 0,1,0,0,0,0,.int 0) := rfl
theorem fd_Mo_sizeOf_5 : am_fd mt_Mo_sizeOf.1 5 = (.goto 20,3,25,0,0,0,.retAddr 0) := rfl
theorem fd_Mo_sizeOf_8 : am_fd mt_Mo_sizeOf.1 8 = (.aload_n 0,1,0,0,0,0,.retAddr 0) := rfl
theorem fd_Mo_sizeOf_9 : am_fd mt_Mo_sizeOf.1 9 = (.getfield 73,3,32,2,12,12,.retAddr 0) := rfl
theorem fd_Mo_sizeOf_12 : am_fd mt_Mo_sizeOf.1 12 = (.iload_n 1,1,1,0,0,0,.retAddr 0) := rfl
theorem fd_Mo_sizeOf_13 : am_fd mt_Mo_sizeOf.1 13 = (.iconst 1,1,0,0,0,0,.int 1) := rfl
theorem fd_Mo_sizeOf_14 : am_fd mt_Mo_sizeOf.1 14 = (.isub,1,0,0,0,0,.retAddr 0) := rfl
theorem fd_Mo_sizeOf_15 : am_fd mt_Mo_sizeOf.1 15 = (.laload,1,0,0,0,0,.retAddr 0) := rfl
theorem fd_Mo_sizeOf_16 : am_fd mt_Mo_sizeOf.1 16 = (.aload_n 0,1,0,0,0,0,.retAddr 0) := rfl
theorem fd_Mo_sizeOf_17 : am_fd mt_Mo_sizeOf.1 17 = (.getfield 73,3,32,2,12,12,.retAddr 0) := rfl
theorem fd_Mo_sizeOf_20 : am_fd mt_Mo_sizeOf.1 20 = (.iload_n 1,1,1,0,0,0,.retAddr 0) := rfl
theorem fd_Mo_sizeOf_21 : am_fd mt_Mo_sizeOf.1 21 = (.laload,1,0,0,0,0,.retAddr 0) := rfl
theorem fd_Mo_sizeOf_22 : am_fd mt_Mo_sizeOf.1 22 = (.invokestatic 189,3,156,2,0,0,.retAddr 0) := rfl
theorem fd_Mo_sizeOf_25 : am_fd mt_Mo_sizeOf.1 25 = (.istore_n 3,1,3,0,0,0,.retAddr 0) := rfl
theorem fd_Mo_sizeOf_26 : am_fd mt_Mo_sizeOf.1 26 = (.bipush 9,2,0,0,0,0,.int 9) := rfl
theorem fd_Mo_sizeOf_28 : am_fd mt_Mo_sizeOf.1 28 = (.iload_n 3,1,3,0,0,0,.retAddr 0) := rfl
theorem fd_Mo_sizeOf_29 : am_fd mt_Mo_sizeOf.1 29 = (.isub,1,0,0,0,0,.retAddr 0) := rfl
theorem fd_Mo_sizeOf_30 : am_fd mt_Mo_sizeOf.1 30 = (.iconst 1,1,0,0,0,0,.int 1) := rfl
theorem fd_Mo_sizeOf_31 : am_fd mt_Mo_sizeOf.1 31 = (.iadd,1,0,0,0,0,.retAddr 0) := rfl
theorem fd_Mo_sizeOf_32 : am_fd mt_Mo_sizeOf.1 32 = (.aload_n 0,1,0,0,0,0,.retAddr 0) := rfl
theorem fd_Mo_sizeOf_33 : am_fd mt_Mo_sizeOf.1 33 = (.getfield 76,3,33,2,12,12,.retAddr 0) := rfl
theorem fd_Mo_sizeOf_36 : am_fd mt_Mo_sizeOf.1 36 = (.iload_n 1,1,1,0,0,0,.retAddr 0) := rfl
theorem fd_Mo_sizeOf_37 : am_fd mt_Mo_sizeOf.1 37 = (.iaload,1,0,0,0,0,.retAddr 0) := rfl
theorem fd_Mo_sizeOf_38 : am_fd mt_Mo_sizeOf.1 38 = (.iconst 2,1,0,0,0,0,.int 2) := rfl
theorem fd_Mo_sizeOf_39 : am_fd mt_Mo_sizeOf.1 39 = (.if_icmp .ne 7,3,46,0,0,0,.retAddr 0) := rfl
theorem fd_Mo_sizeOf_42 : am_fd mt_Mo_sizeOf.1 42 = (.iconst 0,1,0,0,0,0,.int 0) := rfl
theorem fd_Mo_sizeOf_43 : am_fd mt_Mo_sizeOf.1 43 = (.goto 12,3,55,0,0,0,.retAddr 0) := rfl
theorem fd_Mo_sizeOf_46 : am_fd mt_Mo_sizeOf.1 46 = (.aload_n 0,1,0,0,0,0,.retAddr 0) := rfl
theorem fd_Mo_sizeOf_47 : am_fd mt_Mo_sizeOf.1 47 = (.getfield 79,3,34,2,12,12,.retAddr 0) := rfl
theorem fd_Mo_sizeOf_50 : am_fd mt_Mo_sizeOf.1 50 = (.iload_n 1,1,1,0,0,0,.retAddr 0) := rfl
theorem fd_Mo_sizeOf_51 : am_fd mt_Mo_sizeOf.1 51 = (.laload,1,0,0,0,0,.retAddr 0) := rfl
theorem fd_Mo_sizeOf_52 : am_fd mt_Mo_sizeOf.1 52 = (.invokestatic 193,3,158,1,0,0,.retAddr 0) := rfl
theorem fd_Mo_sizeOf_55 : am_fd mt_Mo_sizeOf.1 55 = (.iadd,1,0,0,0,0,.retAddr 0) := rfl
theorem fd_Mo_sizeOf_56 : am_fd mt_Mo_sizeOf.1 56 = (.ireturn,1,0,0,0,0,.retAddr 0) := rfl
theorem fd_Mo_shared_0 : am_fd mt_Mo_shared.1 0 = (.iconst 0,1,0,0,0,0,.int 0) := rfl
theorem fd_Mo_shared_1 : am_fd mt_Mo_shared.1 1 = (.istore 4,2,4,0,0,0,.retAddr 0) := rfl
theorem fd_Mo_shared_3 : am_fd mt_Mo_shared.1 3 = (.iload 4,2,4,0,0,0,.retAddr 0) := rfl
theorem fd_Mo_shared_5 : am_fd mt_Mo_shared.1 5 = (.bipush 8,2,0,0,0,0,.int 8) := rfl
theorem fd_Mo_shared_7 : am_fd mt_Mo_shared.1 7 = (.if_icmp .ge 24,3,31,0,0,0,.retAddr 0) := rfl
theorem fd_Mo_shared_10 : am_fd mt_Mo_shared.1 10 = (.lload_n 0,1,0,0,0,0,.retAddr 0) := rfl
theorem fd_Mo_shared_11 : am_fd mt_Mo_shared.1 11 = (.iload 4,2,4,0,0,0,.retAddr 0) := rfl
theorem fd_Mo_shared_13 : am_fd mt_Mo_shared.1 13 = (.invokestatic 185,3,157,2,0,0,.retAddr 0) := rfl
theorem fd_Mo_shared_16 : am_fd mt_Mo_shared.1 16 = (.lload_n 2,1,2,0,0,0,.retAddr 0) := rfl
theorem fd_Mo_shared_17 : am_fd mt_Mo_shared.1 17 = (.iload 4,2,4,0,0,0,.retAddr 0) := rfl
theorem fd_Mo_shared_19 : am_fd mt_Mo_shared.1 19 = (.invokestatic 185,3,157,2,0,0,.retAddr 0) := rfl
theorem fd_Mo_shared_22 : am_fd mt_Mo_shared.1 22 = (.if_icmp .ne 9,3,31,0,0,0,.retAddr 0) := rfl
theorem fd_Mo_shared_25 : am_fd mt_Mo_shared.1 25 = (.iinc 4 1,3,4,0,0,0,.int 1) := rfl
theorem fd_Mo_shared_28 : am_fd mt_Mo_shared.1 28 = (.goto (-25),3,3,0,0,0,.retAddr 0) := rfl
theorem fd_Mo_shared_31 : am_fd mt_Mo_shared.1 31 = (.iload 4,2,4,0,0,0,.retAddr 0) := rfl
theorem fd_Mo_shared_33 : am_fd mt_Mo_shared.1 33 = (.ireturn,1,0,0,0,0,.retAddr 0) := rfl
theorem fd_Mo_keyOctet_0 : am_fd mt_Mo_keyOctet.1 0 = (.lload_n 0,1,0,0,0,0,.retAddr 0) := rfl
theorem fd_Mo_keyOctet_1 : am_fd mt_Mo_keyOctet.1 1 = (.bipush 56,2,0,0,0,0,.int 56) := rfl
theorem fd_Mo_keyOctet_3 : am_fd mt_Mo_keyOctet.1 3 = (.bipush 8,2,0,0,0,0,.int 8) := rfl
theorem fd_Mo_keyOctet_5 : am_fd mt_Mo_keyOctet.1 5 = (.iload_n 2,1,2,0,0,0,.retAddr 0) := rfl
theorem fd_Mo_keyOctet_6 : am_fd mt_Mo_keyOctet.1 6 = (.imul,1,0,0,0,0,.retAddr 0) := rfl
theorem fd_Mo_keyOctet_7 : am_fd mt_Mo_keyOctet.1 7 = (.isub,1,0,0,0,0,.retAddr 0) := rfl
theorem fd_Mo_keyOctet_8 : am_fd mt_Mo_keyOctet.1 8 = (.lushr,1,0,0,0,0,.retAddr 0) := rfl
theorem fd_Mo_keyOctet_9 : am_fd mt_Mo_keyOctet.1 9 = (.ldc2_w 150,3,0,0,0,0,.long 255) := rfl
theorem fd_Mo_keyOctet_12 : am_fd mt_Mo_keyOctet.1 12 = (.land,1,0,0,0,0,.retAddr 0) := rfl
theorem fd_Mo_keyOctet_13 : am_fd mt_Mo_keyOctet.1 13 = (.l2i,1,0,0,0,0,.retAddr 0) := rfl
theorem fd_Mo_keyOctet_14 : am_fd mt_Mo_keyOctet.1 14 = (.istore_n 3,1,3,0,0,0,.retAddr 0) := rfl
theorem fd_Mo_keyOctet_15 : am_fd mt_Mo_keyOctet.1 15 = (.iload_n 2,1,2,0,0,0,.retAddr 0) := rfl
theorem fd_Mo_keyOctet_16 : am_fd mt_Mo_keyOctet.1 16 = (.ifCond .ne 11,3,27,0,0,0,.retAddr 0) := rfl
theorem fd_Mo_keyOctet_19 : am_fd mt_Mo_keyOctet.1 19 = (.iload_n 3,1,3,0,0,0,.retAddr 0) := rfl
theorem fd_Mo_keyOctet_20 : am_fd mt_Mo_keyOctet.1 20 = (.sipush 128,3,0,0,0,0,.int 128) := rfl
theorem fd_Mo_keyOctet_23 : am_fd mt_Mo_keyOctet.1 23 = (.ixor,1,0,0,0,0,.retAddr 0) := rfl
theorem fd_Mo_keyOctet_24 : am_fd mt_Mo_keyOctet.1 24 = (.goto 4,3,28,0,0,0,.retAddr 0) := rfl
theorem fd_Mo_keyOctet_27 : am_fd mt_Mo_keyOctet.1 27 = (.iload_n 3,1,3,0,0,0,.retAddr 0) := rfl
theorem fd_Mo_keyOctet_28 : am_fd mt_Mo_keyOctet.1 28 = (.ireturn,1,0,0,0,0,.retAddr 0) := rfl
theorem fd_Mo_vSize_0 : am_fd mt_Mo_vSize.1 0 = (.lload_n 0,1,0,0,0,0,.retAddr 0) := rfl
theorem fd_Mo_vSize_1 : am_fd mt_Mo_vSize.1 1 = (.lconst 0,1,0,0,0,0,.long 0) := rfl
theorem fd_Mo_vSize_2 : am_fd mt_Mo_vSize.1 2 = (.lcmp,1,0,0,0,0,.retAddr 0) := rfl
theorem fd_Mo_vSize_3 : am_fd mt_Mo_vSize.1 3 = (.ifCond .lt 11,3,14,0,0,0,.retAddr 0) := rfl
theorem fd_Mo_vSize_6 : am_fd mt_Mo_vSize.1 6 = (.lload_n 0,1,0,0,0,0,.retAddr 0) := rfl
theorem fd_Mo_vSize_7 : am_fd mt_Mo_vSize.1 7 = (.ldc2_w 181,3,0,0,0,0,.long 2) := rfl
theorem fd_Mo_vSize_10 : am_fd mt_Mo_vSize.1 10 = (.lmul,1,0,0,0,0,.retAddr 0) := rfl
theorem fd_Mo_vSize_11 : am_fd mt_Mo_vSize.1 11 = (.goto 12,3,23,0,0,0,.retAddr 0) := rfl
theorem fd_Mo_vSize_14 : am_fd mt_Mo_vSize.1 14 = (.ldc2_w 183,3,0,0,0,0,.long (-1)) := rfl
theorem fd_Mo_vSize_17 : am_fd mt_Mo_vSize.1 17 = (.lload_n 0,1,0,0,0,0,.retAddr 0) := rfl
theorem fd_Mo_vSize_18 : am_fd mt_Mo_vSize.1 18 = (.ldc2_w 181,3,0,0,0,0,.long 2) := rfl
theorem fd_Mo_vSize_21 : am_fd mt_Mo_vSize.1 21 = (.lmul,1,0,0,0,0,.retAddr 0) := rfl
theorem fd_Mo_vSize_22 : am_fd mt_Mo_vSize.1 22 = (.lsub,1,0,0,0,0,.retAddr 0) := rfl
theorem fd_Mo_vSize_23 : am_fd mt_Mo_vSize.1 23 = (.lstore_n 2,1,2,0,0,0,.retAddr 0) := rfl
theorem fd_Mo_vSize_24 : am_fd mt_Mo_vSize.1 24 = (.iconst 1,1,0,0,0,0,.int 1) := rfl
theorem fd_Mo_vSize_25 : am_fd mt_Mo_vSize.1 25 = (.istore 4,2,4,0,0,0,.retAddr 0) := rfl
theorem fd_Mo_vSize_27 : am_fd mt_Mo_vSize.1 27 = (.lload_n 2,1,2,0,0,0,.retAddr 0) := rfl
theorem fd_Mo_vSize_28 : am_fd mt_Mo_vSize.1 28 = (.bipush 7,2,0,0,0,0,.int 7) := rfl
theorem fd_Mo_vSize_30 : am_fd mt_Mo_vSize.1 30 = (.lushr,1,0,0,0,0,.retAddr 0) := rfl
theorem fd_Mo_vSize_31 : am_fd mt_Mo_vSize.1 31 = (.lconst 0,1,0,0,0,0,.long 0) := rfl
theorem fd_Mo_vSize_32 : am_fd mt_Mo_vSize.1 32 = (.lcmp,1,0,0,0,0,.retAddr 0) := rfl
theorem fd_Mo_vSize_33 : am_fd mt_Mo_vSize.1 33 = (.ifCond .eq 14,3,47,0,0,0,.retAddr 0) := rfl
theorem fd_Mo_vSize_36 : am_fd mt_Mo_vSize.1 36 = (.lload_n 2,1,2,0,0,0,.retAddr 0) := rfl
theorem fd_Mo_vSize_37 : am_fd mt_Mo_vSize.1 37 = (.bipush 7,2,0,0,0,0,.int 7) := rfl
theorem fd_Mo_vSize_39 : am_fd mt_Mo_vSize.1 39 = (.lushr,1,0,0,0,0,.retAddr 0) := rfl
theorem fd_Mo_vSize_40 : am_fd mt_Mo_vSize.1 40 = (.lstore_n 2,1,2,0,0,0,.retAddr 0) := rfl
theorem fd_Mo_vSize_41 : am_fd mt_Mo_vSize.1 41 = (.iinc 4 1,3,4,0,0,0,.int 1) := rfl
theorem fd_Mo_vSize_44 : am_fd mt_Mo_vSize.1 44 = (.goto (-17),3,27,0,0,0,.retAddr 0) := rfl
theorem fd_Mo_vSize_47 : am_fd mt_Mo_vSize.1 47 = (.iload 4,2,4,0,0,0,.retAddr 0) := rfl
theorem fd_Mo_vSize_49 : am_fd mt_Mo_vSize.1 49 = (.ireturn,1,0,0,0,0,.retAddr 0) := rfl
theorem fd_Mo_freeCount_0 : am_fd mt_Mo_freeCount.1 0 = (.aload_n 0,1,0,0,0,0,.retAddr 0) := rfl
theorem fd_Mo_freeCount_1 : am_fd mt_Mo_freeCount.1 1 = (.invokevirtual 178,3,160,1,12,0,.retAddr 0) := rfl
theorem fd_Mo_freeCount_4 : am_fd mt_Mo_freeCount.1 4 = (.iconst 0,1,0,0,0,0,.int 0) := rfl
theorem fd_Mo_freeCount_5 : am_fd mt_Mo_freeCount.1 5 = (.istore_n 1,1,1,0,0,0,.retAddr 0) := rfl
theorem fd_Mo_freeCount_6 : am_fd mt_Mo_freeCount.1 6 = (.iconst 0,1,0,0,0,0,.int 0) := rfl
theorem fd_Mo_freeCount_7 : am_fd mt_Mo_freeCount.1 7 = (.istore_n 2,1,2,0,0,0,.retAddr 0) := rfl
theorem fd_Mo_freeCount_8 : am_fd mt_Mo_freeCount.1 8 = (.iload_n 2,1,2,0,0,0,.retAddr 0) := rfl
theorem fd_Mo_freeCount_9 : am_fd mt_Mo_freeCount.1 9 = (.aload_n 0,1,0,0,0,0,.retAddr 0) := rfl
theorem fd_Mo_freeCount_10 : am_fd mt_Mo_freeCount.1 10 = (.getfield 121,3,1,0,12,12,.retAddr 0) := rfl
theorem fd_Mo_freeCount_13 : am_fd mt_Mo_freeCount.1 13 = (.if_icmp .ge 26,3,39,0,0,0,.retAddr 0) := rfl
theorem fd_Mo_freeCount_16 : am_fd mt_Mo_freeCount.1 16 = (.iload_n 1,1,1,0,0,0,.retAddr 0) := rfl
theorem fd_Mo_freeCount_17 : am_fd mt_Mo_freeCount.1 17 = (.aload_n 0,1,0,0,0,0,.retAddr 0) := rfl
theorem fd_Mo_freeCount_18 : am_fd mt_Mo_freeCount.1 18 = (.getfield 66,3,29,2,12,12,.retAddr 0) := rfl
theorem fd_Mo_freeCount_21 : am_fd mt_Mo_freeCount.1 21 = (.iload_n 2,1,2,0,0,0,.retAddr 0) := rfl
theorem fd_Mo_freeCount_22 : am_fd mt_Mo_freeCount.1 22 = (.baload,1,0,0,0,0,.retAddr 0) := rfl
theorem fd_Mo_freeCount_23 : am_fd mt_Mo_freeCount.1 23 = (.ifCond .eq 7,3,30,0,0,0,.retAddr 0) := rfl
theorem fd_Mo_freeCount_26 : am_fd mt_Mo_freeCount.1 26 = (.iconst 0,1,0,0,0,0,.int 0) := rfl
theorem fd_Mo_freeCount_27 : am_fd mt_Mo_freeCount.1 27 = (.goto 4,3,31,0,0,0,.retAddr 0) := rfl
theorem fd_Mo_freeCount_30 : am_fd mt_Mo_freeCount.1 30 = (.iconst 1,1,0,0,0,0,.int 1) := rfl
theorem fd_Mo_freeCount_31 : am_fd mt_Mo_freeCount.1 31 = (.iadd,1,0,0,0,0,.retAddr 0) := rfl
theorem fd_Mo_freeCount_32 : am_fd mt_Mo_freeCount.1 32 = (.istore_n 1,1,1,0,0,0,.retAddr 0) := rfl
theorem fd_Mo_freeCount_33 : am_fd mt_Mo_freeCount.1 33 = (.iinc 2 1,3,2,0,0,0,.int 1) := rfl
theorem fd_Mo_freeCount_36 : am_fd mt_Mo_freeCount.1 36 = (.goto (-28),3,8,0,0,0,.retAddr 0) := rfl
theorem fd_Mo_freeCount_39 : am_fd mt_Mo_freeCount.1 39 = (.iload_n 1,1,1,0,0,0,.retAddr 0) := rfl
theorem fd_Mo_freeCount_40 : am_fd mt_Mo_freeCount.1 40 = (.ireturn,1,0,0,0,0,.retAddr 0) := rfl
theorem fd_Mo_markUsed_0 : am_fd mt_Mo_markUsed.1 0 = (.iconst 0,1,0,0,0,0,.int 0) := rfl
theorem fd_Mo_markUsed_1 : am_fd mt_Mo_markUsed.1 1 = (.istore_n 1,1,1,0,0,0,.retAddr 0) := rfl
theorem fd_Mo_markUsed_2 : am_fd mt_Mo_markUsed.1 2 = (.iload_n 1,1,1,0,0,0,.retAddr 0) := rfl
theorem fd_Mo_markUsed_3 : am_fd mt_Mo_markUsed.1 3 = (.aload_n 0,1,0,0,0,0,.retAddr 0) := rfl
theorem fd_Mo_markUsed_4 : am_fd mt_Mo_markUsed.1 4 = (.getfield 121,3,1,0,12,12,.retAddr 0) := rfl
theorem fd_Mo_markUsed_7 : am_fd mt_Mo_markUsed.1 7 = (.if_icmp .ge 25,3,32,0,0,0,.retAddr 0) := rfl
theorem fd_Mo_markUsed_10 : am_fd mt_Mo_markUsed.1 10 = (.aload_n 0,1,0,0,0,0,.retAddr 0) := rfl
theorem fd_Mo_markUsed_11 : am_fd mt_Mo_markUsed.1 11 = (.getfield 66,3,29,2,12,12,.retAddr 0) := rfl
theorem fd_Mo_markUsed_14 : am_fd mt_Mo_markUsed.1 14 = (.iload_n 1,1,1,0,0,0,.retAddr 0) := rfl
theorem fd_Mo_markUsed_15 : am_fd mt_Mo_markUsed.1 15 = (.iload_n 1,1,1,0,0,0,.retAddr 0) := rfl
theorem fd_Mo_markUsed_16 : am_fd mt_Mo_markUsed.1 16 = (.iconst 2,1,0,0,0,0,.int 2) := rfl
theorem fd_Mo_markUsed_17 : am_fd mt_Mo_markUsed.1 17 = (.if_icmp .ge 7,3,24,0,0,0,.retAddr 0) := rfl
theorem fd_Mo_markUsed_20 : am_fd mt_Mo_markUsed.1 20 = (.iconst 1,1,0,0,0,0,.int 1) := rfl
theorem fd_Mo_markUsed_21 : am_fd mt_Mo_markUsed.1 21 = (.goto 4,3,25,0,0,0,.retAddr 0) := rfl
theorem fd_Mo_markUsed_24 : am_fd mt_Mo_markUsed.1 24 = (.iconst 0,1,0,0,0,0,.int 0) := rfl
theorem fd_Mo_markUsed_25 : am_fd mt_Mo_markUsed.1 25 = (.bastore,1,0,0,0,0,.retAddr 0) := rfl
theorem fd_Mo_markUsed_26 : am_fd mt_Mo_markUsed.1 26 = (.iinc 1 1,3,1,0,0,0,.int 1) := rfl
theorem fd_Mo_markUsed_29 : am_fd mt_Mo_markUsed.1 29 = (.goto (-27),3,2,0,0,0,.retAddr 0) := rfl
theorem fd_Mo_markUsed_32 : am_fd mt_Mo_markUsed.1 32 = (.iconst 0,1,0,0,0,0,.int 0) := rfl
theorem fd_Mo_markUsed_33 : am_fd mt_Mo_markUsed.1 33 = (.istore_n 1,1,1,0,0,0,.retAddr 0) := rfl
theorem fd_Mo_markUsed_34 : am_fd mt_Mo_markUsed.1 34 = (.iload_n 1,1,1,0,0,0,.retAddr 0) := rfl
theorem fd_Mo_markUsed_35 : am_fd mt_Mo_markUsed.1 35 = (.bipush 100,2,0,0,0,0,.int 100) := rfl
theorem fd_Mo_markUsed_37 : am_fd mt_Mo_markUsed.1 37 = (.if_icmp .ge 54,3,91,0,0,0,.retAddr 0) := rfl
theorem fd_Mo_markUsed_40 : am_fd mt_Mo_markUsed.1 40 = (.iconst 0,1,0,0,0,0,.int 0) := rfl
theorem fd_Mo_markUsed_41 : am_fd mt_Mo_markUsed.1 41 = (.istore_n 2,1,2,0,0,0,.retAddr 0) := rfl
theorem fd_Mo_markUsed_42 : am_fd mt_Mo_markUsed.1 42 = (.iload_n 2,1,2,0,0,0,.retAddr 0) := rfl
theorem fd_Mo_markUsed_43 : am_fd mt_Mo_markUsed.1 43 = (.aload_n 0,1,0,0,0,0,.retAddr 0) := rfl
theorem fd_Mo_markUsed_44 : am_fd mt_Mo_markUsed.1 44 = (.getfield 34,3,18,2,12,12,.retAddr 0) := rfl
theorem fd_Mo_markUsed_47 : am_fd mt_Mo_markUsed.1 47 = (.iload_n 1,1,1,0,0,0,.retAddr 0) := rfl
theorem fd_Mo_markUsed_48 : am_fd mt_Mo_markUsed.1 48 = (.iaload,1,0,0,0,0,.retAddr 0) := rfl
theorem fd_Mo_markUsed_49 : am_fd mt_Mo_markUsed.1 49 = (.if_icmp .ge 36,3,85,0,0,0,.retAddr 0) := rfl
theorem fd_Mo_markUsed_52 : am_fd mt_Mo_markUsed.1 52 = (.aload_n 0,1,0,0,0,0,.retAddr 0) := rfl
theorem fd_Mo_markUsed_53 : am_fd mt_Mo_markUsed.1 53 = (.getfield 25,3,15,2,12,12,.retAddr 0) := rfl
theorem fd_Mo_markUsed_56 : am_fd mt_Mo_markUsed.1 56 = (.iload_n 1,1,1,0,0,0,.retAddr 0) := rfl
theorem fd_Mo_markUsed_57 : am_fd mt_Mo_markUsed.1 57 = (.iaload,1,0,0,0,0,.retAddr 0) := rfl
theorem fd_Mo_markUsed_58 : am_fd mt_Mo_markUsed.1 58 = (.ifCond .le 27,3,85,0,0,0,.retAddr 0) := rfl
theorem fd_Mo_markUsed_61 : am_fd mt_Mo_markUsed.1 61 = (.aload_n 0,1,0,0,0,0,.retAddr 0) := rfl
theorem fd_Mo_markUsed_62 : am_fd mt_Mo_markUsed.1 62 = (.getfield 66,3,29,2,12,12,.retAddr 0) := rfl
theorem fd_Mo_markUsed_65 : am_fd mt_Mo_markUsed.1 65 = (.aload_n 0,1,0,0,0,0,.retAddr 0) := rfl
theorem fd_Mo_markUsed_66 : am_fd mt_Mo_markUsed.1 66 = (.getfield 41,3,20,2,12,12,.retAddr 0) := rfl
theorem fd_Mo_markUsed_69 : am_fd mt_Mo_markUsed.1 69 = (.sipush 1024,3,0,0,0,0,.int 1024) := rfl
theorem fd_Mo_markUsed_72 : am_fd mt_Mo_markUsed.1 72 = (.iload_n 1,1,1,0,0,0,.retAddr 0) := rfl
theorem fd_Mo_markUsed_73 : am_fd mt_Mo_markUsed.1 73 = (.imul,1,0,0,0,0,.retAddr 0) := rfl
theorem fd_Mo_markUsed_74 : am_fd mt_Mo_markUsed.1 74 = (.iload_n 2,1,2,0,0,0,.retAddr 0) := rfl
theorem fd_Mo_markUsed_75 : am_fd mt_Mo_markUsed.1 75 = (.iadd,1,0,0,0,0,.retAddr 0) := rfl
theorem fd_Mo_markUsed_76 : am_fd mt_Mo_markUsed.1 76 = (.iaload,1,0,0,0,0,.retAddr 0) := rfl
theorem fd_Mo_markUsed_77 : am_fd mt_Mo_markUsed.1 77 = (.iconst 1,1,0,0,0,0,.int 1) := rfl
theorem fd_Mo_markUsed_78 : am_fd mt_Mo_markUsed.1 78 = (.bastore,1,0,0,0,0,.retAddr 0) := rfl
theorem fd_Mo_markUsed_79 : am_fd mt_Mo_markUsed.1 79 = (.iinc 2 1,3,2,0,0,0,.int 1) := rfl
theorem fd_Mo_markUsed_82 : am_fd mt_Mo_markUsed.1 82 = (.goto (-40),3,42,0,0,0,.retAddr 0) := rfl
theorem fd_Mo_markUsed_85 : am_fd mt_Mo_markUsed.1 85 = (.iinc 1 1,3,1,0,0,0,.int 1) := rfl
theorem fd_Mo_markUsed_88 : am_fd mt_Mo_markUsed.1 88 = (.goto (-54),3,34,0,0,0,.retAddr 0) := rfl
theorem fd_Mo_markUsed_91 : am_fd mt_Mo_markUsed.1 91 = (.return_,1,0,0,0,0,.retAddr 0) := rfl
theorem fd_Mo_writeRun_0 : am_fd mt_Mo_writeRun.1 0 = (.aload_n 0,1,0,0,0,0,.retAddr 0) := rfl
theorem fd_Mo_writeRun_1 : am_fd mt_Mo_writeRun.1 1 = (.invokevirtual 204,3,154,1,12,0,.retAddr 0) := rfl
theorem fd_Mo_writeRun_4 : am_fd mt_Mo_writeRun.1 4 = (.istore_n 2,1,2,0,0,0,.retAddr 0) := rfl
theorem fd_Mo_writeRun_5 : am_fd mt_Mo_writeRun.1 5 = (.iload_n 2,1,2,0,0,0,.retAddr 0) := rfl
theorem fd_Mo_writeRun_6 : am_fd mt_Mo_writeRun.1 6 = (.aload_n 0,1,0,0,0,0,.retAddr 0) := rfl
theorem fd_Mo_writeRun_7 : am_fd mt_Mo_writeRun.1 7 = (.invokevirtual 208,3,159,1,12,0,.retAddr 0) := rfl
theorem fd_Mo_writeRun_10 : am_fd mt_Mo_writeRun.1 10 = (.if_icmp .le 5,3,15,0,0,0,.retAddr 0) := rfl
theorem fd_Mo_writeRun_13 : am_fd mt_Mo_writeRun.1 13 = (.iconst (-1),1,0,0,0,0,.int (-1)) := rfl
theorem fd_Mo_writeRun_14 : am_fd mt_Mo_writeRun.1 14 = (.ireturn,1,0,0,0,0,.retAddr 0) := rfl
theorem fd_Mo_writeRun_15 : am_fd mt_Mo_writeRun.1 15 = (.iconst 0,1,0,0,0,0,.int 0) := rfl
theorem fd_Mo_writeRun_16 : am_fd mt_Mo_writeRun.1 16 = (.istore_n 3,1,3,0,0,0,.retAddr 0) := rfl
theorem fd_Mo_writeRun_17 : am_fd mt_Mo_writeRun.1 17 = (.aload_n 0,1,0,0,0,0,.retAddr 0) := rfl
theorem fd_Mo_writeRun_18 : am_fd mt_Mo_writeRun.1 18 = (.getfield 25,3,15,2,12,12,.retAddr 0) := rfl
theorem fd_Mo_writeRun_21 : am_fd mt_Mo_writeRun.1 21 = (.iload_n 3,1,3,0,0,0,.retAddr 0) := rfl
theorem fd_Mo_writeRun_22 : am_fd mt_Mo_writeRun.1 22 = (.iaload,1,0,0,0,0,.retAddr 0) := rfl
theorem fd_Mo_writeRun_23 : am_fd mt_Mo_writeRun.1 23 = (.ifCond .le 9,3,32,0,0,0,.retAddr 0) := rfl
theorem fd_Mo_writeRun_26 : am_fd mt_Mo_writeRun.1 26 = (.iinc 3 1,3,3,0,0,0,.int 1) := rfl
theorem fd_Mo_writeRun_29 : am_fd mt_Mo_writeRun.1 29 = (.goto (-12),3,17,0,0,0,.retAddr 0) := rfl
theorem fd_Mo_writeRun_32 : am_fd mt_Mo_writeRun.1 32 = (.aload_n 0,1,0,0,0,0,.retAddr 0) := rfl
theorem fd_Mo_writeRun_33 : am_fd mt_Mo_writeRun.1 33 = (.getfield 28,3,16,2,12,12,.retAddr 0) := rfl
theorem fd_Mo_writeRun_36 : am_fd mt_Mo_writeRun.1 36 = (.iload_n 3,1,3,0,0,0,.retAddr 0) := rfl
theorem fd_Mo_writeRun_37 : am_fd mt_Mo_writeRun.1 37 = (.aload_n 0,1,0,0,0,0,.retAddr 0) := rfl
theorem fd_Mo_writeRun_38 : am_fd mt_Mo_writeRun.1 38 = (.getfield 128,3,5,0,12,12,.retAddr 0) := rfl
theorem fd_Mo_writeRun_41 : am_fd mt_Mo_writeRun.1 41 = (.iastore,1,0,0,0,0,.retAddr 0) := rfl
theorem fd_Mo_writeRun_42 : am_fd mt_Mo_writeRun.1 42 = (.aload_n 0,1,0,0,0,0,.retAddr 0) := rfl
theorem fd_Mo_writeRun_43 : am_fd mt_Mo_writeRun.1 43 = (.getfield 31,3,17,2,12,12,.retAddr 0) := rfl
theorem fd_Mo_writeRun_46 : am_fd mt_Mo_writeRun.1 46 = (.iload_n 3,1,3,0,0,0,.retAddr 0) := rfl
theorem fd_Mo_writeRun_47 : am_fd mt_Mo_writeRun.1 47 = (.iload_n 1,1,1,0,0,0,.retAddr 0) := rfl
theorem fd_Mo_writeRun_48 : am_fd mt_Mo_writeRun.1 48 = (.iastore,1,0,0,0,0,.retAddr 0) := rfl
theorem fd_Mo_writeRun_49 : am_fd mt_Mo_writeRun.1 49 = (.aload_n 0,1,0,0,0,0,.retAddr 0) := rfl
theorem fd_Mo_writeRun_50 : am_fd mt_Mo_writeRun.1 50 = (.getfield 34,3,18,2,12,12,.retAddr 0) := rfl
theorem fd_Mo_writeRun_53 : am_fd mt_Mo_writeRun.1 53 = (.iload_n 3,1,3,0,0,0,.retAddr 0) := rfl
theorem fd_Mo_writeRun_54 : am_fd mt_Mo_writeRun.1 54 = (.iload_n 2,1,2,0,0,0,.retAddr 0) := rfl
theorem fd_Mo_writeRun_55 : am_fd mt_Mo_writeRun.1 55 = (.iastore,1,0,0,0,0,.retAddr 0) := rfl
theorem fd_Mo_writeRun_56 : am_fd mt_Mo_writeRun.1 56 = (.aload_n 0,1,0,0,0,0,.retAddr 0) := rfl
theorem fd_Mo_writeRun_57 : am_fd mt_Mo_writeRun.1 57 = (.getfield 37,3,19,2,12,12,.retAddr 0) := rfl
theorem fd_Mo_writeRun_60 : am_fd mt_Mo_writeRun.1 60 = (.iload_n 3,1,3,0,0,0,.retAddr 0) := rfl
theorem fd_Mo_writeRun_61 : am_fd mt_Mo_writeRun.1 61 = (.aload_n 0,1,0,0,0,0,.retAddr 0) := rfl
theorem fd_Mo_writeRun_62 : am_fd mt_Mo_writeRun.1 62 = (.getfield 197,3,31,0,12,12,.retAddr 0) := rfl
theorem fd_Mo_writeRun_65 : am_fd mt_Mo_writeRun.1 65 = (.iastore,1,0,0,0,0,.retAddr 0) := rfl
theorem fd_Mo_writeRun_66 : am_fd mt_Mo_writeRun.1 66 = (.iconst 2,1,0,0,0,0,.int 2) := rfl
theorem fd_Mo_writeRun_67 : am_fd mt_Mo_writeRun.1 67 = (.istore 4,2,4,0,0,0,.retAddr 0) := rfl
theorem fd_Mo_writeRun_69 : am_fd mt_Mo_writeRun.1 69 = (.iconst 0,1,0,0,0,0,.int 0) := rfl
theorem fd_Mo_writeRun_70 : am_fd mt_Mo_writeRun.1 70 = (.istore 5,2,5,0,0,0,.retAddr 0) := rfl
theorem fd_Mo_writeRun_72 : am_fd mt_Mo_writeRun.1 72 = (.iload 5,2,5,0,0,0,.retAddr 0) := rfl
theorem fd_Mo_writeRun_74 : am_fd mt_Mo_writeRun.1 74 = (.iload_n 2,1,2,0,0,0,.retAddr 0) := rfl
theorem fd_Mo_writeRun_75 : am_fd mt_Mo_writeRun.1 75 = (.if_icmp .ge 43,3,118,0,0,0,.retAddr 0) := rfl
theorem fd_Mo_writeRun_78 : am_fd mt_Mo_writeRun.1 78 = (.aload_n 0,1,0,0,0,0,.retAddr 0) := rfl
theorem fd_Mo_writeRun_79 : am_fd mt_Mo_writeRun.1 79 = (.getfield 66,3,29,2,12,12,.retAddr 0) := rfl
theorem fd_Mo_writeRun_82 : am_fd mt_Mo_writeRun.1 82 = (.iload 4,2,4,0,0,0,.retAddr 0) := rfl
theorem fd_Mo_writeRun_84 : am_fd mt_Mo_writeRun.1 84 = (.baload,1,0,0,0,0,.retAddr 0) := rfl
theorem fd_Mo_writeRun_85 : am_fd mt_Mo_writeRun.1 85 = (.ifCond .eq 9,3,94,0,0,0,.retAddr 0) := rfl
theorem fd_Mo_writeRun_88 : am_fd mt_Mo_writeRun.1 88 = (.iinc 4 1,3,4,0,0,0,.int 1) := rfl
theorem fd_Mo_writeRun_91 : am_fd mt_Mo_writeRun.1 91 = (.goto (-13),3,78,0,0,0,.retAddr 0) := rfl
theorem fd_Mo_writeRun_94 : am_fd mt_Mo_writeRun.1 94 = (.aload_n 0,1,0,0,0,0,.retAddr 0) := rfl
theorem fd_Mo_writeRun_95 : am_fd mt_Mo_writeRun.1 95 = (.getfield 41,3,20,2,12,12,.retAddr 0) := rfl
theorem fd_Mo_writeRun_98 : am_fd mt_Mo_writeRun.1 98 = (.sipush 1024,3,0,0,0,0,.int 1024) := rfl
theorem fd_Mo_writeRun_101 : am_fd mt_Mo_writeRun.1 101 = (.iload_n 3,1,3,0,0,0,.retAddr 0) := rfl
theorem fd_Mo_writeRun_102 : am_fd mt_Mo_writeRun.1 102 = (.imul,1,0,0,0,0,.retAddr 0) := rfl
theorem fd_Mo_writeRun_103 : am_fd mt_Mo_writeRun.1 103 = (.iload 5,2,5,0,0,0,.retAddr 0) := rfl
theorem fd_Mo_writeRun_105 : am_fd mt_Mo_writeRun.1 105 = (.iadd,1,0,0,0,0,.retAddr 0) := rfl
theorem fd_Mo_writeRun_106 : am_fd mt_Mo_writeRun.1 106 = (.iload 4,2,4,0,0,0,.retAddr 0) := rfl
theorem fd_Mo_writeRun_108 : am_fd mt_Mo_writeRun.1 108 = (.iastore,1,0,0,0,0,.retAddr 0) := rfl
theorem fd_Mo_writeRun_109 : am_fd mt_Mo_writeRun.1 109 = (.iinc 4 1,3,4,0,0,0,.int 1) := rfl
theorem fd_Mo_writeRun_112 : am_fd mt_Mo_writeRun.1 112 = (.iinc 5 1,3,5,0,0,0,.int 1) := rfl
theorem fd_Mo_writeRun_115 : am_fd mt_Mo_writeRun.1 115 = (.goto (-43),3,72,0,0,0,.retAddr 0) := rfl
theorem fd_Mo_writeRun_118 : am_fd mt_Mo_writeRun.1 118 = (.iconst 0,1,0,0,0,0,.int 0) := rfl
theorem fd_Mo_writeRun_119 : am_fd mt_Mo_writeRun.1 119 = (.istore 5,2,5,0,0,0,.retAddr 0) := rfl
theorem fd_Mo_writeRun_121 : am_fd mt_Mo_writeRun.1 121 = (.iconst 0,1,0,0,0,0,.int 0) := rfl
theorem fd_Mo_writeRun_122 : am_fd mt_Mo_writeRun.1 122 = (.istore 6,2,6,0,0,0,.retAddr 0) := rfl
theorem fd_Mo_writeRun_124 : am_fd mt_Mo_writeRun.1 124 = (.iload 6,2,6,0,0,0,.retAddr 0) := rfl
theorem fd_Mo_writeRun_126 : am_fd mt_Mo_writeRun.1 126 = (.iload_n 2,1,2,0,0,0,.retAddr 0) := rfl
theorem fd_Mo_writeRun_127 : am_fd mt_Mo_writeRun.1 127 = (.if_icmp .ge 179,3,306,0,0,0,.retAddr 0) := rfl
theorem fd_Mo_writeRun_130 : am_fd mt_Mo_writeRun.1 130 = (.aload_n 0,1,0,0,0,0,.retAddr 0) := rfl
theorem fd_Mo_writeRun_131 : am_fd mt_Mo_writeRun.1 131 = (.invokevirtual 171,3,133,1,12,0,.retAddr 0) := rfl
theorem fd_Mo_writeRun_134 : am_fd mt_Mo_writeRun.1 134 = (.aload_n 0,1,0,0,0,0,.retAddr 0) := rfl
theorem fd_Mo_writeRun_135 : am_fd mt_Mo_writeRun.1 135 = (.iconst 0,1,0,0,0,0,.int 0) := rfl
theorem fd_Mo_writeRun_136 : am_fd mt_Mo_writeRun.1 136 = (.aload_n 0,1,0,0,0,0,.retAddr 0) := rfl
theorem fd_Mo_writeRun_137 : am_fd mt_Mo_writeRun.1 137 = (.getfield 128,3,5,0,12,12,.retAddr 0) := rfl
theorem fd_Mo_writeRun_140 : am_fd mt_Mo_writeRun.1 140 = (.invokevirtual 174,3,134,3,12,0,.retAddr 0) := rfl
theorem fd_Mo_writeRun_143 : am_fd mt_Mo_writeRun.1 143 = (.istore 7,2,7,0,0,0,.retAddr 0) := rfl
theorem fd_Mo_writeRun_145 : am_fd mt_Mo_writeRun.1 145 = (.aload_n 0,1,0,0,0,0,.retAddr 0) := rfl
theorem fd_Mo_writeRun_146 : am_fd mt_Mo_writeRun.1 146 = (.iload 7,2,7,0,0,0,.retAddr 0) := rfl
theorem fd_Mo_writeRun_148 : am_fd mt_Mo_writeRun.1 148 = (.iload 6,2,6,0,0,0,.retAddr 0) := rfl
theorem fd_Mo_writeRun_150 : am_fd mt_Mo_writeRun.1 150 = (.iconst 1,1,0,0,0,0,.int 1) := rfl
theorem fd_Mo_writeRun_151 : am_fd mt_Mo_writeRun.1 151 = (.iadd,1,0,0,0,0,.retAddr 0) := rfl
theorem fd_Mo_writeRun_152 : am_fd mt_Mo_writeRun.1 152 = (.iload_n 2,1,2,0,0,0,.retAddr 0) := rfl
theorem fd_Mo_writeRun_153 : am_fd mt_Mo_writeRun.1 153 = (.if_icmp .ge 21,3,174,0,0,0,.retAddr 0) := rfl
theorem fd_Mo_writeRun_156 : am_fd mt_Mo_writeRun.1 156 = (.aload_n 0,1,0,0,0,0,.retAddr 0) := rfl
theorem fd_Mo_writeRun_157 : am_fd mt_Mo_writeRun.1 157 = (.getfield 41,3,20,2,12,12,.retAddr 0) := rfl
theorem fd_Mo_writeRun_160 : am_fd mt_Mo_writeRun.1 160 = (.sipush 1024,3,0,0,0,0,.int 1024) := rfl
theorem fd_Mo_writeRun_163 : am_fd mt_Mo_writeRun.1 163 = (.iload_n 3,1,3,0,0,0,.retAddr 0) := rfl
theorem fd_Mo_writeRun_164 : am_fd mt_Mo_writeRun.1 164 = (.imul,1,0,0,0,0,.retAddr 0) := rfl
theorem fd_Mo_writeRun_165 : am_fd mt_Mo_writeRun.1 165 = (.iload 6,2,6,0,0,0,.retAddr 0) := rfl
theorem fd_Mo_writeRun_167 : am_fd mt_Mo_writeRun.1 167 = (.iadd,1,0,0,0,0,.retAddr 0) := rfl
theorem fd_Mo_writeRun_168 : am_fd mt_Mo_writeRun.1 168 = (.iconst 1,1,0,0,0,0,.int 1) := rfl
theorem fd_Mo_writeRun_169 : am_fd mt_Mo_writeRun.1 169 = (.iadd,1,0,0,0,0,.retAddr 0) := rfl
theorem fd_Mo_writeRun_170 : am_fd mt_Mo_writeRun.1 170 = (.iaload,1,0,0,0,0,.retAddr 0) := rfl
theorem fd_Mo_writeRun_171 : am_fd mt_Mo_writeRun.1 171 = (.goto 4,3,175,0,0,0,.retAddr 0) := rfl
theorem fd_Mo_writeRun_174 : am_fd mt_Mo_writeRun.1 174 = (.iconst 0,1,0,0,0,0,.int 0) := rfl
theorem fd_Mo_writeRun_175 : am_fd mt_Mo_writeRun.1 175 = (.invokevirtual 174,3,134,3,12,0,.retAddr 0) := rfl
theorem fd_Mo_writeRun_178 : am_fd mt_Mo_writeRun.1 178 = (.istore 7,2,7,0,0,0,.retAddr 0) := rfl
theorem fd_Mo_writeRun_180 : am_fd mt_Mo_writeRun.1 180 = (.iinc 7 1,3,7,0,0,0,.int 1) := rfl
theorem fd_Mo_writeRun_183 : am_fd mt_Mo_writeRun.1 183 = (.iconst 0,1,0,0,0,0,.int 0) := rfl
theorem fd_Mo_writeRun_184 : am_fd mt_Mo_writeRun.1 184 = (.istore 8,2,8,0,0,0,.retAddr 0) := rfl
theorem fd_Mo_writeRun_186 : am_fd mt_Mo_writeRun.1 186 = (.aload_n 0,1,0,0,0,0,.retAddr 0) := rfl
theorem fd_Mo_writeRun_187 : am_fd mt_Mo_writeRun.1 187 = (.getfield 44,3,21,2,12,12,.retAddr 0) := rfl
theorem fd_Mo_writeRun_190 : am_fd mt_Mo_writeRun.1 190 = (.sipush 1024,3,0,0,0,0,.int 1024) := rfl
theorem fd_Mo_writeRun_193 : am_fd mt_Mo_writeRun.1 193 = (.iload_n 3,1,3,0,0,0,.retAddr 0) := rfl
theorem fd_Mo_writeRun_194 : am_fd mt_Mo_writeRun.1 194 = (.imul,1,0,0,0,0,.retAddr 0) := rfl
theorem fd_Mo_writeRun_195 : am_fd mt_Mo_writeRun.1 195 = (.iload 6,2,6,0,0,0,.retAddr 0) := rfl
theorem fd_Mo_writeRun_197 : am_fd mt_Mo_writeRun.1 197 = (.iadd,1,0,0,0,0,.retAddr 0) := rfl
theorem fd_Mo_writeRun_198 : am_fd mt_Mo_writeRun.1 198 = (.aload_n 0,1,0,0,0,0,.retAddr 0) := rfl
theorem fd_Mo_writeRun_199 : am_fd mt_Mo_writeRun.1 199 = (.getfield 73,3,32,2,12,12,.retAddr 0) := rfl
theorem fd_Mo_writeRun_202 : am_fd mt_Mo_writeRun.1 202 = (.iload 5,2,5,0,0,0,.retAddr 0) := rfl
theorem fd_Mo_writeRun_204 : am_fd mt_Mo_writeRun.1 204 = (.laload,1,0,0,0,0,.retAddr 0) := rfl
theorem fd_Mo_writeRun_205 : am_fd mt_Mo_writeRun.1 205 = (.lastore,1,0,0,0,0,.retAddr 0) := rfl
theorem fd_Mo_writeRun_206 : am_fd mt_Mo_writeRun.1 206 = (.iload 5,2,5,0,0,0,.retAddr 0) := rfl
theorem fd_Mo_writeRun_208 : am_fd mt_Mo_writeRun.1 208 = (.aload_n 0,1,0,0,0,0,.retAddr 0) := rfl
theorem fd_Mo_writeRun_209 : am_fd mt_Mo_writeRun.1 209 = (.getfield 197,3,31,0,12,12,.retAddr 0) := rfl
theorem fd_Mo_writeRun_212 : am_fd mt_Mo_writeRun.1 212 = (.if_icmp .ge 56,3,268,0,0,0,.retAddr 0) := rfl
theorem fd_Mo_writeRun_215 : am_fd mt_Mo_writeRun.1 215 = (.iload 7,2,7,0,0,0,.retAddr 0) := rfl
theorem fd_Mo_writeRun_217 : am_fd mt_Mo_writeRun.1 217 = (.aload_n 0,1,0,0,0,0,.retAddr 0) := rfl
theorem fd_Mo_writeRun_218 : am_fd mt_Mo_writeRun.1 218 = (.iload 5,2,5,0,0,0,.retAddr 0) := rfl
theorem fd_Mo_writeRun_220 : am_fd mt_Mo_writeRun.1 220 = (.iload 8,2,8,0,0,0,.retAddr 0) := rfl
theorem fd_Mo_writeRun_222 : am_fd mt_Mo_writeRun.1 222 = (.ifCond .ne 7,3,229,0,0,0,.retAddr 0) := rfl
theorem fd_Mo_writeRun_225 : am_fd mt_Mo_writeRun.1 225 = (.iconst 1,1,0,0,0,0,.int 1) := rfl
theorem fd_Mo_writeRun_226 : am_fd mt_Mo_writeRun.1 226 = (.goto 4,3,230,0,0,0,.retAddr 0) := rfl
theorem fd_Mo_writeRun_229 : am_fd mt_Mo_writeRun.1 229 = (.iconst 0,1,0,0,0,0,.int 0) := rfl
theorem fd_Mo_writeRun_230 : am_fd mt_Mo_writeRun.1 230 = (.invokevirtual 200,3,155,3,12,0,.retAddr 0) := rfl
theorem fd_Mo_writeRun_233 : am_fd mt_Mo_writeRun.1 233 = (.iadd,1,0,0,0,0,.retAddr 0) := rfl
theorem fd_Mo_writeRun_234 : am_fd mt_Mo_writeRun.1 234 = (.bipush 120,2,0,0,0,0,.int 120) := rfl
theorem fd_Mo_writeRun_236 : am_fd mt_Mo_writeRun.1 236 = (.if_icmp .gt 32,3,268,0,0,0,.retAddr 0) := rfl
theorem fd_Mo_writeRun_239 : am_fd mt_Mo_writeRun.1 239 = (.aload_n 0,1,0,0,0,0,.retAddr 0) := rfl
theorem fd_Mo_writeRun_240 : am_fd mt_Mo_writeRun.1 240 = (.iload 7,2,7,0,0,0,.retAddr 0) := rfl
theorem fd_Mo_writeRun_242 : am_fd mt_Mo_writeRun.1 242 = (.iload 5,2,5,0,0,0,.retAddr 0) := rfl
theorem fd_Mo_writeRun_244 : am_fd mt_Mo_writeRun.1 244 = (.iload 8,2,8,0,0,0,.retAddr 0) := rfl
theorem fd_Mo_writeRun_246 : am_fd mt_Mo_writeRun.1 246 = (.ifCond .ne 7,3,253,0,0,0,.retAddr 0) := rfl
theorem fd_Mo_writeRun_249 : am_fd mt_Mo_writeRun.1 249 = (.iconst 1,1,0,0,0,0,.int 1) := rfl
theorem fd_Mo_writeRun_250 : am_fd mt_Mo_writeRun.1 250 = (.goto 4,3,254,0,0,0,.retAddr 0) := rfl
theorem fd_Mo_writeRun_253 : am_fd mt_Mo_writeRun.1 253 = (.iconst 0,1,0,0,0,0,.int 0) := rfl
theorem fd_Mo_writeRun_254 : am_fd mt_Mo_writeRun.1 254 = (.invokevirtual 211,3,162,4,12,0,.retAddr 0) := rfl
theorem fd_Mo_writeRun_257 : am_fd mt_Mo_writeRun.1 257 = (.istore 7,2,7,0,0,0,.retAddr 0) := rfl
theorem fd_Mo_writeRun_259 : am_fd mt_Mo_writeRun.1 259 = (.iinc 8 1,3,8,0,0,0,.int 1) := rfl
theorem fd_Mo_writeRun_262 : am_fd mt_Mo_writeRun.1 262 = (.iinc 5 1,3,5,0,0,0,.int 1) := rfl
theorem fd_Mo_writeRun_265 : am_fd mt_Mo_writeRun.1 265 = (.goto (-59),3,206,0,0,0,.retAddr 0) := rfl
theorem fd_Mo_writeRun_268 : am_fd mt_Mo_writeRun.1 268 = (.aload_n 0,1,0,0,0,0,.retAddr 0) := rfl
theorem fd_Mo_writeRun_269 : am_fd mt_Mo_writeRun.1 269 = (.getfield 69,3,30,2,12,12,.retAddr 0) := rfl
theorem fd_Mo_writeRun_272 : am_fd mt_Mo_writeRun.1 272 = (.iconst 4,1,0,0,0,0,.int 4) := rfl
theorem fd_Mo_writeRun_273 : am_fd mt_Mo_writeRun.1 273 = (.iload 8,2,8,0,0,0,.retAddr 0) := rfl
theorem fd_Mo_writeRun_275 : am_fd mt_Mo_writeRun.1 275 = (.i2b,1,0,0,0,0,.retAddr 0) := rfl
theorem fd_Mo_writeRun_276 : am_fd mt_Mo_writeRun.1 276 = (.bastore,1,0,0,0,0,.retAddr 0) := rfl
theorem fd_Mo_writeRun_277 : am_fd mt_Mo_writeRun.1 277 = (.aload_n 0,1,0,0,0,0,.retAddr 0) := rfl
theorem fd_Mo_writeRun_278 : am_fd mt_Mo_writeRun.1 278 = (.aload_n 0,1,0,0,0,0,.retAddr 0) := rfl
theorem fd_Mo_writeRun_279 : am_fd mt_Mo_writeRun.1 279 = (.getfield 41,3,20,2,12,12,.retAddr 0) := rfl
theorem fd_Mo_writeRun_282 : am_fd mt_Mo_writeRun.1 282 = (.sipush 1024,3,0,0,0,0,.int 1024) := rfl
theorem fd_Mo_writeRun_285 : am_fd mt_Mo_writeRun.1 285 = (.iload_n 3,1,3,0,0,0,.retAddr 0) := rfl
theorem fd_Mo_writeRun_286 : am_fd mt_Mo_writeRun.1 286 = (.imul,1,0,0,0,0,.retAddr 0) := rfl
theorem fd_Mo_writeRun_287 : am_fd mt_Mo_writeRun.1 287 = (.iload 6,2,6,0,0,0,.retAddr 0) := rfl
theorem fd_Mo_writeRun_289 : am_fd mt_Mo_writeRun.1 289 = (.iadd,1,0,0,0,0,.retAddr 0) := rfl
theorem fd_Mo_writeRun_290 : am_fd mt_Mo_writeRun.1 290 = (.iaload,1,0,0,0,0,.retAddr 0) := rfl
theorem fd_Mo_writeRun_291 : am_fd mt_Mo_writeRun.1 291 = (.invokevirtual 134,3,135,2,12,0,.retAddr 0) := rfl
theorem fd_Mo_writeRun_294 : am_fd mt_Mo_writeRun.1 294 = (.ifCond .ne 6,3,300,0,0,0,.retAddr 0) := rfl
theorem fd_Mo_writeRun_297 : am_fd mt_Mo_writeRun.1 297 = (.bipush (-2),2,0,0,0,0,.int (-2)) := rfl
theorem fd_Mo_writeRun_299 : am_fd mt_Mo_writeRun.1 299 = (.ireturn,1,0,0,0,0,.retAddr 0) := rfl
theorem fd_Mo_writeRun_300 : am_fd mt_Mo_writeRun.1 300 = (.iinc 6 1,3,6,0,0,0,.int 1) := rfl
theorem fd_Mo_writeRun_303 : am_fd mt_Mo_writeRun.1 303 = (.goto (-179),3,124,0,0,0,.retAddr 0) := rfl
theorem fd_Mo_writeRun_306 : am_fd mt_Mo_writeRun.1 306 = (.aload_n 0,1,0,0,0,0,.retAddr 0) := rfl
theorem fd_Mo_writeRun_307 : am_fd mt_Mo_writeRun.1 307 = (.getfield 47,3,22,2,12,12,.retAddr 0) := rfl
theorem fd_Mo_writeRun_310 : am_fd mt_Mo_writeRun.1 310 = (.iload_n 3,1,3,0,0,0,.retAddr 0) := rfl
theorem fd_Mo_writeRun_311 : am_fd mt_Mo_writeRun.1 311 = (.aload_n 0,1,0,0,0,0,.retAddr 0) := rfl
theorem fd_Mo_writeRun_312 : am_fd mt_Mo_writeRun.1 312 = (.getfield 73,3,32,2,12,12,.retAddr 0) := rfl
theorem fd_Mo_writeRun_315 : am_fd mt_Mo_writeRun.1 315 = (.aload_n 0,1,0,0,0,0,.retAddr 0) := rfl
theorem fd_Mo_writeRun_316 : am_fd mt_Mo_writeRun.1 316 = (.getfield 197,3,31,0,12,12,.retAddr 0) := rfl
theorem fd_Mo_writeRun_319 : am_fd mt_Mo_writeRun.1 319 = (.iconst 1,1,0,0,0,0,.int 1) := rfl
theorem fd_Mo_writeRun_320 : am_fd mt_Mo_writeRun.1 320 = (.isub,1,0,0,0,0,.retAddr 0) := rfl
theorem fd_Mo_writeRun_321 : am_fd mt_Mo_writeRun.1 321 = (.laload,1,0,0,0,0,.retAddr 0) := rfl
theorem fd_Mo_writeRun_322 : am_fd mt_Mo_writeRun.1 322 = (.lastore,1,0,0,0,0,.retAddr 0) := rfl
theorem fd_Mo_writeRun_323 : am_fd mt_Mo_writeRun.1 323 = (.aload_n 0,1,0,0,0,0,.retAddr 0) := rfl
theorem fd_Mo_writeRun_324 : am_fd mt_Mo_writeRun.1 324 = (.iload_n 3,1,3,0,0,0,.retAddr 0) := rfl
theorem fd_Mo_writeRun_325 : am_fd mt_Mo_writeRun.1 325 = (.invokevirtual 215,3,163,2,12,0,.retAddr 0) := rfl
theorem fd_Mo_writeRun_328 : am_fd mt_Mo_writeRun.1 328 = (.iconst 0,1,0,0,0,0,.int 0) := rfl
theorem fd_Mo_writeRun_329 : am_fd mt_Mo_writeRun.1 329 = (.istore 6,2,6,0,0,0,.retAddr 0) := rfl
theorem fd_Mo_writeRun_331 : am_fd mt_Mo_writeRun.1 331 = (.iload 6,2,6,0,0,0,.retAddr 0) := rfl
theorem fd_Mo_writeRun_333 : am_fd mt_Mo_writeRun.1 333 = (.aload_n 0,1,0,0,0,0,.retAddr 0) := rfl
theorem fd_Mo_writeRun_334 : am_fd mt_Mo_writeRun.1 334 = (.getfield 197,3,31,0,12,12,.retAddr 0) := rfl
theorem fd_Mo_writeRun_337 : am_fd mt_Mo_writeRun.1 337 = (.if_icmp .ge 21,3,358,0,0,0,.retAddr 0) := rfl
theorem fd_Mo_writeRun_340 : am_fd mt_Mo_writeRun.1 340 = (.aload_n 0,1,0,0,0,0,.retAddr 0) := rfl
theorem fd_Mo_writeRun_341 : am_fd mt_Mo_writeRun.1 341 = (.iload_n 3,1,3,0,0,0,.retAddr 0) := rfl
theorem fd_Mo_writeRun_342 : am_fd mt_Mo_writeRun.1 342 = (.aload_n 0,1,0,0,0,0,.retAddr 0) := rfl
theorem fd_Mo_writeRun_343 : am_fd mt_Mo_writeRun.1 343 = (.getfield 73,3,32,2,12,12,.retAddr 0) := rfl
theorem fd_Mo_writeRun_346 : am_fd mt_Mo_writeRun.1 346 = (.iload 6,2,6,0,0,0,.retAddr 0) := rfl
theorem fd_Mo_writeRun_348 : am_fd mt_Mo_writeRun.1 348 = (.laload,1,0,0,0,0,.retAddr 0) := rfl
theorem fd_Mo_writeRun_349 : am_fd mt_Mo_writeRun.1 349 = (.invokevirtual 219,3,164,3,12,0,.retAddr 0) := rfl
theorem fd_Mo_writeRun_352 : am_fd mt_Mo_writeRun.1 352 = (.iinc 6 1,3,6,0,0,0,.int 1) := rfl
theorem fd_Mo_writeRun_355 : am_fd mt_Mo_writeRun.1 355 = (.goto (-24),3,331,0,0,0,.retAddr 0) := rfl
theorem fd_Mo_writeRun_358 : am_fd mt_Mo_writeRun.1 358 = (.iload_n 3,1,3,0,0,0,.retAddr 0) := rfl
theorem fd_Mo_writeRun_359 : am_fd mt_Mo_writeRun.1 359 = (.ireturn,1,0,0,0,0,.retAddr 0) := rfl
theorem fd_Mo_layEntry_0 : am_fd mt_Mo_layEntry.1 0 = (.iload_n 1,1,1,0,0,0,.retAddr 0) := rfl
theorem fd_Mo_layEntry_1 : am_fd mt_Mo_layEntry.1 1 = (.istore 4,2,4,0,0,0,.retAddr 0) := rfl
theorem fd_Mo_layEntry_3 : am_fd mt_Mo_layEntry.1 3 = (.iload_n 3,1,3,0,0,0,.retAddr 0) := rfl
theorem fd_Mo_layEntry_4 : am_fd mt_Mo_layEntry.1 4 = (.ifCond .eq 7,3,11,0,0,0,.retAddr 0) := rfl
theorem fd_Mo_layEntry_7 : am_fd mt_Mo_layEntry.1 7 = (.iconst 0,1,0,0,0,0,.int 0) := rfl
theorem fd_Mo_layEntry_8 : am_fd mt_Mo_layEntry.1 8 = (.goto 20,3,28,0,0,0,.retAddr 0) := rfl
theorem fd_Mo_layEntry_11 : am_fd mt_Mo_layEntry.1 11 = (.aload_n 0,1,0,0,0,0,.retAddr 0) := rfl
theorem fd_Mo_layEntry_12 : am_fd mt_Mo_layEntry.1 12 = (.getfield 73,3,32,2,12,12,.retAddr 0) := rfl
theorem fd_Mo_layEntry_15 : am_fd mt_Mo_layEntry.1 15 = (.iload_n 2,1,2,0,0,0,.retAddr 0) := rfl
theorem fd_Mo_layEntry_16 : am_fd mt_Mo_layEntry.1 16 = (.iconst 1,1,0,0,0,0,.int 1) := rfl
theorem fd_Mo_layEntry_17 : am_fd mt_Mo_layEntry.1 17 = (.isub,1,0,0,0,0,.retAddr 0) := rfl
theorem fd_Mo_layEntry_18 : am_fd mt_Mo_layEntry.1 18 = (.laload,1,0,0,0,0,.retAddr 0) := rfl
theorem fd_Mo_layEntry_19 : am_fd mt_Mo_layEntry.1 19 = (.aload_n 0,1,0,0,0,0,.retAddr 0) := rfl
theorem fd_Mo_layEntry_20 : am_fd mt_Mo_layEntry.1 20 = (.getfield 73,3,32,2,12,12,.retAddr 0) := rfl
theorem fd_Mo_layEntry_23 : am_fd mt_Mo_layEntry.1 23 = (.iload_n 2,1,2,0,0,0,.retAddr 0) := rfl
theorem fd_Mo_layEntry_24 : am_fd mt_Mo_layEntry.1 24 = (.laload,1,0,0,0,0,.retAddr 0) := rfl
theorem fd_Mo_layEntry_25 : am_fd mt_Mo_layEntry.1 25 = (.invokestatic 189,3,156,2,0,0,.retAddr 0) := rfl
theorem fd_Mo_layEntry_28 : am_fd mt_Mo_layEntry.1 28 = (.istore 5,2,5,0,0,0,.retAddr 0) := rfl
theorem fd_Mo_layEntry_30 : am_fd mt_Mo_layEntry.1 30 = (.aload_n 0,1,0,0,0,0,.retAddr 0) := rfl
theorem fd_Mo_layEntry_31 : am_fd mt_Mo_layEntry.1 31 = (.getfield 69,3,30,2,12,12,.retAddr 0) := rfl
theorem fd_Mo_layEntry_34 : am_fd mt_Mo_layEntry.1 34 = (.iload 4,2,4,0,0,0,.retAddr 0) := rfl
theorem fd_Mo_layEntry_36 : am_fd mt_Mo_layEntry.1 36 = (.iload 5,2,5,0,0,0,.retAddr 0) := rfl
theorem fd_Mo_layEntry_38 : am_fd mt_Mo_layEntry.1 38 = (.i2b,1,0,0,0,0,.retAddr 0) := rfl
theorem fd_Mo_layEntry_39 : am_fd mt_Mo_layEntry.1 39 = (.bastore,1,0,0,0,0,.retAddr 0) := rfl
theorem fd_Mo_layEntry_40 : am_fd mt_Mo_layEntry.1 40 = (.iinc 4 1,3,4,0,0,0,.int 1) := rfl
theorem fd_Mo_layEntry_43 : am_fd mt_Mo_layEntry.1 43 = (.iload 5,2,5,0,0,0,.retAddr 0) := rfl
theorem fd_Mo_layEntry_45 : am_fd mt_Mo_layEntry.1 45 = (.istore 6,2,6,0,0,0,.retAddr 0) := rfl
theorem fd_Mo_layEntry_47 : am_fd mt_Mo_layEntry.1 47 = (.iload 6,2,6,0,0,0,.retAddr 0) := rfl
theorem fd_Mo_layEntry_49 : am_fd mt_Mo_layEntry.1 49 = (.bipush 8,2,0,0,0,0,.int 8) := rfl
theorem fd_Mo_layEntry_51 : am_fd mt_Mo_layEntry.1 51 = (.if_icmp .ge 31,3,82,0,0,0,.retAddr 0) := rfl
theorem fd_Mo_layEntry_54 : am_fd mt_Mo_layEntry.1 54 = (.aload_n 0,1,0,0,0,0,.retAddr 0) := rfl
theorem fd_Mo_layEntry_55 : am_fd mt_Mo_layEntry.1 55 = (.getfield 69,3,30,2,12,12,.retAddr 0) := rfl
theorem fd_Mo_layEntry_58 : am_fd mt_Mo_layEntry.1 58 = (.iload 4,2,4,0,0,0,.retAddr 0) := rfl
theorem fd_Mo_layEntry_60 : am_fd mt_Mo_layEntry.1 60 = (.aload_n 0,1,0,0,0,0,.retAddr 0) := rfl
theorem fd_Mo_layEntry_61 : am_fd mt_Mo_layEntry.1 61 = (.getfield 73,3,32,2,12,12,.retAddr 0) := rfl
theorem fd_Mo_layEntry_64 : am_fd mt_Mo_layEntry.1 64 = (.iload_n 2,1,2,0,0,0,.retAddr 0) := rfl
theorem fd_Mo_layEntry_65 : am_fd mt_Mo_layEntry.1 65 = (.laload,1,0,0,0,0,.retAddr 0) := rfl
theorem fd_Mo_layEntry_66 : am_fd mt_Mo_layEntry.1 66 = (.iload 6,2,6,0,0,0,.retAddr 0) := rfl
theorem fd_Mo_layEntry_68 : am_fd mt_Mo_layEntry.1 68 = (.invokestatic 185,3,157,2,0,0,.retAddr 0) := rfl
theorem fd_Mo_layEntry_71 : am_fd mt_Mo_layEntry.1 71 = (.i2b,1,0,0,0,0,.retAddr 0) := rfl
theorem fd_Mo_layEntry_72 : am_fd mt_Mo_layEntry.1 72 = (.bastore,1,0,0,0,0,.retAddr 0) := rfl
theorem fd_Mo_layEntry_73 : am_fd mt_Mo_layEntry.1 73 = (.iinc 4 1,3,4,0,0,0,.int 1) := rfl
theorem fd_Mo_layEntry_76 : am_fd mt_Mo_layEntry.1 76 = (.iinc 6 1,3,6,0,0,0,.int 1) := rfl
theorem fd_Mo_layEntry_79 : am_fd mt_Mo_layEntry.1 79 = (.goto (-32),3,47,0,0,0,.retAddr 0) := rfl
theorem fd_Mo_layEntry_82 : am_fd mt_Mo_layEntry.1 82 = (.aload_n 0,1,0,0,0,0,.retAddr 0) := rfl
theorem fd_Mo_layEntry_83 : am_fd mt_Mo_layEntry.1 83 = (.getfield 69,3,30,2,12,12,.retAddr 0) := rfl
theorem fd_Mo_layEntry_86 : am_fd mt_Mo_layEntry.1 86 = (.iload 4,2,4,0,0,0,.retAddr 0) := rfl
theorem fd_Mo_layEntry_88 : am_fd mt_Mo_layEntry.1 88 = (.aload_n 0,1,0,0,0,0,.retAddr 0) := rfl
theorem fd_Mo_layEntry_89 : am_fd mt_Mo_layEntry.1 89 = (.getfield 76,3,33,2,12,12,.retAddr 0) := rfl
theorem fd_Mo_layEntry_92 : am_fd mt_Mo_layEntry.1 92 = (.iload_n 2,1,2,0,0,0,.retAddr 0) := rfl
theorem fd_Mo_layEntry_93 : am_fd mt_Mo_layEntry.1 93 = (.iaload,1,0,0,0,0,.retAddr 0) := rfl
theorem fd_Mo_layEntry_94 : am_fd mt_Mo_layEntry.1 94 = (.i2b,1,0,0,0,0,.retAddr 0) := rfl
theorem fd_Mo_layEntry_95 : am_fd mt_Mo_layEntry.1 95 = (.bastore,1,0,0,0,0,.retAddr 0) := rfl
theorem fd_Mo_layEntry_96 : am_fd mt_Mo_layEntry.1 96 = (.iinc 4 1,3,4,0,0,0,.int 1) := rfl
theorem fd_Mo_layEntry_99 : am_fd mt_Mo_layEntry.1 99 = (.aload_n 0,1,0,0,0,0,.retAddr 0) := rfl
theorem fd_Mo_layEntry_100 : am_fd mt_Mo_layEntry.1 100 = (.getfield 76,3,33,2,12,12,.retAddr 0) := rfl
theorem fd_Mo_layEntry_103 : am_fd mt_Mo_layEntry.1 103 = (.iload_n 2,1,2,0,0,0,.retAddr 0) := rfl
theorem fd_Mo_layEntry_104 : am_fd mt_Mo_layEntry.1 104 = (.iaload,1,0,0,0,0,.retAddr 0) := rfl
theorem fd_Mo_layEntry_105 : am_fd mt_Mo_layEntry.1 105 = (.iconst 2,1,0,0,0,0,.int 2) := rfl
theorem fd_Mo_layEntry_106 : am_fd mt_Mo_layEntry.1 106 = (.if_icmp .eq 104,3,210,0,0,0,.retAddr 0) := rfl
theorem fd_Mo_layEntry_109 : am_fd mt_Mo_layEntry.1 109 = (.aload_n 0,1,0,0,0,0,.retAddr 0) := rfl
theorem fd_Mo_layEntry_110 : am_fd mt_Mo_layEntry.1 110 = (.getfield 79,3,34,2,12,12,.retAddr 0) := rfl
theorem fd_Mo_layEntry_113 : am_fd mt_Mo_layEntry.1 113 = (.iload_n 2,1,2,0,0,0,.retAddr 0) := rfl
theorem fd_Mo_layEntry_114 : am_fd mt_Mo_layEntry.1 114 = (.laload,1,0,0,0,0,.retAddr 0) := rfl
theorem fd_Mo_layEntry_115 : am_fd mt_Mo_layEntry.1 115 = (.lstore 6,2,6,0,0,0,.retAddr 0) := rfl
theorem fd_Mo_layEntry_117 : am_fd mt_Mo_layEntry.1 117 = (.lload 6,2,6,0,0,0,.retAddr 0) := rfl
theorem fd_Mo_layEntry_119 : am_fd mt_Mo_layEntry.1 119 = (.lconst 0,1,0,0,0,0,.long 0) := rfl
theorem fd_Mo_layEntry_120 : am_fd mt_Mo_layEntry.1 120 = (.lcmp,1,0,0,0,0,.retAddr 0) := rfl
theorem fd_Mo_layEntry_121 : am_fd mt_Mo_layEntry.1 121 = (.ifCond .lt 12,3,133,0,0,0,.retAddr 0) := rfl
theorem fd_Mo_layEntry_124 : am_fd mt_Mo_layEntry.1 124 = (.lload 6,2,6,0,0,0,.retAddr 0) := rfl
theorem fd_Mo_layEntry_126 : am_fd mt_Mo_layEntry.1 126 = (.ldc2_w 181,3,0,0,0,0,.long 2) := rfl
theorem fd_Mo_layEntry_129 : am_fd mt_Mo_layEntry.1 129 = (.lmul,1,0,0,0,0,.retAddr 0) := rfl
theorem fd_Mo_layEntry_130 : am_fd mt_Mo_layEntry.1 130 = (.goto 13,3,143,0,0,0,.retAddr 0) := rfl
theorem fd_Mo_layEntry_133 : am_fd mt_Mo_layEntry.1 133 = (.ldc2_w 183,3,0,0,0,0,.long (-1)) := rfl
theorem fd_Mo_layEntry_136 : am_fd mt_Mo_layEntry.1 136 = (.lload 6,2,6,0,0,0,.retAddr 0) := rfl
theorem fd_Mo_layEntry_138 : am_fd mt_Mo_layEntry.1 138 = (.ldc2_w 181,3,0,0,0,0,.long 2) := rfl
theorem fd_Mo_layEntry_141 : am_fd mt_Mo_layEntry.1 141 = (.lmul,1,0,0,0,0,.retAddr 0) := rfl
theorem fd_Mo_layEntry_142 : am_fd mt_Mo_layEntry.1 142 = (.lsub,1,0,0,0,0,.retAddr 0) := rfl
theorem fd_Mo_layEntry_143 : am_fd mt_Mo_layEntry.1 143 = (.lstore 8,2,8,0,0,0,.retAddr 0) := rfl
theorem fd_Mo_layEntry_145 : am_fd mt_Mo_layEntry.1 145 = (.lload 6,2,6,0,0,0,.retAddr 0) := rfl
theorem fd_Mo_layEntry_147 : am_fd mt_Mo_layEntry.1 147 = (.invokestatic 193,3,158,1,0,0,.retAddr 0) := rfl
theorem fd_Mo_layEntry_150 : am_fd mt_Mo_layEntry.1 150 = (.istore 10,2,10,0,0,0,.retAddr 0) := rfl
theorem fd_Mo_layEntry_152 : am_fd mt_Mo_layEntry.1 152 = (.iconst 0,1,0,0,0,0,.int 0) := rfl
theorem fd_Mo_layEntry_153 : am_fd mt_Mo_layEntry.1 153 = (.istore 11,2,11,0,0,0,.retAddr 0) := rfl
theorem fd_Mo_layEntry_155 : am_fd mt_Mo_layEntry.1 155 = (.iload 11,2,11,0,0,0,.retAddr 0) := rfl
theorem fd_Mo_layEntry_157 : am_fd mt_Mo_layEntry.1 157 = (.iload 10,2,10,0,0,0,.retAddr 0) := rfl
theorem fd_Mo_layEntry_159 : am_fd mt_Mo_layEntry.1 159 = (.if_icmp .ge 51,3,210,0,0,0,.retAddr 0) := rfl
theorem fd_Mo_layEntry_162 : am_fd mt_Mo_layEntry.1 162 = (.aload_n 0,1,0,0,0,0,.retAddr 0) := rfl
theorem fd_Mo_layEntry_163 : am_fd mt_Mo_layEntry.1 163 = (.getfield 69,3,30,2,12,12,.retAddr 0) := rfl
theorem fd_Mo_layEntry_166 : am_fd mt_Mo_layEntry.1 166 = (.iload 4,2,4,0,0,0,.retAddr 0) := rfl
theorem fd_Mo_layEntry_168 : am_fd mt_Mo_layEntry.1 168 = (.lload 8,2,8,0,0,0,.retAddr 0) := rfl
theorem fd_Mo_layEntry_170 : am_fd mt_Mo_layEntry.1 170 = (.ldc2_w 223,3,0,0,0,0,.long 127) := rfl
theorem fd_Mo_layEntry_173 : am_fd mt_Mo_layEntry.1 173 = (.land,1,0,0,0,0,.retAddr 0) := rfl
theorem fd_Mo_layEntry_174 : am_fd mt_Mo_layEntry.1 174 = (.iload 11,2,11,0,0,0,.retAddr 0) := rfl
theorem fd_Mo_layEntry_176 : am_fd mt_Mo_layEntry.1 176 = (.iconst 1,1,0,0,0,0,.int 1) := rfl
theorem fd_Mo_layEntry_177 : am_fd mt_Mo_layEntry.1 177 = (.iadd,1,0,0,0,0,.retAddr 0) := rfl
theorem fd_Mo_layEntry_178 : am_fd mt_Mo_layEntry.1 178 = (.iload 10,2,10,0,0,0,.retAddr 0) := rfl
theorem fd_Mo_layEntry_180 : am_fd mt_Mo_layEntry.1 180 = (.if_icmp .ge 9,3,189,0,0,0,.retAddr 0) := rfl
theorem fd_Mo_layEntry_183 : am_fd mt_Mo_layEntry.1 183 = (.ldc2_w 225,3,0,0,0,0,.long 128) := rfl
theorem fd_Mo_layEntry_186 : am_fd mt_Mo_layEntry.1 186 = (.goto 4,3,190,0,0,0,.retAddr 0) := rfl
theorem fd_Mo_layEntry_189 : am_fd mt_Mo_layEntry.1 189 = (.lconst 0,1,0,0,0,0,.long 0) := rfl
theorem fd_Mo_layEntry_190 : am_fd mt_Mo_layEntry.1 190 = (.lor,1,0,0,0,0,.retAddr 0) := rfl
theorem fd_Mo_layEntry_191 : am_fd mt_Mo_layEntry.1 191 = (.l2i,1,0,0,0,0,.retAddr 0) := rfl
theorem fd_Mo_layEntry_192 : am_fd mt_Mo_layEntry.1 192 = (.i2b,1,0,0,0,0,.retAddr 0) := rfl
theorem fd_Mo_layEntry_193 : am_fd mt_Mo_layEntry.1 193 = (.bastore,1,0,0,0,0,.retAddr 0) := rfl
theorem fd_Mo_layEntry_194 : am_fd mt_Mo_layEntry.1 194 = (.lload 8,2,8,0,0,0,.retAddr 0) := rfl
theorem fd_Mo_layEntry_196 : am_fd mt_Mo_layEntry.1 196 = (.bipush 7,2,0,0,0,0,.int 7) := rfl
theorem fd_Mo_layEntry_198 : am_fd mt_Mo_layEntry.1 198 = (.lushr,1,0,0,0,0,.retAddr 0) := rfl
theorem fd_Mo_layEntry_199 : am_fd mt_Mo_layEntry.1 199 = (.lstore 8,2,8,0,0,0,.retAddr 0) := rfl
theorem fd_Mo_layEntry_201 : am_fd mt_Mo_layEntry.1 201 = (.iinc 4 1,3,4,0,0,0,.int 1) := rfl
theorem fd_Mo_layEntry_204 : am_fd mt_Mo_layEntry.1 204 = (.iinc 11 1,3,11,0,0,0,.int 1) := rfl
theorem fd_Mo_layEntry_207 : am_fd mt_Mo_layEntry.1 207 = (.goto (-52),3,155,0,0,0,.retAddr 0) := rfl
theorem fd_Mo_layEntry_210 : am_fd mt_Mo_layEntry.1 210 = (.iload 4,2,4,0,0,0,.retAddr 0) := rfl
theorem fd_Mo_layEntry_212 : am_fd mt_Mo_layEntry.1 212 = (.ireturn,1,0,0,0,0,.retAddr 0) := rfl
theorem fd_Mo_clearFilter_0 : am_fd mt_Mo_clearFilter.1 0 = (.iconst 0,1,0,0,0,0,.int 0) := rfl
theorem fd_Mo_clearFilter_1 : am_fd mt_Mo_clearFilter.1 1 = (.istore_n 2,1,2,0,0,0,.retAddr 0) := rfl
theorem fd_Mo_clearFilter_2 : am_fd mt_Mo_clearFilter.1 2 = (.iload_n 2,1,2,0,0,0,.retAddr 0) := rfl
theorem fd_Mo_clearFilter_3 : am_fd mt_Mo_clearFilter.1 3 = (.bipush 8,2,0,0,0,0,.int 8) := rfl
theorem fd_Mo_clearFilter_5 : am_fd mt_Mo_clearFilter.1 5 = (.if_icmp .ge 21,3,26,0,0,0,.retAddr 0) := rfl
theorem fd_Mo_clearFilter_8 : am_fd mt_Mo_clearFilter.1 8 = (.aload_n 0,1,0,0,0,0,.retAddr 0) := rfl
theorem fd_Mo_clearFilter_9 : am_fd mt_Mo_clearFilter.1 9 = (.getfield 50,3,23,2,12,12,.retAddr 0) := rfl
theorem fd_Mo_clearFilter_12 : am_fd mt_Mo_clearFilter.1 12 = (.bipush 8,2,0,0,0,0,.int 8) := rfl
theorem fd_Mo_clearFilter_14 : am_fd mt_Mo_clearFilter.1 14 = (.iload_n 1,1,1,0,0,0,.retAddr 0) := rfl
theorem fd_Mo_clearFilter_15 : am_fd mt_Mo_clearFilter.1 15 = (.imul,1,0,0,0,0,.retAddr 0) := rfl
theorem fd_Mo_clearFilter_16 : am_fd mt_Mo_clearFilter.1 16 = (.iload_n 2,1,2,0,0,0,.retAddr 0) := rfl
theorem fd_Mo_clearFilter_17 : am_fd mt_Mo_clearFilter.1 17 = (.iadd,1,0,0,0,0,.retAddr 0) := rfl
theorem fd_Mo_clearFilter_18 : am_fd mt_Mo_clearFilter.1 18 = (.lconst 0,1,0,0,0,0,.long 0) := rfl
theorem fd_Mo_clearFilter_19 : am_fd mt_Mo_clearFilter.1 19 = (.lastore,1,0,0,0,0,.retAddr 0) := rfl
theorem fd_Mo_clearFilter_20 : am_fd mt_Mo_clearFilter.1 20 = (.iinc 2 1,3,2,0,0,0,.int 1) := rfl
theorem fd_Mo_clearFilter_23 : am_fd mt_Mo_clearFilter.1 23 = (.goto (-21),3,2,0,0,0,.retAddr 0) := rfl
theorem fd_Mo_clearFilter_26 : am_fd mt_Mo_clearFilter.1 26 = (.return_,1,0,0,0,0,.retAddr 0) := rfl
theorem fd_Mo_mark3_0 : am_fd mt_Mo_mark3.1 0 = (.lload_n 2,1,2,0,0,0,.retAddr 0) := rfl
theorem fd_Mo_mark3_1 : am_fd mt_Mo_mark3.1 1 = (.aload_n 0,1,0,0,0,0,.retAddr 0) := rfl
theorem fd_Mo_mark3_2 : am_fd mt_Mo_mark3.1 2 = (.getfield 28,3,16,2,12,12,.retAddr 0) := rfl
theorem fd_Mo_mark3_5 : am_fd mt_Mo_mark3.1 5 = (.iload_n 1,1,1,0,0,0,.retAddr 0) := rfl
theorem fd_Mo_mark3_6 : am_fd mt_Mo_mark3.1 6 = (.iaload,1,0,0,0,0,.retAddr 0) := rfl
theorem fd_Mo_mark3_7 : am_fd mt_Mo_mark3.1 7 = (.invokestatic 233,3,165,2,0,0,.retAddr 0) := rfl
theorem fd_Mo_mark3_10 : am_fd mt_Mo_mark3.1 10 = (.lstore 4,2,4,0,0,0,.retAddr 0) := rfl
theorem fd_Mo_mark3_12 : am_fd mt_Mo_mark3.1 12 = (.iconst 0,1,0,0,0,0,.int 0) := rfl
theorem fd_Mo_mark3_13 : am_fd mt_Mo_mark3.1 13 = (.istore 6,2,6,0,0,0,.retAddr 0) := rfl
theorem fd_Mo_mark3_15 : am_fd mt_Mo_mark3.1 15 = (.iload 6,2,6,0,0,0,.retAddr 0) := rfl
theorem fd_Mo_mark3_17 : am_fd mt_Mo_mark3.1 17 = (.iconst 3,1,0,0,0,0,.int 3) := rfl
theorem fd_Mo_mark3_18 : am_fd mt_Mo_mark3.1 18 = (.if_icmp .ge 43,3,61,0,0,0,.retAddr 0) := rfl
theorem fd_Mo_mark3_21 : am_fd mt_Mo_mark3.1 21 = (.lload 4,2,4,0,0,0,.retAddr 0) := rfl
theorem fd_Mo_mark3_23 : am_fd mt_Mo_mark3.1 23 = (.iload 6,2,6,0,0,0,.retAddr 0) := rfl
theorem fd_Mo_mark3_25 : am_fd mt_Mo_mark3.1 25 = (.invokestatic 237,3,166,2,0,0,.retAddr 0) := rfl
theorem fd_Mo_mark3_28 : am_fd mt_Mo_mark3.1 28 = (.istore 7,2,7,0,0,0,.retAddr 0) := rfl
theorem fd_Mo_mark3_30 : am_fd mt_Mo_mark3.1 30 = (.aload_n 0,1,0,0,0,0,.retAddr 0) := rfl
theorem fd_Mo_mark3_31 : am_fd mt_Mo_mark3.1 31 = (.getfield 50,3,23,2,12,12,.retAddr 0) := rfl
theorem fd_Mo_mark3_34 : am_fd mt_Mo_mark3.1 34 = (.bipush 8,2,0,0,0,0,.int 8) := rfl
theorem fd_Mo_mark3_36 : am_fd mt_Mo_mark3.1 36 = (.iload_n 1,1,1,0,0,0,.retAddr 0) := rfl
theorem fd_Mo_mark3_37 : am_fd mt_Mo_mark3.1 37 = (.imul,1,0,0,0,0,.retAddr 0) := rfl
theorem fd_Mo_mark3_38 : am_fd mt_Mo_mark3.1 38 = (.iload 7,2,7,0,0,0,.retAddr 0) := rfl
theorem fd_Mo_mark3_40 : am_fd mt_Mo_mark3.1 40 = (.bipush 64,2,0,0,0,0,.int 64) := rfl
theorem fd_Mo_mark3_42 : am_fd mt_Mo_mark3.1 42 = (.idiv,1,0,0,0,0,.retAddr 0) := rfl
theorem fd_Mo_mark3_43 : am_fd mt_Mo_mark3.1 43 = (.iadd,1,0,0,0,0,.retAddr 0) := rfl
theorem fd_Mo_mark3_44 : am_fd mt_Mo_mark3.1 44 = (.dup2,1,0,0,0,0,.retAddr 0) := rfl
theorem fd_Mo_mark3_45 : am_fd mt_Mo_mark3.1 45 = (.laload,1,0,0,0,0,.retAddr 0) := rfl
theorem fd_Mo_mark3_46 : am_fd mt_Mo_mark3.1 46 = (.lconst 1,1,0,0,0,0,.long 1) := rfl
theorem fd_Mo_mark3_47 : am_fd mt_Mo_mark3.1 47 = (.iload 7,2,7,0,0,0,.retAddr 0) := rfl
theorem fd_Mo_mark3_49 : am_fd mt_Mo_mark3.1 49 = (.bipush 64,2,0,0,0,0,.int 64) := rfl
theorem fd_Mo_mark3_51 : am_fd mt_Mo_mark3.1 51 = (.irem,1,0,0,0,0,.retAddr 0) := rfl
theorem fd_Mo_mark3_52 : am_fd mt_Mo_mark3.1 52 = (.lshl,1,0,0,0,0,.retAddr 0) := rfl
theorem fd_Mo_mark3_53 : am_fd mt_Mo_mark3.1 53 = (.lor,1,0,0,0,0,.retAddr 0) := rfl
theorem fd_Mo_mark3_54 : am_fd mt_Mo_mark3.1 54 = (.lastore,1,0,0,0,0,.retAddr 0) := rfl
theorem fd_Mo_mark3_55 : am_fd mt_Mo_mark3.1 55 = (.iinc 6 1,3,6,0,0,0,.int 1) := rfl
theorem fd_Mo_mark3_58 : am_fd mt_Mo_mark3.1 58 = (.goto (-43),3,15,0,0,0,.retAddr 0) := rfl
theorem fd_Mo_mark3_61 : am_fd mt_Mo_mark3.1 61 = (.return_,1,0,0,0,0,.retAddr 0) := rfl
theorem fd_Mo_hash_0 : am_fd mt_Mo_hash.1 0 = (.lload_n 0,1,0,0,0,0,.retAddr 0) := rfl
theorem fd_Mo_hash_1 : am_fd mt_Mo_hash.1 1 = (.ldc2_w 227,3,0,0,0,0,.long 7) := rfl
theorem fd_Mo_hash_4 : am_fd mt_Mo_hash.1 4 = (.iload_n 2,1,2,0,0,0,.retAddr 0) := rfl
theorem fd_Mo_hash_5 : am_fd mt_Mo_hash.1 5 = (.i2l,1,0,0,0,0,.retAddr 0) := rfl
theorem fd_Mo_hash_6 : am_fd mt_Mo_hash.1 6 = (.lmul,1,0,0,0,0,.retAddr 0) := rfl
theorem fd_Mo_hash_7 : am_fd mt_Mo_hash.1 7 = (.lxor,1,0,0,0,0,.retAddr 0) := rfl
theorem fd_Mo_hash_8 : am_fd mt_Mo_hash.1 8 = (.ldc2_w 229,3,0,0,0,0,.long (-7046029254386353131)) := rfl
theorem fd_Mo_hash_11 : am_fd mt_Mo_hash.1 11 = (.lmul,1,0,0,0,0,.retAddr 0) := rfl
theorem fd_Mo_hash_12 : am_fd mt_Mo_hash.1 12 = (.lreturn,1,0,0,0,0,.retAddr 0) := rfl
theorem fd_Mo_bit_0 : am_fd mt_Mo_bit.1 0 = (.iload_n 2,1,2,0,0,0,.retAddr 0) := rfl
theorem fd_Mo_bit_1 : am_fd mt_Mo_bit.1 1 = (.ifCond .ne 11,3,12,0,0,0,.retAddr 0) := rfl
theorem fd_Mo_bit_4 : am_fd mt_Mo_bit.1 4 = (.lload_n 0,1,0,0,0,0,.retAddr 0) := rfl
theorem fd_Mo_bit_5 : am_fd mt_Mo_bit.1 5 = (.bipush 55,2,0,0,0,0,.int 55) := rfl
theorem fd_Mo_bit_7 : am_fd mt_Mo_bit.1 7 = (.lushr,1,0,0,0,0,.retAddr 0) := rfl
theorem fd_Mo_bit_8 : am_fd mt_Mo_bit.1 8 = (.l2i,1,0,0,0,0,.retAddr 0) := rfl
theorem fd_Mo_bit_9 : am_fd mt_Mo_bit.1 9 = (.goto 29,3,38,0,0,0,.retAddr 0) := rfl
theorem fd_Mo_bit_12 : am_fd mt_Mo_bit.1 12 = (.iload_n 2,1,2,0,0,0,.retAddr 0) := rfl
theorem fd_Mo_bit_13 : am_fd mt_Mo_bit.1 13 = (.iconst 1,1,0,0,0,0,.int 1) := rfl
theorem fd_Mo_bit_14 : am_fd mt_Mo_bit.1 14 = (.if_icmp .ne 15,3,29,0,0,0,.retAddr 0) := rfl
theorem fd_Mo_bit_17 : am_fd mt_Mo_bit.1 17 = (.lload_n 0,1,0,0,0,0,.retAddr 0) := rfl
theorem fd_Mo_bit_18 : am_fd mt_Mo_bit.1 18 = (.bipush 46,2,0,0,0,0,.int 46) := rfl
theorem fd_Mo_bit_20 : am_fd mt_Mo_bit.1 20 = (.lushr,1,0,0,0,0,.retAddr 0) := rfl
theorem fd_Mo_bit_21 : am_fd mt_Mo_bit.1 21 = (.ldc2_w 231,3,0,0,0,0,.long 511) := rfl
theorem fd_Mo_bit_24 : am_fd mt_Mo_bit.1 24 = (.land,1,0,0,0,0,.retAddr 0) := rfl
theorem fd_Mo_bit_25 : am_fd mt_Mo_bit.1 25 = (.l2i,1,0,0,0,0,.retAddr 0) := rfl
theorem fd_Mo_bit_26 : am_fd mt_Mo_bit.1 26 = (.goto 12,3,38,0,0,0,.retAddr 0) := rfl
theorem fd_Mo_bit_29 : am_fd mt_Mo_bit.1 29 = (.lload_n 0,1,0,0,0,0,.retAddr 0) := rfl
theorem fd_Mo_bit_30 : am_fd mt_Mo_bit.1 30 = (.bipush 37,2,0,0,0,0,.int 37) := rfl
theorem fd_Mo_bit_32 : am_fd mt_Mo_bit.1 32 = (.lushr,1,0,0,0,0,.retAddr 0) := rfl
theorem fd_Mo_bit_33 : am_fd mt_Mo_bit.1 33 = (.ldc2_w 231,3,0,0,0,0,.long 511) := rfl
theorem fd_Mo_bit_36 : am_fd mt_Mo_bit.1 36 = (.land,1,0,0,0,0,.retAddr 0) := rfl
theorem fd_Mo_bit_37 : am_fd mt_Mo_bit.1 37 = (.l2i,1,0,0,0,0,.retAddr 0) := rfl
theorem fd_Mo_bit_38 : am_fd mt_Mo_bit.1 38 = (.ireturn,1,0,0,0,0,.retAddr 0) := rfl
theorem fd_Mo_writeHead_0 : am_fd mt_Mo_writeHead.1 0 = (.aload_n 0,1,0,0,0,0,.retAddr 0) := rfl
theorem fd_Mo_writeHead_1 : am_fd mt_Mo_writeHead.1 1 = (.dup,1,0,0,0,0,.retAddr 0) := rfl
theorem fd_Mo_writeHead_2 : am_fd mt_Mo_writeHead.1 2 = (.getfield 125,3,4,0,12,12,.retAddr 0) := rfl
theorem fd_Mo_writeHead_5 : am_fd mt_Mo_writeHead.1 5 = (.iconst 1,1,0,0,0,0,.int 1) := rfl
theorem fd_Mo_writeHead_6 : am_fd mt_Mo_writeHead.1 6 = (.iadd,1,0,0,0,0,.retAddr 0) := rfl
theorem fd_Mo_writeHead_7 : am_fd mt_Mo_writeHead.1 7 = (.putfield 125,3,4,0,12,12,.retAddr 0) := rfl
theorem fd_Mo_writeHead_10 : am_fd mt_Mo_writeHead.1 10 = (.aload_n 0,1,0,0,0,0,.retAddr 0) := rfl
theorem fd_Mo_writeHead_11 : am_fd mt_Mo_writeHead.1 11 = (.invokevirtual 131,3,132,1,12,0,.retAddr 0) := rfl
theorem fd_Mo_writeHead_14 : am_fd mt_Mo_writeHead.1 14 = (.aload_n 0,1,0,0,0,0,.retAddr 0) := rfl
theorem fd_Mo_writeHead_15 : am_fd mt_Mo_writeHead.1 15 = (.aload_n 0,1,0,0,0,0,.retAddr 0) := rfl
theorem fd_Mo_writeHead_16 : am_fd mt_Mo_writeHead.1 16 = (.getfield 125,3,4,0,12,12,.retAddr 0) := rfl
theorem fd_Mo_writeHead_19 : am_fd mt_Mo_writeHead.1 19 = (.iconst 1,1,0,0,0,0,.int 1) := rfl
theorem fd_Mo_writeHead_20 : am_fd mt_Mo_writeHead.1 20 = (.iand,1,0,0,0,0,.retAddr 0) := rfl
theorem fd_Mo_writeHead_21 : am_fd mt_Mo_writeHead.1 21 = (.invokevirtual 134,3,135,2,12,0,.retAddr 0) := rfl
theorem fd_Mo_writeHead_24 : am_fd mt_Mo_writeHead.1 24 = (.ireturn,1,1,0,0,0,.retAddr 0) := rfl
theorem fd_Mo_flushNow_0 : am_fd mt_Mo_flushNow.1 0 = (.aload_n 0,1,0,0,0,0,.retAddr 0) := rfl
theorem fd_Mo_flushNow_1 : am_fd mt_Mo_flushNow.1 1 = (.getfield 165,3,11,0,12,12,.retAddr 0) := rfl
theorem fd_Mo_flushNow_4 : am_fd mt_Mo_flushNow.1 4 = (.ifCond .eq 12,3,16,0,0,0,.retAddr 0) := rfl
theorem fd_Mo_flushNow_7 : am_fd mt_Mo_flushNow.1 7 = (.aload_n 0,1,0,0,0,0,.retAddr 0) := rfl
theorem fd_Mo_flushNow_8 : am_fd mt_Mo_flushNow.1 8 = (.invokevirtual 255,3,147,1,12,0,.retAddr 0) := rfl
theorem fd_Mo_flushNow_11 : am_fd mt_Mo_flushNow.1 11 = (.bipush 6,2,0,0,0,0,.int 6) := rfl
theorem fd_Mo_flushNow_13 : am_fd mt_Mo_flushNow.1 13 = (.if_icmp .ne 5,3,18,0,0,0,.retAddr 0) := rfl
theorem fd_Mo_flushNow_16 : am_fd mt_Mo_flushNow.1 16 = (.iconst (-1),1,0,0,0,0,.int (-1)) := rfl
theorem fd_Mo_flushNow_17 : am_fd mt_Mo_flushNow.1 17 = (.ireturn,1,0,0,0,0,.retAddr 0) := rfl
theorem fd_Mo_flushNow_18 : am_fd mt_Mo_flushNow.1 18 = (.aload_n 0,1,0,0,0,0,.retAddr 0) := rfl
theorem fd_Mo_flushNow_19 : am_fd mt_Mo_flushNow.1 19 = (.aload_n 0,1,0,0,0,0,.retAddr 0) := rfl
theorem fd_Mo_flushNow_20 : am_fd mt_Mo_flushNow.1 20 = (.getfield 165,3,11,0,12,12,.retAddr 0) := rfl
theorem fd_Mo_flushNow_23 : am_fd mt_Mo_flushNow.1 23 = (.putfield 197,3,31,0,12,12,.retAddr 0) := rfl
theorem fd_Mo_flushNow_26 : am_fd mt_Mo_flushNow.1 26 = (.iconst 0,1,0,0,0,0,.int 0) := rfl
theorem fd_Mo_flushNow_27 : am_fd mt_Mo_flushNow.1 27 = (.istore_n 1,1,1,0,0,0,.retAddr 0) := rfl
theorem fd_Mo_flushNow_28 : am_fd mt_Mo_flushNow.1 28 = (.iload_n 1,1,1,0,0,0,.retAddr 0) := rfl
theorem fd_Mo_flushNow_29 : am_fd mt_Mo_flushNow.1 29 = (.aload_n 0,1,0,0,0,0,.retAddr 0) := rfl
theorem fd_Mo_flushNow_30 : am_fd mt_Mo_flushNow.1 30 = (.getfield 197,3,31,0,12,12,.retAddr 0) := rfl
theorem fd_Mo_flushNow_33 : am_fd mt_Mo_flushNow.1 33 = (.if_icmp .ge 45,3,78,0,0,0,.retAddr 0) := rfl
theorem fd_Mo_flushNow_36 : am_fd mt_Mo_flushNow.1 36 = (.aload_n 0,1,0,0,0,0,.retAddr 0) := rfl
theorem fd_Mo_flushNow_37 : am_fd mt_Mo_flushNow.1 37 = (.getfield 73,3,32,2,12,12,.retAddr 0) := rfl
theorem fd_Mo_flushNow_40 : am_fd mt_Mo_flushNow.1 40 = (.iload_n 1,1,1,0,0,0,.retAddr 0) := rfl
theorem fd_Mo_flushNow_41 : am_fd mt_Mo_flushNow.1 41 = (.aload_n 0,1,0,0,0,0,.retAddr 0) := rfl
theorem fd_Mo_flushNow_42 : am_fd mt_Mo_flushNow.1 42 = (.getfield 14,3,12,2,12,12,.retAddr 0) := rfl
theorem fd_Mo_flushNow_45 : am_fd mt_Mo_flushNow.1 45 = (.iload_n 1,1,1,0,0,0,.retAddr 0) := rfl
theorem fd_Mo_flushNow_46 : am_fd mt_Mo_flushNow.1 46 = (.laload,1,0,0,0,0,.retAddr 0) := rfl
theorem fd_Mo_flushNow_47 : am_fd mt_Mo_flushNow.1 47 = (.lastore,1,0,0,0,0,.retAddr 0) := rfl
theorem fd_Mo_flushNow_48 : am_fd mt_Mo_flushNow.1 48 = (.aload_n 0,1,0,0,0,0,.retAddr 0) := rfl
theorem fd_Mo_flushNow_49 : am_fd mt_Mo_flushNow.1 49 = (.getfield 76,3,33,2,12,12,.retAddr 0) := rfl
theorem fd_Mo_flushNow_52 : am_fd mt_Mo_flushNow.1 52 = (.iload_n 1,1,1,0,0,0,.retAddr 0) := rfl
theorem fd_Mo_flushNow_53 : am_fd mt_Mo_flushNow.1 53 = (.aload_n 0,1,0,0,0,0,.retAddr 0) := rfl
theorem fd_Mo_flushNow_54 : am_fd mt_Mo_flushNow.1 54 = (.getfield 18,3,13,2,12,12,.retAddr 0) := rfl
theorem fd_Mo_flushNow_57 : am_fd mt_Mo_flushNow.1 57 = (.iload_n 1,1,1,0,0,0,.retAddr 0) := rfl
theorem fd_Mo_flushNow_58 : am_fd mt_Mo_flushNow.1 58 = (.iaload,1,0,0,0,0,.retAddr 0) := rfl
theorem fd_Mo_flushNow_59 : am_fd mt_Mo_flushNow.1 59 = (.iastore,1,0,0,0,0,.retAddr 0) := rfl
theorem fd_Mo_flushNow_60 : am_fd mt_Mo_flushNow.1 60 = (.aload_n 0,1,0,0,0,0,.retAddr 0) := rfl
theorem fd_Mo_flushNow_61 : am_fd mt_Mo_flushNow.1 61 = (.getfield 79,3,34,2,12,12,.retAddr 0) := rfl
theorem fd_Mo_flushNow_64 : am_fd mt_Mo_flushNow.1 64 = (.iload_n 1,1,1,0,0,0,.retAddr 0) := rfl
theorem fd_Mo_flushNow_65 : am_fd mt_Mo_flushNow.1 65 = (.aload_n 0,1,0,0,0,0,.retAddr 0) := rfl
theorem fd_Mo_flushNow_66 : am_fd mt_Mo_flushNow.1 66 = (.getfield 22,3,14,2,12,12,.retAddr 0) := rfl
theorem fd_Mo_flushNow_69 : am_fd mt_Mo_flushNow.1 69 = (.iload_n 1,1,1,0,0,0,.retAddr 0) := rfl
theorem fd_Mo_flushNow_70 : am_fd mt_Mo_flushNow.1 70 = (.laload,1,0,0,0,0,.retAddr 0) := rfl
theorem fd_Mo_flushNow_71 : am_fd mt_Mo_flushNow.1 71 = (.lastore,1,0,0,0,0,.retAddr 0) := rfl
theorem fd_Mo_flushNow_72 : am_fd mt_Mo_flushNow.1 72 = (.iinc 1 1,3,1,0,0,0,.int 1) := rfl
theorem fd_Mo_flushNow_75 : am_fd mt_Mo_flushNow.1 75 = (.goto (-47),3,28,0,0,0,.retAddr 0) := rfl
theorem fd_Mo_flushNow_78 : am_fd mt_Mo_flushNow.1 78 = (.aload_n 0,1,0,0,0,0,.retAddr 0) := rfl
theorem fd_Mo_flushNow_79 : am_fd mt_Mo_flushNow.1 79 = (.iconst 0,1,0,0,0,0,.int 0) := rfl
theorem fd_Mo_flushNow_80 : am_fd mt_Mo_flushNow.1 80 = (.invokevirtual 264,3,161,2,12,0,.retAddr 0) := rfl
theorem fd_Mo_flushNow_83 : am_fd mt_Mo_flushNow.1 83 = (.istore_n 1,1,1,0,0,0,.retAddr 0) := rfl
theorem fd_Mo_flushNow_84 : am_fd mt_Mo_flushNow.1 84 = (.iload_n 1,1,1,0,0,0,.retAddr 0) := rfl
theorem fd_Mo_flushNow_85 : am_fd mt_Mo_flushNow.1 85 = (.ifCond .ge 15,3,100,0,0,0,.retAddr 0) := rfl
theorem fd_Mo_flushNow_88 : am_fd mt_Mo_flushNow.1 88 = (.iload_n 1,1,1,0,0,0,.retAddr 0) := rfl
theorem fd_Mo_flushNow_89 : am_fd mt_Mo_flushNow.1 89 = (.bipush (-2),2,0,0,0,0,.int (-2)) := rfl
theorem fd_Mo_flushNow_91 : am_fd mt_Mo_flushNow.1 91 = (.if_icmp .ne 7,3,98,0,0,0,.retAddr 0) := rfl
theorem fd_Mo_flushNow_94 : am_fd mt_Mo_flushNow.1 94 = (.iconst 0,1,0,0,0,0,.int 0) := rfl
theorem fd_Mo_flushNow_95 : am_fd mt_Mo_flushNow.1 95 = (.goto 4,3,99,0,0,0,.retAddr 0) := rfl
theorem fd_Mo_flushNow_98 : am_fd mt_Mo_flushNow.1 98 = (.iconst (-1),1,0,0,0,0,.int (-1)) := rfl
theorem fd_Mo_flushNow_99 : am_fd mt_Mo_flushNow.1 99 = (.ireturn,1,0,0,0,0,.retAddr 0) := rfl
theorem fd_Mo_flushNow_100 : am_fd mt_Mo_flushNow.1 100 = (.aload_n 0,1,0,0,0,0,.retAddr 0) := rfl
theorem fd_Mo_flushNow_101 : am_fd mt_Mo_flushNow.1 101 = (.getfield 168,3,24,0,12,12,.retAddr 0) := rfl
theorem fd_Mo_flushNow_104 : am_fd mt_Mo_flushNow.1 104 = (.istore_n 2,1,2,0,0,0,.retAddr 0) := rfl
theorem fd_Mo_flushNow_105 : am_fd mt_Mo_flushNow.1 105 = (.iload_n 2,1,2,0,0,0,.retAddr 0) := rfl
theorem fd_Mo_flushNow_106 : am_fd mt_Mo_flushNow.1 106 = (.ifCond .le 23,3,129,0,0,0,.retAddr 0) := rfl
theorem fd_Mo_flushNow_109 : am_fd mt_Mo_flushNow.1 109 = (.aload_n 0,1,0,0,0,0,.retAddr 0) := rfl
theorem fd_Mo_flushNow_110 : am_fd mt_Mo_flushNow.1 110 = (.getfield 53,3,25,2,12,12,.retAddr 0) := rfl
theorem fd_Mo_flushNow_113 : am_fd mt_Mo_flushNow.1 113 = (.iload_n 2,1,2,0,0,0,.retAddr 0) := rfl
theorem fd_Mo_flushNow_114 : am_fd mt_Mo_flushNow.1 114 = (.aload_n 0,1,0,0,0,0,.retAddr 0) := rfl
theorem fd_Mo_flushNow_115 : am_fd mt_Mo_flushNow.1 115 = (.getfield 53,3,25,2,12,12,.retAddr 0) := rfl
theorem fd_Mo_flushNow_118 : am_fd mt_Mo_flushNow.1 118 = (.iload_n 2,1,2,0,0,0,.retAddr 0) := rfl
theorem fd_Mo_flushNow_119 : am_fd mt_Mo_flushNow.1 119 = (.iconst 1,1,0,0,0,0,.int 1) := rfl
theorem fd_Mo_flushNow_120 : am_fd mt_Mo_flushNow.1 120 = (.isub,1,0,0,0,0,.retAddr 0) := rfl
theorem fd_Mo_flushNow_121 : am_fd mt_Mo_flushNow.1 121 = (.iaload,1,0,0,0,0,.retAddr 0) := rfl
theorem fd_Mo_flushNow_122 : am_fd mt_Mo_flushNow.1 122 = (.iastore,1,0,0,0,0,.retAddr 0) := rfl
theorem fd_Mo_flushNow_123 : am_fd mt_Mo_flushNow.1 123 = (.iinc 2 (-1),3,2,0,0,0,.int (-1)) := rfl
theorem fd_Mo_flushNow_126 : am_fd mt_Mo_flushNow.1 126 = (.goto (-21),3,105,0,0,0,.retAddr 0) := rfl
theorem fd_Mo_flushNow_129 : am_fd mt_Mo_flushNow.1 129 = (.aload_n 0,1,0,0,0,0,.retAddr 0) := rfl
theorem fd_Mo_flushNow_130 : am_fd mt_Mo_flushNow.1 130 = (.getfield 53,3,25,2,12,12,.retAddr 0) := rfl
theorem fd_Mo_flushNow_133 : am_fd mt_Mo_flushNow.1 133 = (.iconst 0,1,0,0,0,0,.int 0) := rfl
theorem fd_Mo_flushNow_134 : am_fd mt_Mo_flushNow.1 134 = (.iload_n 1,1,1,0,0,0,.retAddr 0) := rfl
theorem fd_Mo_flushNow_135 : am_fd mt_Mo_flushNow.1 135 = (.iastore,1,0,0,0,0,.retAddr 0) := rfl
theorem fd_Mo_flushNow_136 : am_fd mt_Mo_flushNow.1 136 = (.aload_n 0,1,0,0,0,0,.retAddr 0) := rfl
theorem fd_Mo_flushNow_137 : am_fd mt_Mo_flushNow.1 137 = (.dup,1,0,0,0,0,.retAddr 0) := rfl
theorem fd_Mo_flushNow_138 : am_fd mt_Mo_flushNow.1 138 = (.getfield 168,3,24,0,12,12,.retAddr 0) := rfl
theorem fd_Mo_flushNow_141 : am_fd mt_Mo_flushNow.1 141 = (.iconst 1,1,0,0,0,0,.int 1) := rfl
theorem fd_Mo_flushNow_142 : am_fd mt_Mo_flushNow.1 142 = (.iadd,1,0,0,0,0,.retAddr 0) := rfl
theorem fd_Mo_flushNow_143 : am_fd mt_Mo_flushNow.1 143 = (.putfield 168,3,24,0,12,12,.retAddr 0) := rfl
theorem fd_Mo_flushNow_146 : am_fd mt_Mo_flushNow.1 146 = (.aload_n 0,1,0,0,0,0,.retAddr 0) := rfl
theorem fd_Mo_flushNow_147 : am_fd mt_Mo_flushNow.1 147 = (.getfield 25,3,15,2,12,12,.retAddr 0) := rfl
theorem fd_Mo_flushNow_150 : am_fd mt_Mo_flushNow.1 150 = (.iload_n 1,1,1,0,0,0,.retAddr 0) := rfl
theorem fd_Mo_flushNow_151 : am_fd mt_Mo_flushNow.1 151 = (.iconst 1,1,0,0,0,0,.int 1) := rfl
theorem fd_Mo_flushNow_152 : am_fd mt_Mo_flushNow.1 152 = (.iastore,1,0,0,0,0,.retAddr 0) := rfl
theorem fd_Mo_flushNow_153 : am_fd mt_Mo_flushNow.1 153 = (.aload_n 0,1,0,0,0,0,.retAddr 0) := rfl
theorem fd_Mo_flushNow_154 : am_fd mt_Mo_flushNow.1 154 = (.dup,1,0,0,0,0,.retAddr 0) := rfl
theorem fd_Mo_flushNow_155 : am_fd mt_Mo_flushNow.1 155 = (.getfield 128,3,5,0,12,12,.retAddr 0) := rfl
theorem fd_Mo_flushNow_158 : am_fd mt_Mo_flushNow.1 158 = (.iconst 1,1,0,0,0,0,.int 1) := rfl
theorem fd_Mo_flushNow_159 : am_fd mt_Mo_flushNow.1 159 = (.iadd,1,0,0,0,0,.retAddr 0) := rfl
theorem fd_Mo_flushNow_160 : am_fd mt_Mo_flushNow.1 160 = (.putfield 128,3,5,0,12,12,.retAddr 0) := rfl
theorem fd_Mo_flushNow_163 : am_fd mt_Mo_flushNow.1 163 = (.aload_n 0,1,0,0,0,0,.retAddr 0) := rfl
theorem fd_Mo_flushNow_164 : am_fd mt_Mo_flushNow.1 164 = (.iconst 0,1,0,0,0,0,.int 0) := rfl
theorem fd_Mo_flushNow_165 : am_fd mt_Mo_flushNow.1 165 = (.putfield 165,3,11,0,12,12,.retAddr 0) := rfl
theorem fd_Mo_flushNow_168 : am_fd mt_Mo_flushNow.1 168 = (.aload_n 0,1,0,0,0,0,.retAddr 0) := rfl
theorem fd_Mo_flushNow_169 : am_fd mt_Mo_flushNow.1 169 = (.getfield 28,3,16,2,12,12,.retAddr 0) := rfl
theorem fd_Mo_flushNow_172 : am_fd mt_Mo_flushNow.1 172 = (.iload_n 1,1,1,0,0,0,.retAddr 0) := rfl
theorem fd_Mo_flushNow_173 : am_fd mt_Mo_flushNow.1 173 = (.iaload,1,0,0,0,0,.retAddr 0) := rfl
theorem fd_Mo_flushNow_174 : am_fd mt_Mo_flushNow.1 174 = (.istore_n 2,1,2,0,0,0,.retAddr 0) := rfl
theorem fd_Mo_flushNow_175 : am_fd mt_Mo_flushNow.1 175 = (.aload_n 0,1,0,0,0,0,.retAddr 0) := rfl
theorem fd_Mo_flushNow_176 : am_fd mt_Mo_flushNow.1 176 = (.getfield 125,3,4,0,12,12,.retAddr 0) := rfl
theorem fd_Mo_flushNow_179 : am_fd mt_Mo_flushNow.1 179 = (.istore_n 3,1,3,0,0,0,.retAddr 0) := rfl
theorem fd_Mo_flushNow_180 : am_fd mt_Mo_flushNow.1 180 = (.aload_n 0,1,0,0,0,0,.retAddr 0) := rfl
theorem fd_Mo_flushNow_181 : am_fd mt_Mo_flushNow.1 181 = (.invokevirtual 268,3,167,1,12,0,.retAddr 0) := rfl
theorem fd_Mo_flushNow_184 : am_fd mt_Mo_flushNow.1 184 = (.ifCond .ne 10,3,194,0,0,0,.retAddr 0) := rfl
theorem fd_Mo_flushNow_187 : am_fd mt_Mo_flushNow.1 187 = (.aload_n 0,1,0,0,0,0,.retAddr 0) := rfl
theorem fd_Mo_flushNow_188 : am_fd mt_Mo_flushNow.1 188 = (.iload_n 3,1,3,0,0,0,.retAddr 0) := rfl
theorem fd_Mo_flushNow_189 : am_fd mt_Mo_flushNow.1 189 = (.putfield 125,3,4,0,12,12,.retAddr 0) := rfl
theorem fd_Mo_flushNow_192 : am_fd mt_Mo_flushNow.1 192 = (.iconst 0,1,0,0,0,0,.int 0) := rfl
theorem fd_Mo_flushNow_193 : am_fd mt_Mo_flushNow.1 193 = (.ireturn,1,0,0,0,0,.retAddr 0) := rfl
theorem fd_Mo_flushNow_194 : am_fd mt_Mo_flushNow.1 194 = (.iload_n 2,1,2,0,0,0,.retAddr 0) := rfl
theorem fd_Mo_flushNow_195 : am_fd mt_Mo_flushNow.1 195 = (.ireturn,1,0,0,0,0,.retAddr 0) := rfl
theorem fd_Mo_flush_0 : am_fd mt_Mo_flush.1 0 = (.aload_n 0,1,0,0,0,0,.retAddr 0) := rfl
theorem fd_Mo_flush_1 : am_fd mt_Mo_flush.1 1 = (.aload_n 0,1,0,0,0,0,.retAddr 0) := rfl
theorem fd_Mo_flush_2 : am_fd mt_Mo_flush.1 2 = (.getfield 161,3,3,0,12,12,.retAddr 0) := rfl
theorem fd_Mo_flush_5 : am_fd mt_Mo_flush.1 5 = (.ifCond .eq 7,3,12,0,0,0,.retAddr 0) := rfl
theorem fd_Mo_flush_8 : am_fd mt_Mo_flush.1 8 = (.iconst 1,1,0,0,0,0,.int 1) := rfl
theorem fd_Mo_flush_9 : am_fd mt_Mo_flush.1 9 = (.goto 4,3,13,0,0,0,.retAddr 0) := rfl
theorem fd_Mo_flush_12 : am_fd mt_Mo_flush.1 12 = (.iconst 0,1,0,0,0,0,.int 0) := rfl
theorem fd_Mo_flush_13 : am_fd mt_Mo_flush.1 13 = (.putfield 141,3,0,0,12,12,.retAddr 0) := rfl
theorem fd_Mo_flush_16 : am_fd mt_Mo_flush.1 16 = (.aload_n 0,1,0,0,0,0,.retAddr 0) := rfl
theorem fd_Mo_flush_17 : am_fd mt_Mo_flush.1 17 = (.getfield 161,3,3,0,12,12,.retAddr 0) := rfl
theorem fd_Mo_flush_20 : am_fd mt_Mo_flush.1 20 = (.ifCond .eq 7,3,27,0,0,0,.retAddr 0) := rfl
theorem fd_Mo_flush_23 : am_fd mt_Mo_flush.1 23 = (.iconst 0,1,0,0,0,0,.int 0) := rfl
theorem fd_Mo_flush_24 : am_fd mt_Mo_flush.1 24 = (.goto 7,3,31,0,0,0,.retAddr 0) := rfl
theorem fd_Mo_flush_27 : am_fd mt_Mo_flush.1 27 = (.aload_n 0,1,0,0,0,0,.retAddr 0) := rfl
theorem fd_Mo_flush_28 : am_fd mt_Mo_flush.1 28 = (.invokevirtual 261,3,168,1,12,0,.retAddr 0) := rfl
theorem fd_Mo_flush_31 : am_fd mt_Mo_flush.1 31 = (.ireturn,1,0,0,0,0,.retAddr 0) := rfl
theorem fd_Mo_merge_0 : am_fd mt_Mo_merge.1 0 = (.aload_n 0,1,0,0,0,0,.retAddr 0) := rfl
theorem fd_Mo_merge_1 : am_fd mt_Mo_merge.1 1 = (.aload_n 0,1,0,0,0,0,.retAddr 0) := rfl
theorem fd_Mo_merge_2 : am_fd mt_Mo_merge.1 2 = (.getfield 161,3,3,0,12,12,.retAddr 0) := rfl
theorem fd_Mo_merge_5 : am_fd mt_Mo_merge.1 5 = (.ifCond .eq 7,3,12,0,0,0,.retAddr 0) := rfl
theorem fd_Mo_merge_8 : am_fd mt_Mo_merge.1 8 = (.iconst 1,1,0,0,0,0,.int 1) := rfl
theorem fd_Mo_merge_9 : am_fd mt_Mo_merge.1 9 = (.goto 4,3,13,0,0,0,.retAddr 0) := rfl
theorem fd_Mo_merge_12 : am_fd mt_Mo_merge.1 12 = (.iconst 0,1,0,0,0,0,.int 0) := rfl
theorem fd_Mo_merge_13 : am_fd mt_Mo_merge.1 13 = (.putfield 141,3,0,0,12,12,.retAddr 0) := rfl
theorem fd_Mo_merge_16 : am_fd mt_Mo_merge.1 16 = (.aload_n 0,1,0,0,0,0,.retAddr 0) := rfl
theorem fd_Mo_merge_17 : am_fd mt_Mo_merge.1 17 = (.getfield 161,3,3,0,12,12,.retAddr 0) := rfl
theorem fd_Mo_merge_20 : am_fd mt_Mo_merge.1 20 = (.ifCond .eq 7,3,27,0,0,0,.retAddr 0) := rfl
theorem fd_Mo_merge_23 : am_fd mt_Mo_merge.1 23 = (.iconst 0,1,0,0,0,0,.int 0) := rfl
theorem fd_Mo_merge_24 : am_fd mt_Mo_merge.1 24 = (.goto 7,3,31,0,0,0,.retAddr 0) := rfl
theorem fd_Mo_merge_27 : am_fd mt_Mo_merge.1 27 = (.aload_n 0,1,0,0,0,0,.retAddr 0) := rfl
theorem fd_Mo_merge_28 : am_fd mt_Mo_merge.1 28 = (.invokevirtual 258,3,148,1,12,0,.retAddr 0) := rfl
theorem fd_Mo_merge_31 : am_fd mt_Mo_merge.1 31 = (.ireturn,1,0,0,0,0,.retAddr 0) := rfl
theorem fd_Mo_mark_0 : am_fd mt_Mo_mark.1 0 = (.aload_n 0,1,0,0,0,0,.retAddr 0) := rfl
theorem fd_Mo_mark_1 : am_fd mt_Mo_mark.1 1 = (.aload_n 0,1,0,0,0,0,.retAddr 0) := rfl
theorem fd_Mo_mark_2 : am_fd mt_Mo_mark.1 2 = (.getfield 161,3,3,0,12,12,.retAddr 0) := rfl
theorem fd_Mo_mark_5 : am_fd mt_Mo_mark.1 5 = (.ifCond .eq 7,3,12,0,0,0,.retAddr 0) := rfl
theorem fd_Mo_mark_8 : am_fd mt_Mo_mark.1 8 = (.iconst 1,1,0,0,0,0,.int 1) := rfl
theorem fd_Mo_mark_9 : am_fd mt_Mo_mark.1 9 = (.goto 4,3,13,0,0,0,.retAddr 0) := rfl
theorem fd_Mo_mark_12 : am_fd mt_Mo_mark.1 12 = (.iconst 0,1,0,0,0,0,.int 0) := rfl
theorem fd_Mo_mark_13 : am_fd mt_Mo_mark.1 13 = (.putfield 141,3,0,0,12,12,.retAddr 0) := rfl
theorem fd_Mo_mark_16 : am_fd mt_Mo_mark.1 16 = (.aload_n 0,1,0,0,0,0,.retAddr 0) := rfl
theorem fd_Mo_mark_17 : am_fd mt_Mo_mark.1 17 = (.getfield 161,3,3,0,12,12,.retAddr 0) := rfl
theorem fd_Mo_mark_20 : am_fd mt_Mo_mark.1 20 = (.ifCond .eq 5,3,25,0,0,0,.retAddr 0) := rfl
theorem fd_Mo_mark_23 : am_fd mt_Mo_mark.1 23 = (.iconst 0,1,0,0,0,0,.int 0) := rfl
theorem fd_Mo_mark_24 : am_fd mt_Mo_mark.1 24 = (.ireturn,1,0,0,0,0,.retAddr 0) := rfl
theorem fd_Mo_mark_25 : am_fd mt_Mo_mark.1 25 = (.iconst 0,1,0,0,0,0,.int 0) := rfl
theorem fd_Mo_mark_26 : am_fd mt_Mo_mark.1 26 = (.istore_n 1,1,1,0,0,0,.retAddr 0) := rfl
theorem fd_Mo_mark_27 : am_fd mt_Mo_mark.1 27 = (.iload_n 1,1,1,0,0,0,.retAddr 0) := rfl
theorem fd_Mo_mark_28 : am_fd mt_Mo_mark.1 28 = (.bipush 8,2,0,0,0,0,.int 8) := rfl
theorem fd_Mo_mark_30 : am_fd mt_Mo_mark.1 30 = (.if_icmp .ge 18,3,48,0,0,0,.retAddr 0) := rfl
theorem fd_Mo_mark_33 : am_fd mt_Mo_mark.1 33 = (.aload_n 0,1,0,0,0,0,.retAddr 0) := rfl
theorem fd_Mo_mark_34 : am_fd mt_Mo_mark.1 34 = (.getfield 56,3,26,2,12,12,.retAddr 0) := rfl
theorem fd_Mo_mark_37 : am_fd mt_Mo_mark.1 37 = (.iload_n 1,1,1,0,0,0,.retAddr 0) := rfl
theorem fd_Mo_mark_38 : am_fd mt_Mo_mark.1 38 = (.baload,1,0,0,0,0,.retAddr 0) := rfl
theorem fd_Mo_mark_39 : am_fd mt_Mo_mark.1 39 = (.ifCond .eq 9,3,48,0,0,0,.retAddr 0) := rfl
theorem fd_Mo_mark_42 : am_fd mt_Mo_mark.1 42 = (.iinc 1 1,3,1,0,0,0,.int 1) := rfl
theorem fd_Mo_mark_45 : am_fd mt_Mo_mark.1 45 = (.goto (-18),3,27,0,0,0,.retAddr 0) := rfl
theorem fd_Mo_mark_48 : am_fd mt_Mo_mark.1 48 = (.iload_n 1,1,1,0,0,0,.retAddr 0) := rfl
theorem fd_Mo_mark_49 : am_fd mt_Mo_mark.1 49 = (.bipush 8,2,0,0,0,0,.int 8) := rfl
theorem fd_Mo_mark_51 : am_fd mt_Mo_mark.1 51 = (.if_icmp .ne 5,3,56,0,0,0,.retAddr 0) := rfl
theorem fd_Mo_mark_54 : am_fd mt_Mo_mark.1 54 = (.iconst (-1),1,0,0,0,0,.int (-1)) := rfl
theorem fd_Mo_mark_55 : am_fd mt_Mo_mark.1 55 = (.ireturn,1,0,0,0,0,.retAddr 0) := rfl
theorem fd_Mo_mark_56 : am_fd mt_Mo_mark.1 56 = (.aload_n 0,1,0,0,0,0,.retAddr 0) := rfl
theorem fd_Mo_mark_57 : am_fd mt_Mo_mark.1 57 = (.getfield 165,3,11,0,12,12,.retAddr 0) := rfl
theorem fd_Mo_mark_60 : am_fd mt_Mo_mark.1 60 = (.ifCond .le 23,3,83,0,0,0,.retAddr 0) := rfl
theorem fd_Mo_mark_63 : am_fd mt_Mo_mark.1 63 = (.aload_n 0,1,0,0,0,0,.retAddr 0) := rfl
theorem fd_Mo_mark_64 : am_fd mt_Mo_mark.1 64 = (.invokevirtual 261,3,168,1,12,0,.retAddr 0) := rfl
theorem fd_Mo_mark_67 : am_fd mt_Mo_mark.1 67 = (.istore_n 2,1,2,0,0,0,.retAddr 0) := rfl
theorem fd_Mo_mark_68 : am_fd mt_Mo_mark.1 68 = (.iload_n 2,1,2,0,0,0,.retAddr 0) := rfl
theorem fd_Mo_mark_69 : am_fd mt_Mo_mark.1 69 = (.ifCond .gt 14,3,83,0,0,0,.retAddr 0) := rfl
theorem fd_Mo_mark_72 : am_fd mt_Mo_mark.1 72 = (.iload_n 2,1,2,0,0,0,.retAddr 0) := rfl
theorem fd_Mo_mark_73 : am_fd mt_Mo_mark.1 73 = (.ifCond .ne 8,3,81,0,0,0,.retAddr 0) := rfl
theorem fd_Mo_mark_76 : am_fd mt_Mo_mark.1 76 = (.bipush (-2),2,0,0,0,0,.int (-2)) := rfl
theorem fd_Mo_mark_78 : am_fd mt_Mo_mark.1 78 = (.goto 4,3,82,0,0,0,.retAddr 0) := rfl
theorem fd_Mo_mark_81 : am_fd mt_Mo_mark.1 81 = (.iconst (-1),1,0,0,0,0,.int (-1)) := rfl
theorem fd_Mo_mark_82 : am_fd mt_Mo_mark.1 82 = (.ireturn,1,0,0,0,0,.retAddr 0) := rfl
theorem fd_Mo_mark_83 : am_fd mt_Mo_mark.1 83 = (.aload_n 0,1,0,0,0,0,.retAddr 0) := rfl
theorem fd_Mo_mark_84 : am_fd mt_Mo_mark.1 84 = (.getfield 56,3,26,2,12,12,.retAddr 0) := rfl
theorem fd_Mo_mark_87 : am_fd mt_Mo_mark.1 87 = (.iload_n 1,1,1,0,0,0,.retAddr 0) := rfl
theorem fd_Mo_mark_88 : am_fd mt_Mo_mark.1 88 = (.iconst 1,1,0,0,0,0,.int 1) := rfl
theorem fd_Mo_mark_89 : am_fd mt_Mo_mark.1 89 = (.bastore,1,0,0,0,0,.retAddr 0) := rfl
theorem fd_Mo_mark_90 : am_fd mt_Mo_mark.1 90 = (.aload_n 0,1,0,0,0,0,.retAddr 0) := rfl
theorem fd_Mo_mark_91 : am_fd mt_Mo_mark.1 91 = (.getfield 60,3,27,2,12,12,.retAddr 0) := rfl
theorem fd_Mo_mark_94 : am_fd mt_Mo_mark.1 94 = (.iload_n 1,1,1,0,0,0,.retAddr 0) := rfl
theorem fd_Mo_mark_95 : am_fd mt_Mo_mark.1 95 = (.aload_n 0,1,0,0,0,0,.retAddr 0) := rfl
theorem fd_Mo_mark_96 : am_fd mt_Mo_mark.1 96 = (.getfield 168,3,24,0,12,12,.retAddr 0) := rfl
theorem fd_Mo_mark_99 : am_fd mt_Mo_mark.1 99 = (.iastore,1,0,0,0,0,.retAddr 0) := rfl
theorem fd_Mo_mark_100 : am_fd mt_Mo_mark.1 100 = (.iconst 0,1,0,0,0,0,.int 0) := rfl
theorem fd_Mo_mark_101 : am_fd mt_Mo_mark.1 101 = (.istore_n 2,1,2,0,0,0,.retAddr 0) := rfl
theorem fd_Mo_mark_102 : am_fd mt_Mo_mark.1 102 = (.iload_n 2,1,2,0,0,0,.retAddr 0) := rfl
theorem fd_Mo_mark_103 : am_fd mt_Mo_mark.1 103 = (.aload_n 0,1,0,0,0,0,.retAddr 0) := rfl
theorem fd_Mo_mark_104 : am_fd mt_Mo_mark.1 104 = (.getfield 168,3,24,0,12,12,.retAddr 0) := rfl
theorem fd_Mo_mark_107 : am_fd mt_Mo_mark.1 107 = (.if_icmp .ge 41,3,148,0,0,0,.retAddr 0) := rfl
theorem fd_Mo_mark_110 : am_fd mt_Mo_mark.1 110 = (.aload_n 0,1,0,0,0,0,.retAddr 0) := rfl
theorem fd_Mo_mark_111 : am_fd mt_Mo_mark.1 111 = (.getfield 63,3,28,2,12,12,.retAddr 0) := rfl
theorem fd_Mo_mark_114 : am_fd mt_Mo_mark.1 114 = (.bipush 9,2,0,0,0,0,.int 9) := rfl
theorem fd_Mo_mark_116 : am_fd mt_Mo_mark.1 116 = (.iload_n 1,1,1,0,0,0,.retAddr 0) := rfl
theorem fd_Mo_mark_117 : am_fd mt_Mo_mark.1 117 = (.imul,1,0,0,0,0,.retAddr 0) := rfl
theorem fd_Mo_mark_118 : am_fd mt_Mo_mark.1 118 = (.iload_n 2,1,2,0,0,0,.retAddr 0) := rfl
theorem fd_Mo_mark_119 : am_fd mt_Mo_mark.1 119 = (.iadd,1,0,0,0,0,.retAddr 0) := rfl
theorem fd_Mo_mark_120 : am_fd mt_Mo_mark.1 120 = (.aload_n 0,1,0,0,0,0,.retAddr 0) := rfl
theorem fd_Mo_mark_121 : am_fd mt_Mo_mark.1 121 = (.getfield 53,3,25,2,12,12,.retAddr 0) := rfl
theorem fd_Mo_mark_124 : am_fd mt_Mo_mark.1 124 = (.iload_n 2,1,2,0,0,0,.retAddr 0) := rfl
theorem fd_Mo_mark_125 : am_fd mt_Mo_mark.1 125 = (.iaload,1,0,0,0,0,.retAddr 0) := rfl
theorem fd_Mo_mark_126 : am_fd mt_Mo_mark.1 126 = (.iastore,1,0,0,0,0,.retAddr 0) := rfl
theorem fd_Mo_mark_127 : am_fd mt_Mo_mark.1 127 = (.aload_n 0,1,0,0,0,0,.retAddr 0) := rfl
theorem fd_Mo_mark_128 : am_fd mt_Mo_mark.1 128 = (.getfield 25,3,15,2,12,12,.retAddr 0) := rfl
theorem fd_Mo_mark_131 : am_fd mt_Mo_mark.1 131 = (.aload_n 0,1,0,0,0,0,.retAddr 0) := rfl
theorem fd_Mo_mark_132 : am_fd mt_Mo_mark.1 132 = (.getfield 53,3,25,2,12,12,.retAddr 0) := rfl
theorem fd_Mo_mark_135 : am_fd mt_Mo_mark.1 135 = (.iload_n 2,1,2,0,0,0,.retAddr 0) := rfl
theorem fd_Mo_mark_136 : am_fd mt_Mo_mark.1 136 = (.iaload,1,0,0,0,0,.retAddr 0) := rfl
theorem fd_Mo_mark_137 : am_fd mt_Mo_mark.1 137 = (.dup2,1,0,0,0,0,.retAddr 0) := rfl
theorem fd_Mo_mark_138 : am_fd mt_Mo_mark.1 138 = (.iaload,1,0,0,0,0,.retAddr 0) := rfl
theorem fd_Mo_mark_139 : am_fd mt_Mo_mark.1 139 = (.iconst 1,1,0,0,0,0,.int 1) := rfl
theorem fd_Mo_mark_140 : am_fd mt_Mo_mark.1 140 = (.iadd,1,0,0,0,0,.retAddr 0) := rfl
theorem fd_Mo_mark_141 : am_fd mt_Mo_mark.1 141 = (.iastore,1,0,0,0,0,.retAddr 0) := rfl
theorem fd_Mo_mark_142 : am_fd mt_Mo_mark.1 142 = (.iinc 2 1,3,2,0,0,0,.int 1) := rfl
theorem fd_Mo_mark_145 : am_fd mt_Mo_mark.1 145 = (.goto (-43),3,102,0,0,0,.retAddr 0) := rfl
theorem fd_Mo_mark_148 : am_fd mt_Mo_mark.1 148 = (.iload_n 1,1,1,0,0,0,.retAddr 0) := rfl
theorem fd_Mo_mark_149 : am_fd mt_Mo_mark.1 149 = (.ireturn,1,0,0,0,0,.retAddr 0) := rfl
theorem fd_Mo_release_0 : am_fd mt_Mo_release.1 0 = (.aload_n 0,1,0,0,0,0,.retAddr 0) := rfl
theorem fd_Mo_release_1 : am_fd mt_Mo_release.1 1 = (.aload_n 0,1,0,0,0,0,.retAddr 0) := rfl
theorem fd_Mo_release_2 : am_fd mt_Mo_release.1 2 = (.getfield 161,3,3,0,12,12,.retAddr 0) := rfl
theorem fd_Mo_release_5 : am_fd mt_Mo_release.1 5 = (.ifCond .eq 7,3,12,0,0,0,.retAddr 0) := rfl
theorem fd_Mo_release_8 : am_fd mt_Mo_release.1 8 = (.iconst 1,1,0,0,0,0,.int 1) := rfl
theorem fd_Mo_release_9 : am_fd mt_Mo_release.1 9 = (.goto 27,3,36,0,0,0,.retAddr 0) := rfl
theorem fd_Mo_release_12 : am_fd mt_Mo_release.1 12 = (.iload_n 1,1,1,0,0,0,.retAddr 0) := rfl
theorem fd_Mo_release_13 : am_fd mt_Mo_release.1 13 = (.ifCond .lt 18,3,31,0,0,0,.retAddr 0) := rfl
theorem fd_Mo_release_16 : am_fd mt_Mo_release.1 16 = (.iload_n 1,1,1,0,0,0,.retAddr 0) := rfl
theorem fd_Mo_release_17 : am_fd mt_Mo_release.1 17 = (.bipush 7,2,0,0,0,0,.int 7) := rfl
theorem fd_Mo_release_19 : am_fd mt_Mo_release.1 19 = (.if_icmp .gt 12,3,31,0,0,0,.retAddr 0) := rfl
theorem fd_Mo_release_22 : am_fd mt_Mo_release.1 22 = (.aload_n 0,1,0,0,0,0,.retAddr 0) := rfl
theorem fd_Mo_release_23 : am_fd mt_Mo_release.1 23 = (.getfield 56,3,26,2,12,12,.retAddr 0) := rfl
theorem fd_Mo_release_26 : am_fd mt_Mo_release.1 26 = (.iload_n 1,1,1,0,0,0,.retAddr 0) := rfl
theorem fd_Mo_release_27 : am_fd mt_Mo_release.1 27 = (.baload,1,0,0,0,0,.retAddr 0) := rfl
theorem fd_Mo_release_28 : am_fd mt_Mo_release.1 28 = (.ifCond .ne 7,3,35,0,0,0,.retAddr 0) := rfl
theorem fd_Mo_release_31 : am_fd mt_Mo_release.1 31 = (.iconst 2,1,0,0,0,0,.int 2) := rfl
theorem fd_Mo_release_32 : am_fd mt_Mo_release.1 32 = (.goto 4,3,36,0,0,0,.retAddr 0) := rfl
theorem fd_Mo_release_35 : am_fd mt_Mo_release.1 35 = (.iconst 0,1,0,0,0,0,.int 0) := rfl
theorem fd_Mo_release_36 : am_fd mt_Mo_release.1 36 = (.putfield 141,3,0,0,12,12,.retAddr 0) := rfl
theorem fd_Mo_release_39 : am_fd mt_Mo_release.1 39 = (.aload_n 0,1,0,0,0,0,.retAddr 0) := rfl
theorem fd_Mo_release_40 : am_fd mt_Mo_release.1 40 = (.getfield 141,3,0,0,12,12,.retAddr 0) := rfl
theorem fd_Mo_release_43 : am_fd mt_Mo_release.1 43 = (.ifCond .eq 5,3,48,0,0,0,.retAddr 0) := rfl
theorem fd_Mo_release_46 : am_fd mt_Mo_release.1 46 = (.iconst 0,1,0,0,0,0,.int 0) := rfl
theorem fd_Mo_release_47 : am_fd mt_Mo_release.1 47 = (.ireturn,1,0,0,0,0,.retAddr 0) := rfl
theorem fd_Mo_release_48 : am_fd mt_Mo_release.1 48 = (.aload_n 0,1,0,0,0,0,.retAddr 0) := rfl
theorem fd_Mo_release_49 : am_fd mt_Mo_release.1 49 = (.invokevirtual 208,3,159,1,12,0,.retAddr 0) := rfl
theorem fd_Mo_release_52 : am_fd mt_Mo_release.1 52 = (.istore_n 2,1,2,0,0,0,.retAddr 0) := rfl
theorem fd_Mo_release_53 : am_fd mt_Mo_release.1 53 = (.iconst 0,1,0,0,0,0,.int 0) := rfl
theorem fd_Mo_release_54 : am_fd mt_Mo_release.1 54 = (.istore_n 3,1,3,0,0,0,.retAddr 0) := rfl
theorem fd_Mo_release_55 : am_fd mt_Mo_release.1 55 = (.iload_n 3,1,3,0,0,0,.retAddr 0) := rfl
theorem fd_Mo_release_56 : am_fd mt_Mo_release.1 56 = (.aload_n 0,1,0,0,0,0,.retAddr 0) := rfl
theorem fd_Mo_release_57 : am_fd mt_Mo_release.1 57 = (.getfield 60,3,27,2,12,12,.retAddr 0) := rfl
theorem fd_Mo_release_60 : am_fd mt_Mo_release.1 60 = (.iload_n 1,1,1,0,0,0,.retAddr 0) := rfl
theorem fd_Mo_release_61 : am_fd mt_Mo_release.1 61 = (.iaload,1,0,0,0,0,.retAddr 0) := rfl
theorem fd_Mo_release_62 : am_fd mt_Mo_release.1 62 = (.if_icmp .ge 29,3,91,0,0,0,.retAddr 0) := rfl
theorem fd_Mo_release_65 : am_fd mt_Mo_release.1 65 = (.aload_n 0,1,0,0,0,0,.retAddr 0) := rfl
theorem fd_Mo_release_66 : am_fd mt_Mo_release.1 66 = (.getfield 25,3,15,2,12,12,.retAddr 0) := rfl
theorem fd_Mo_release_69 : am_fd mt_Mo_release.1 69 = (.aload_n 0,1,0,0,0,0,.retAddr 0) := rfl
theorem fd_Mo_release_70 : am_fd mt_Mo_release.1 70 = (.getfield 63,3,28,2,12,12,.retAddr 0) := rfl
theorem fd_Mo_release_73 : am_fd mt_Mo_release.1 73 = (.bipush 9,2,0,0,0,0,.int 9) := rfl
theorem fd_Mo_release_75 : am_fd mt_Mo_release.1 75 = (.iload_n 1,1,1,0,0,0,.retAddr 0) := rfl
theorem fd_Mo_release_76 : am_fd mt_Mo_release.1 76 = (.imul,1,0,0,0,0,.retAddr 0) := rfl
theorem fd_Mo_release_77 : am_fd mt_Mo_release.1 77 = (.iload_n 3,1,3,0,0,0,.retAddr 0) := rfl
theorem fd_Mo_release_78 : am_fd mt_Mo_release.1 78 = (.iadd,1,0,0,0,0,.retAddr 0) := rfl
theorem fd_Mo_release_79 : am_fd mt_Mo_release.1 79 = (.iaload,1,0,0,0,0,.retAddr 0) := rfl
theorem fd_Mo_release_80 : am_fd mt_Mo_release.1 80 = (.dup2,1,0,0,0,0,.retAddr 0) := rfl
theorem fd_Mo_release_81 : am_fd mt_Mo_release.1 81 = (.iaload,1,0,0,0,0,.retAddr 0) := rfl
theorem fd_Mo_release_82 : am_fd mt_Mo_release.1 82 = (.iconst 1,1,0,0,0,0,.int 1) := rfl
theorem fd_Mo_release_83 : am_fd mt_Mo_release.1 83 = (.isub,1,0,0,0,0,.retAddr 0) := rfl
theorem fd_Mo_release_84 : am_fd mt_Mo_release.1 84 = (.iastore,1,0,0,0,0,.retAddr 0) := rfl
theorem fd_Mo_release_85 : am_fd mt_Mo_release.1 85 = (.iinc 3 1,3,3,0,0,0,.int 1) := rfl
theorem fd_Mo_release_88 : am_fd mt_Mo_release.1 88 = (.goto (-33),3,55,0,0,0,.retAddr 0) := rfl
theorem fd_Mo_release_91 : am_fd mt_Mo_release.1 91 = (.aload_n 0,1,0,0,0,0,.retAddr 0) := rfl
theorem fd_Mo_release_92 : am_fd mt_Mo_release.1 92 = (.getfield 56,3,26,2,12,12,.retAddr 0) := rfl
theorem fd_Mo_release_95 : am_fd mt_Mo_release.1 95 = (.iload_n 1,1,1,0,0,0,.retAddr 0) := rfl
theorem fd_Mo_release_96 : am_fd mt_Mo_release.1 96 = (.iconst 0,1,0,0,0,0,.int 0) := rfl
theorem fd_Mo_release_97 : am_fd mt_Mo_release.1 97 = (.bastore,1,0,0,0,0,.retAddr 0) := rfl
theorem fd_Mo_release_98 : am_fd mt_Mo_release.1 98 = (.aload_n 0,1,0,0,0,0,.retAddr 0) := rfl
theorem fd_Mo_release_99 : am_fd mt_Mo_release.1 99 = (.invokevirtual 208,3,159,1,12,0,.retAddr 0) := rfl
theorem fd_Mo_release_102 : am_fd mt_Mo_release.1 102 = (.iload_n 2,1,2,0,0,0,.retAddr 0) := rfl
theorem fd_Mo_release_103 : am_fd mt_Mo_release.1 103 = (.isub,1,0,0,0,0,.retAddr 0) := rfl
theorem fd_Mo_release_104 : am_fd mt_Mo_release.1 104 = (.ireturn,1,0,0,0,0,.retAddr 0) := rfl
theorem fd_Mo_get_0 : am_fd mt_Mo_get.1 0 = (.aload_n 0,1,0,0,0,0,.retAddr 0) := rfl
theorem fd_Mo_get_1 : am_fd mt_Mo_get.1 1 = (.iload_n 1,1,1,0,0,0,.retAddr 0) := rfl
theorem fd_Mo_get_2 : am_fd mt_Mo_get.1 2 = (.invokevirtual 296,3,174,2,12,0,.retAddr 0) := rfl
theorem fd_Mo_get_5 : am_fd mt_Mo_get.1 5 = (.ifCond .ne 5,3,10,0,0,0,.retAddr 0) := rfl
theorem fd_Mo_get_8 : am_fd mt_Mo_get.1 8 = (.lconst 0,1,0,0,0,0,.long 0) := rfl
theorem fd_Mo_get_9 : am_fd mt_Mo_get.1 9 = (.lreturn,1,0,0,0,0,.retAddr 0) := rfl
theorem fd_Mo_get_10 : am_fd mt_Mo_get.1 10 = (.iconst 0,1,0,0,0,0,.int 0) := rfl
theorem fd_Mo_get_11 : am_fd mt_Mo_get.1 11 = (.istore 4,2,4,0,0,0,.retAddr 0) := rfl
theorem fd_Mo_get_13 : am_fd mt_Mo_get.1 13 = (.lconst 0,1,0,0,0,0,.long 0) := rfl
theorem fd_Mo_get_14 : am_fd mt_Mo_get.1 14 = (.lstore 5,2,5,0,0,0,.retAddr 0) := rfl
theorem fd_Mo_get_16 : am_fd mt_Mo_get.1 16 = (.iload_n 1,1,1,0,0,0,.retAddr 0) := rfl
theorem fd_Mo_get_17 : am_fd mt_Mo_get.1 17 = (.iconst (-1),1,0,0,0,0,.int (-1)) := rfl
theorem fd_Mo_get_18 : am_fd mt_Mo_get.1 18 = (.if_icmp .ne 82,3,100,0,0,0,.retAddr 0) := rfl
theorem fd_Mo_get_21 : am_fd mt_Mo_get.1 21 = (.aload_n 0,1,0,0,0,0,.retAddr 0) := rfl
theorem fd_Mo_get_22 : am_fd mt_Mo_get.1 22 = (.lload_n 2,1,2,0,0,0,.retAddr 0) := rfl
theorem fd_Mo_get_23 : am_fd mt_Mo_get.1 23 = (.invokevirtual 240,3,142,2,12,0,.retAddr 0) := rfl
theorem fd_Mo_get_26 : am_fd mt_Mo_get.1 26 = (.istore 7,2,7,0,0,0,.retAddr 0) := rfl
theorem fd_Mo_get_28 : am_fd mt_Mo_get.1 28 = (.iload 7,2,7,0,0,0,.retAddr 0) := rfl
theorem fd_Mo_get_30 : am_fd mt_Mo_get.1 30 = (.aload_n 0,1,0,0,0,0,.retAddr 0) := rfl
theorem fd_Mo_get_31 : am_fd mt_Mo_get.1 31 = (.getfield 165,3,11,0,12,12,.retAddr 0) := rfl
theorem fd_Mo_get_34 : am_fd mt_Mo_get.1 34 = (.if_icmp .ge 66,3,100,0,0,0,.retAddr 0) := rfl
theorem fd_Mo_get_37 : am_fd mt_Mo_get.1 37 = (.aload_n 0,1,0,0,0,0,.retAddr 0) := rfl
theorem fd_Mo_get_38 : am_fd mt_Mo_get.1 38 = (.getfield 14,3,12,2,12,12,.retAddr 0) := rfl
theorem fd_Mo_get_41 : am_fd mt_Mo_get.1 41 = (.iload 7,2,7,0,0,0,.retAddr 0) := rfl
theorem fd_Mo_get_43 : am_fd mt_Mo_get.1 43 = (.laload,1,0,0,0,0,.retAddr 0) := rfl
theorem fd_Mo_get_44 : am_fd mt_Mo_get.1 44 = (.lload_n 2,1,2,0,0,0,.retAddr 0) := rfl
theorem fd_Mo_get_45 : am_fd mt_Mo_get.1 45 = (.lcmp,1,0,0,0,0,.retAddr 0) := rfl
theorem fd_Mo_get_46 : am_fd mt_Mo_get.1 46 = (.ifCond .ne 54,3,100,0,0,0,.retAddr 0) := rfl
theorem fd_Mo_get_49 : am_fd mt_Mo_get.1 49 = (.aload_n 0,1,0,0,0,0,.retAddr 0) := rfl
theorem fd_Mo_get_50 : am_fd mt_Mo_get.1 50 = (.getfield 18,3,13,2,12,12,.retAddr 0) := rfl
theorem fd_Mo_get_53 : am_fd mt_Mo_get.1 53 = (.iload 7,2,7,0,0,0,.retAddr 0) := rfl
theorem fd_Mo_get_55 : am_fd mt_Mo_get.1 55 = (.iaload,1,0,0,0,0,.retAddr 0) := rfl
theorem fd_Mo_get_56 : am_fd mt_Mo_get.1 56 = (.iconst 3,1,0,0,0,0,.int 3) := rfl
theorem fd_Mo_get_57 : am_fd mt_Mo_get.1 57 = (.if_icmp .eq 31,3,88,0,0,0,.retAddr 0) := rfl
theorem fd_Mo_get_60 : am_fd mt_Mo_get.1 60 = (.aload_n 0,1,0,0,0,0,.retAddr 0) := rfl
theorem fd_Mo_get_61 : am_fd mt_Mo_get.1 61 = (.aload_n 0,1,0,0,0,0,.retAddr 0) := rfl
theorem fd_Mo_get_62 : am_fd mt_Mo_get.1 62 = (.getfield 18,3,13,2,12,12,.retAddr 0) := rfl
theorem fd_Mo_get_65 : am_fd mt_Mo_get.1 65 = (.iload 7,2,7,0,0,0,.retAddr 0) := rfl
theorem fd_Mo_get_67 : am_fd mt_Mo_get.1 67 = (.iaload,1,0,0,0,0,.retAddr 0) := rfl
theorem fd_Mo_get_68 : am_fd mt_Mo_get.1 68 = (.iconst 1,1,0,0,0,0,.int 1) := rfl
theorem fd_Mo_get_69 : am_fd mt_Mo_get.1 69 = (.if_icmp .ne 7,3,76,0,0,0,.retAddr 0) := rfl
theorem fd_Mo_get_72 : am_fd mt_Mo_get.1 72 = (.iconst 1,1,0,0,0,0,.int 1) := rfl
theorem fd_Mo_get_73 : am_fd mt_Mo_get.1 73 = (.goto 4,3,77,0,0,0,.retAddr 0) := rfl
theorem fd_Mo_get_76 : am_fd mt_Mo_get.1 76 = (.iconst 2,1,0,0,0,0,.int 2) := rfl
theorem fd_Mo_get_77 : am_fd mt_Mo_get.1 77 = (.putfield 299,3,10,0,12,12,.retAddr 0) := rfl
theorem fd_Mo_get_80 : am_fd mt_Mo_get.1 80 = (.aload_n 0,1,0,0,0,0,.retAddr 0) := rfl
theorem fd_Mo_get_81 : am_fd mt_Mo_get.1 81 = (.getfield 22,3,14,2,12,12,.retAddr 0) := rfl
theorem fd_Mo_get_84 : am_fd mt_Mo_get.1 84 = (.iload 7,2,7,0,0,0,.retAddr 0) := rfl
theorem fd_Mo_get_86 : am_fd mt_Mo_get.1 86 = (.laload,1,0,0,0,0,.retAddr 0) := rfl
theorem fd_Mo_get_87 : am_fd mt_Mo_get.1 87 = (.lreturn,1,0,0,0,0,.retAddr 0) := rfl
theorem fd_Mo_get_88 : am_fd mt_Mo_get.1 88 = (.iconst 1,1,0,0,0,0,.int 1) := rfl
theorem fd_Mo_get_89 : am_fd mt_Mo_get.1 89 = (.istore 4,2,4,0,0,0,.retAddr 0) := rfl
theorem fd_Mo_get_91 : am_fd mt_Mo_get.1 91 = (.aload_n 0,1,0,0,0,0,.retAddr 0) := rfl
theorem fd_Mo_get_92 : am_fd mt_Mo_get.1 92 = (.getfield 22,3,14,2,12,12,.retAddr 0) := rfl
theorem fd_Mo_get_95 : am_fd mt_Mo_get.1 95 = (.iload 7,2,7,0,0,0,.retAddr 0) := rfl
theorem fd_Mo_get_97 : am_fd mt_Mo_get.1 97 = (.laload,1,0,0,0,0,.retAddr 0) := rfl
theorem fd_Mo_get_98 : am_fd mt_Mo_get.1 98 = (.lstore 5,2,5,0,0,0,.retAddr 0) := rfl
theorem fd_Mo_get_100 : am_fd mt_Mo_get.1 100 = (.iconst 0,1,0,0,0,0,.int 0) := rfl
theorem fd_Mo_get_101 : am_fd mt_Mo_get.1 101 = (.istore 7,2,7,0,0,0,.retAddr 0) := rfl
theorem fd_Mo_get_103 : am_fd mt_Mo_get.1 103 = (.iload 7,2,7,0,0,0,.retAddr 0) := rfl
theorem fd_Mo_get_105 : am_fd mt_Mo_get.1 105 = (.aload_n 0,1,0,0,0,0,.retAddr 0) := rfl
theorem fd_Mo_get_106 : am_fd mt_Mo_get.1 106 = (.iload_n 1,1,1,0,0,0,.retAddr 0) := rfl
theorem fd_Mo_get_107 : am_fd mt_Mo_get.1 107 = (.invokevirtual 302,3,175,2,12,0,.retAddr 0) := rfl
theorem fd_Mo_get_110 : am_fd mt_Mo_get.1 110 = (.if_icmp .ge 240,3,350,0,0,0,.retAddr 0) := rfl
theorem fd_Mo_get_113 : am_fd mt_Mo_get.1 113 = (.aload_n 0,1,0,0,0,0,.retAddr 0) := rfl
theorem fd_Mo_get_114 : am_fd mt_Mo_get.1 114 = (.iload_n 1,1,1,0,0,0,.retAddr 0) := rfl
theorem fd_Mo_get_115 : am_fd mt_Mo_get.1 115 = (.iload 7,2,7,0,0,0,.retAddr 0) := rfl
theorem fd_Mo_get_117 : am_fd mt_Mo_get.1 117 = (.invokevirtual 305,3,176,3,12,0,.retAddr 0) := rfl
theorem fd_Mo_get_120 : am_fd mt_Mo_get.1 120 = (.istore 8,2,8,0,0,0,.retAddr 0) := rfl
theorem fd_Mo_get_122 : am_fd mt_Mo_get.1 122 = (.aload_n 0,1,0,0,0,0,.retAddr 0) := rfl
theorem fd_Mo_get_123 : am_fd mt_Mo_get.1 123 = (.getfield 44,3,21,2,12,12,.retAddr 0) := rfl
theorem fd_Mo_get_126 : am_fd mt_Mo_get.1 126 = (.sipush 1024,3,0,0,0,0,.int 1024) := rfl
theorem fd_Mo_get_129 : am_fd mt_Mo_get.1 129 = (.iload 8,2,8,0,0,0,.retAddr 0) := rfl
theorem fd_Mo_get_131 : am_fd mt_Mo_get.1 131 = (.imul,1,0,0,0,0,.retAddr 0) := rfl
theorem fd_Mo_get_132 : am_fd mt_Mo_get.1 132 = (.laload,1,0,0,0,0,.retAddr 0) := rfl
theorem fd_Mo_get_133 : am_fd mt_Mo_get.1 133 = (.lload_n 2,1,2,0,0,0,.retAddr 0) := rfl
theorem fd_Mo_get_134 : am_fd mt_Mo_get.1 134 = (.lcmp,1,0,0,0,0,.retAddr 0) := rfl
theorem fd_Mo_get_135 : am_fd mt_Mo_get.1 135 = (.ifCond .gt 209,3,344,0,0,0,.retAddr 0) := rfl
theorem fd_Mo_get_138 : am_fd mt_Mo_get.1 138 = (.aload_n 0,1,0,0,0,0,.retAddr 0) := rfl
theorem fd_Mo_get_139 : am_fd mt_Mo_get.1 139 = (.getfield 47,3,22,2,12,12,.retAddr 0) := rfl
theorem fd_Mo_get_142 : am_fd mt_Mo_get.1 142 = (.iload 8,2,8,0,0,0,.retAddr 0) := rfl
theorem fd_Mo_get_144 : am_fd mt_Mo_get.1 144 = (.laload,1,0,0,0,0,.retAddr 0) := rfl
theorem fd_Mo_get_145 : am_fd mt_Mo_get.1 145 = (.lload_n 2,1,2,0,0,0,.retAddr 0) := rfl
theorem fd_Mo_get_146 : am_fd mt_Mo_get.1 146 = (.lcmp,1,0,0,0,0,.retAddr 0) := rfl
theorem fd_Mo_get_147 : am_fd mt_Mo_get.1 147 = (.ifCond .lt 197,3,344,0,0,0,.retAddr 0) := rfl
theorem fd_Mo_get_150 : am_fd mt_Mo_get.1 150 = (.aload_n 0,1,0,0,0,0,.retAddr 0) := rfl
theorem fd_Mo_get_151 : am_fd mt_Mo_get.1 151 = (.iload 8,2,8,0,0,0,.retAddr 0) := rfl
theorem fd_Mo_get_153 : am_fd mt_Mo_get.1 153 = (.lload_n 2,1,2,0,0,0,.retAddr 0) := rfl
theorem fd_Mo_get_154 : am_fd mt_Mo_get.1 154 = (.invokevirtual 308,3,177,3,12,0,.retAddr 0) := rfl
theorem fd_Mo_get_157 : am_fd mt_Mo_get.1 157 = (.ifCond .ne 187,3,344,0,0,0,.retAddr 0) := rfl
theorem fd_Mo_get_160 : am_fd mt_Mo_get.1 160 = (.aload_n 0,1,0,0,0,0,.retAddr 0) := rfl
theorem fd_Mo_get_161 : am_fd mt_Mo_get.1 161 = (.getfield 34,3,18,2,12,12,.retAddr 0) := rfl
theorem fd_Mo_get_164 : am_fd mt_Mo_get.1 164 = (.iload 8,2,8,0,0,0,.retAddr 0) := rfl
theorem fd_Mo_get_166 : am_fd mt_Mo_get.1 166 = (.iaload,1,0,0,0,0,.retAddr 0) := rfl
theorem fd_Mo_get_167 : am_fd mt_Mo_get.1 167 = (.iconst 1,1,0,0,0,0,.int 1) := rfl
theorem fd_Mo_get_168 : am_fd mt_Mo_get.1 168 = (.isub,1,0,0,0,0,.retAddr 0) := rfl
theorem fd_Mo_get_169 : am_fd mt_Mo_get.1 169 = (.istore 9,2,9,0,0,0,.retAddr 0) := rfl
theorem fd_Mo_get_171 : am_fd mt_Mo_get.1 171 = (.aload_n 0,1,0,0,0,0,.retAddr 0) := rfl
theorem fd_Mo_get_172 : am_fd mt_Mo_get.1 172 = (.getfield 44,3,21,2,12,12,.retAddr 0) := rfl
theorem fd_Mo_get_175 : am_fd mt_Mo_get.1 175 = (.sipush 1024,3,0,0,0,0,.int 1024) := rfl
theorem fd_Mo_get_178 : am_fd mt_Mo_get.1 178 = (.iload 8,2,8,0,0,0,.retAddr 0) := rfl
theorem fd_Mo_get_180 : am_fd mt_Mo_get.1 180 = (.imul,1,0,0,0,0,.retAddr 0) := rfl
theorem fd_Mo_get_181 : am_fd mt_Mo_get.1 181 = (.iload 9,2,9,0,0,0,.retAddr 0) := rfl
theorem fd_Mo_get_183 : am_fd mt_Mo_get.1 183 = (.iadd,1,0,0,0,0,.retAddr 0) := rfl
theorem fd_Mo_get_184 : am_fd mt_Mo_get.1 184 = (.laload,1,0,0,0,0,.retAddr 0) := rfl
theorem fd_Mo_get_185 : am_fd mt_Mo_get.1 185 = (.lload_n 2,1,2,0,0,0,.retAddr 0) := rfl
theorem fd_Mo_get_186 : am_fd mt_Mo_get.1 186 = (.lcmp,1,0,0,0,0,.retAddr 0) := rfl
theorem fd_Mo_get_187 : am_fd mt_Mo_get.1 187 = (.ifCond .le 9,3,196,0,0,0,.retAddr 0) := rfl
theorem fd_Mo_get_190 : am_fd mt_Mo_get.1 190 = (.iinc 9 (-1),3,9,0,0,0,.int (-1)) := rfl
theorem fd_Mo_get_193 : am_fd mt_Mo_get.1 193 = (.goto (-22),3,171,0,0,0,.retAddr 0) := rfl
theorem fd_Mo_get_196 : am_fd mt_Mo_get.1 196 = (.aload_n 0,1,0,0,0,0,.retAddr 0) := rfl
theorem fd_Mo_get_197 : am_fd mt_Mo_get.1 197 = (.getfield 41,3,20,2,12,12,.retAddr 0) := rfl
theorem fd_Mo_get_200 : am_fd mt_Mo_get.1 200 = (.sipush 1024,3,0,0,0,0,.int 1024) := rfl
theorem fd_Mo_get_203 : am_fd mt_Mo_get.1 203 = (.iload 8,2,8,0,0,0,.retAddr 0) := rfl
theorem fd_Mo_get_205 : am_fd mt_Mo_get.1 205 = (.imul,1,0,0,0,0,.retAddr 0) := rfl
theorem fd_Mo_get_206 : am_fd mt_Mo_get.1 206 = (.iload 9,2,9,0,0,0,.retAddr 0) := rfl
theorem fd_Mo_get_208 : am_fd mt_Mo_get.1 208 = (.iadd,1,0,0,0,0,.retAddr 0) := rfl
theorem fd_Mo_get_209 : am_fd mt_Mo_get.1 209 = (.iaload,1,0,0,0,0,.retAddr 0) := rfl
theorem fd_Mo_get_210 : am_fd mt_Mo_get.1 210 = (.istore 10,2,10,0,0,0,.retAddr 0) := rfl
theorem fd_Mo_get_212 : am_fd mt_Mo_get.1 212 = (.aload_n 0,1,0,0,0,0,.retAddr 0) := rfl
theorem fd_Mo_get_213 : am_fd mt_Mo_get.1 213 = (.dup,1,0,0,0,0,.retAddr 0) := rfl
theorem fd_Mo_get_214 : am_fd mt_Mo_get.1 214 = (.getfield 275,3,6,0,12,12,.retAddr 0) := rfl
theorem fd_Mo_get_217 : am_fd mt_Mo_get.1 217 = (.iconst 1,1,0,0,0,0,.int 1) := rfl
theorem fd_Mo_get_218 : am_fd mt_Mo_get.1 218 = (.iadd,1,0,0,0,0,.retAddr 0) := rfl
theorem fd_Mo_get_219 : am_fd mt_Mo_get.1 219 = (.putfield 275,3,6,0,12,12,.retAddr 0) := rfl
theorem fd_Mo_get_222 : am_fd mt_Mo_get.1 222 = (.aload_n 0,1,0,0,0,0,.retAddr 0) := rfl
theorem fd_Mo_get_223 : am_fd mt_Mo_get.1 223 = (.iload 10,2,10,0,0,0,.retAddr 0) := rfl
theorem fd_Mo_get_225 : am_fd mt_Mo_get.1 225 = (.invokevirtual 278,3,150,2,12,0,.retAddr 0) := rfl
theorem fd_Mo_get_228 : am_fd mt_Mo_get.1 228 = (.ifCond .ne 10,3,238,0,0,0,.retAddr 0) := rfl
theorem fd_Mo_get_231 : am_fd mt_Mo_get.1 231 = (.aload_n 0,1,0,0,0,0,.retAddr 0) := rfl
theorem fd_Mo_get_232 : am_fd mt_Mo_get.1 232 = (.iconst 3,1,0,0,0,0,.int 3) := rfl
theorem fd_Mo_get_233 : am_fd mt_Mo_get.1 233 = (.putfield 299,3,10,0,12,12,.retAddr 0) := rfl
theorem fd_Mo_get_236 : am_fd mt_Mo_get.1 236 = (.lconst 0,1,0,0,0,0,.long 0) := rfl
theorem fd_Mo_get_237 : am_fd mt_Mo_get.1 237 = (.lreturn,1,0,0,0,0,.retAddr 0) := rfl
theorem fd_Mo_get_238 : am_fd mt_Mo_get.1 238 = (.aload_n 0,1,0,0,0,0,.retAddr 0) := rfl
theorem fd_Mo_get_239 : am_fd mt_Mo_get.1 239 = (.iload 10,2,10,0,0,0,.retAddr 0) := rfl
theorem fd_Mo_get_241 : am_fd mt_Mo_get.1 241 = (.invokevirtual 281,3,151,2,12,0,.retAddr 0) := rfl
theorem fd_Mo_get_244 : am_fd mt_Mo_get.1 244 = (.iconst 0,1,0,0,0,0,.int 0) := rfl
theorem fd_Mo_get_245 : am_fd mt_Mo_get.1 245 = (.istore 11,2,11,0,0,0,.retAddr 0) := rfl
theorem fd_Mo_get_247 : am_fd mt_Mo_get.1 247 = (.iload 11,2,11,0,0,0,.retAddr 0) := rfl
theorem fd_Mo_get_249 : am_fd mt_Mo_get.1 249 = (.aload_n 0,1,0,0,0,0,.retAddr 0) := rfl
theorem fd_Mo_get_250 : am_fd mt_Mo_get.1 250 = (.getfield 272,3,35,0,12,12,.retAddr 0) := rfl
theorem fd_Mo_get_253 : am_fd mt_Mo_get.1 253 = (.if_icmp .ge 91,3,344,0,0,0,.retAddr 0) := rfl
theorem fd_Mo_get_256 : am_fd mt_Mo_get.1 256 = (.aload_n 0,1,0,0,0,0,.retAddr 0) := rfl
theorem fd_Mo_get_257 : am_fd mt_Mo_get.1 257 = (.getfield 82,3,36,2,12,12,.retAddr 0) := rfl
theorem fd_Mo_get_260 : am_fd mt_Mo_get.1 260 = (.iload 11,2,11,0,0,0,.retAddr 0) := rfl
theorem fd_Mo_get_262 : am_fd mt_Mo_get.1 262 = (.laload,1,0,0,0,0,.retAddr 0) := rfl
theorem fd_Mo_get_263 : am_fd mt_Mo_get.1 263 = (.lload_n 2,1,2,0,0,0,.retAddr 0) := rfl
theorem fd_Mo_get_264 : am_fd mt_Mo_get.1 264 = (.lcmp,1,0,0,0,0,.retAddr 0) := rfl
theorem fd_Mo_get_265 : am_fd mt_Mo_get.1 265 = (.ifCond .ne 73,3,338,0,0,0,.retAddr 0) := rfl
theorem fd_Mo_get_268 : am_fd mt_Mo_get.1 268 = (.aload_n 0,1,0,0,0,0,.retAddr 0) := rfl
theorem fd_Mo_get_269 : am_fd mt_Mo_get.1 269 = (.getfield 85,3,37,2,12,12,.retAddr 0) := rfl
theorem fd_Mo_get_272 : am_fd mt_Mo_get.1 272 = (.iload 11,2,11,0,0,0,.retAddr 0) := rfl
theorem fd_Mo_get_274 : am_fd mt_Mo_get.1 274 = (.iaload,1,0,0,0,0,.retAddr 0) := rfl
theorem fd_Mo_get_275 : am_fd mt_Mo_get.1 275 = (.iconst 1,1,0,0,0,0,.int 1) := rfl
theorem fd_Mo_get_276 : am_fd mt_Mo_get.1 276 = (.if_icmp .ne 19,3,295,0,0,0,.retAddr 0) := rfl
theorem fd_Mo_get_279 : am_fd mt_Mo_get.1 279 = (.aload_n 0,1,0,0,0,0,.retAddr 0) := rfl
theorem fd_Mo_get_280 : am_fd mt_Mo_get.1 280 = (.iconst 1,1,0,0,0,0,.int 1) := rfl
theorem fd_Mo_get_281 : am_fd mt_Mo_get.1 281 = (.putfield 299,3,10,0,12,12,.retAddr 0) := rfl
theorem fd_Mo_get_284 : am_fd mt_Mo_get.1 284 = (.aload_n 0,1,0,0,0,0,.retAddr 0) := rfl
theorem fd_Mo_get_285 : am_fd mt_Mo_get.1 285 = (.getfield 88,3,38,2,12,12,.retAddr 0) := rfl
theorem fd_Mo_get_288 : am_fd mt_Mo_get.1 288 = (.iload 11,2,11,0,0,0,.retAddr 0) := rfl
theorem fd_Mo_get_290 : am_fd mt_Mo_get.1 290 = (.laload,1,0,0,0,0,.retAddr 0) := rfl
theorem fd_Mo_get_291 : am_fd mt_Mo_get.1 291 = (.lload 5,2,5,0,0,0,.retAddr 0) := rfl
theorem fd_Mo_get_293 : am_fd mt_Mo_get.1 293 = (.ladd,1,0,0,0,0,.retAddr 0) := rfl
theorem fd_Mo_get_294 : am_fd mt_Mo_get.1 294 = (.lreturn,1,0,0,0,0,.retAddr 0) := rfl
theorem fd_Mo_get_295 : am_fd mt_Mo_get.1 295 = (.aload_n 0,1,0,0,0,0,.retAddr 0) := rfl
theorem fd_Mo_get_296 : am_fd mt_Mo_get.1 296 = (.getfield 85,3,37,2,12,12,.retAddr 0) := rfl
theorem fd_Mo_get_299 : am_fd mt_Mo_get.1 299 = (.iload 11,2,11,0,0,0,.retAddr 0) := rfl
theorem fd_Mo_get_301 : am_fd mt_Mo_get.1 301 = (.iaload,1,0,0,0,0,.retAddr 0) := rfl
theorem fd_Mo_get_302 : am_fd mt_Mo_get.1 302 = (.iconst 2,1,0,0,0,0,.int 2) := rfl
theorem fd_Mo_get_303 : am_fd mt_Mo_get.1 303 = (.if_icmp .ne 20,3,323,0,0,0,.retAddr 0) := rfl
theorem fd_Mo_get_306 : am_fd mt_Mo_get.1 306 = (.aload_n 0,1,0,0,0,0,.retAddr 0) := rfl
theorem fd_Mo_get_307 : am_fd mt_Mo_get.1 307 = (.iload 4,2,4,0,0,0,.retAddr 0) := rfl
theorem fd_Mo_get_309 : am_fd mt_Mo_get.1 309 = (.ifCond .eq 7,3,316,0,0,0,.retAddr 0) := rfl
theorem fd_Mo_get_312 : am_fd mt_Mo_get.1 312 = (.iconst 1,1,0,0,0,0,.int 1) := rfl
theorem fd_Mo_get_313 : am_fd mt_Mo_get.1 313 = (.goto 4,3,317,0,0,0,.retAddr 0) := rfl
theorem fd_Mo_get_316 : am_fd mt_Mo_get.1 316 = (.iconst 2,1,0,0,0,0,.int 2) := rfl
theorem fd_Mo_get_317 : am_fd mt_Mo_get.1 317 = (.putfield 299,3,10,0,12,12,.retAddr 0) := rfl
theorem fd_Mo_get_320 : am_fd mt_Mo_get.1 320 = (.lload 5,2,5,0,0,0,.retAddr 0) := rfl
theorem fd_Mo_get_322 : am_fd mt_Mo_get.1 322 = (.lreturn,1,0,0,0,0,.retAddr 0) := rfl
theorem fd_Mo_get_323 : am_fd mt_Mo_get.1 323 = (.iconst 1,1,0,0,0,0,.int 1) := rfl
theorem fd_Mo_get_324 : am_fd mt_Mo_get.1 324 = (.istore 4,2,4,0,0,0,.retAddr 0) := rfl
theorem fd_Mo_get_326 : am_fd mt_Mo_get.1 326 = (.lload 5,2,5,0,0,0,.retAddr 0) := rfl
theorem fd_Mo_get_328 : am_fd mt_Mo_get.1 328 = (.aload_n 0,1,0,0,0,0,.retAddr 0) := rfl
theorem fd_Mo_get_329 : am_fd mt_Mo_get.1 329 = (.getfield 88,3,38,2,12,12,.retAddr 0) := rfl
theorem fd_Mo_get_332 : am_fd mt_Mo_get.1 332 = (.iload 11,2,11,0,0,0,.retAddr 0) := rfl
theorem fd_Mo_get_334 : am_fd mt_Mo_get.1 334 = (.laload,1,0,0,0,0,.retAddr 0) := rfl
theorem fd_Mo_get_335 : am_fd mt_Mo_get.1 335 = (.ladd,1,0,0,0,0,.retAddr 0) := rfl
theorem fd_Mo_get_336 : am_fd mt_Mo_get.1 336 = (.lstore 5,2,5,0,0,0,.retAddr 0) := rfl
theorem fd_Mo_get_338 : am_fd mt_Mo_get.1 338 = (.iinc 11 1,3,11,0,0,0,.int 1) := rfl
theorem fd_Mo_get_341 : am_fd mt_Mo_get.1 341 = (.goto (-94),3,247,0,0,0,.retAddr 0) := rfl
theorem fd_Mo_get_344 : am_fd mt_Mo_get.1 344 = (.iinc 7 1,3,7,0,0,0,.int 1) := rfl
theorem fd_Mo_get_347 : am_fd mt_Mo_get.1 347 = (.goto (-244),3,103,0,0,0,.retAddr 0) := rfl
theorem fd_Mo_get_350 : am_fd mt_Mo_get.1 350 = (.aload_n 0,1,0,0,0,0,.retAddr 0) := rfl
theorem fd_Mo_get_351 : am_fd mt_Mo_get.1 351 = (.iload 4,2,4,0,0,0,.retAddr 0) := rfl
theorem fd_Mo_get_353 : am_fd mt_Mo_get.1 353 = (.ifCond .eq 7,3,360,0,0,0,.retAddr 0) := rfl
theorem fd_Mo_get_356 : am_fd mt_Mo_get.1 356 = (.iconst 1,1,0,0,0,0,.int 1) := rfl
theorem fd_Mo_get_357 : am_fd mt_Mo_get.1 357 = (.goto 4,3,361,0,0,0,.retAddr 0) := rfl
theorem fd_Mo_get_360 : am_fd mt_Mo_get.1 360 = (.iconst 0,1,0,0,0,0,.int 0) := rfl
theorem fd_Mo_get_361 : am_fd mt_Mo_get.1 361 = (.putfield 299,3,10,0,12,12,.retAddr 0) := rfl
theorem fd_Mo_get_364 : am_fd mt_Mo_get.1 364 = (.lload 5,2,5,0,0,0,.retAddr 0) := rfl
theorem fd_Mo_get_366 : am_fd mt_Mo_get.1 366 = (.lreturn,1,0,0,0,0,.retAddr 0) := rfl
theorem fd_Mo_isView_0 : am_fd mt_Mo_isView.1 0 = (.aload_n 0,1,0,0,0,0,.retAddr 0) := rfl
theorem fd_Mo_isView_1 : am_fd mt_Mo_isView.1 1 = (.aload_n 0,1,0,0,0,0,.retAddr 0) := rfl
theorem fd_Mo_isView_2 : am_fd mt_Mo_isView.1 2 = (.getfield 161,3,3,0,12,12,.retAddr 0) := rfl
theorem fd_Mo_isView_5 : am_fd mt_Mo_isView.1 5 = (.ifCond .eq 7,3,12,0,0,0,.retAddr 0) := rfl
theorem fd_Mo_isView_8 : am_fd mt_Mo_isView.1 8 = (.iconst 1,1,0,0,0,0,.int 1) := rfl
theorem fd_Mo_isView_9 : am_fd mt_Mo_isView.1 9 = (.goto 32,3,41,0,0,0,.retAddr 0) := rfl
theorem fd_Mo_isView_12 : am_fd mt_Mo_isView.1 12 = (.iload_n 1,1,1,0,0,0,.retAddr 0) := rfl
theorem fd_Mo_isView_13 : am_fd mt_Mo_isView.1 13 = (.iconst (-1),1,0,0,0,0,.int (-1)) := rfl
theorem fd_Mo_isView_14 : am_fd mt_Mo_isView.1 14 = (.if_icmp .lt 22,3,36,0,0,0,.retAddr 0) := rfl
theorem fd_Mo_isView_17 : am_fd mt_Mo_isView.1 17 = (.iload_n 1,1,1,0,0,0,.retAddr 0) := rfl
theorem fd_Mo_isView_18 : am_fd mt_Mo_isView.1 18 = (.bipush 7,2,0,0,0,0,.int 7) := rfl
theorem fd_Mo_isView_20 : am_fd mt_Mo_isView.1 20 = (.if_icmp .gt 16,3,36,0,0,0,.retAddr 0) := rfl
theorem fd_Mo_isView_23 : am_fd mt_Mo_isView.1 23 = (.iload_n 1,1,1,0,0,0,.retAddr 0) := rfl
theorem fd_Mo_isView_24 : am_fd mt_Mo_isView.1 24 = (.ifCond .lt 16,3,40,0,0,0,.retAddr 0) := rfl
theorem fd_Mo_isView_27 : am_fd mt_Mo_isView.1 27 = (.aload_n 0,1,0,0,0,0,.retAddr 0) := rfl
theorem fd_Mo_isView_28 : am_fd mt_Mo_isView.1 28 = (.getfield 56,3,26,2,12,12,.retAddr 0) := rfl
theorem fd_Mo_isView_31 : am_fd mt_Mo_isView.1 31 = (.iload_n 1,1,1,0,0,0,.retAddr 0) := rfl
theorem fd_Mo_isView_32 : am_fd mt_Mo_isView.1 32 = (.baload,1,0,0,0,0,.retAddr 0) := rfl
theorem fd_Mo_isView_33 : am_fd mt_Mo_isView.1 33 = (.ifCond .ne 7,3,40,0,0,0,.retAddr 0) := rfl
theorem fd_Mo_isView_36 : am_fd mt_Mo_isView.1 36 = (.iconst 2,1,0,0,0,0,.int 2) := rfl
theorem fd_Mo_isView_37 : am_fd mt_Mo_isView.1 37 = (.goto 4,3,41,0,0,0,.retAddr 0) := rfl
theorem fd_Mo_isView_40 : am_fd mt_Mo_isView.1 40 = (.iconst 0,1,0,0,0,0,.int 0) := rfl
theorem fd_Mo_isView_41 : am_fd mt_Mo_isView.1 41 = (.putfield 141,3,0,0,12,12,.retAddr 0) := rfl
theorem fd_Mo_isView_44 : am_fd mt_Mo_isView.1 44 = (.aload_n 0,1,0,0,0,0,.retAddr 0) := rfl
theorem fd_Mo_isView_45 : am_fd mt_Mo_isView.1 45 = (.getfield 141,3,0,0,12,12,.retAddr 0) := rfl
theorem fd_Mo_isView_48 : am_fd mt_Mo_isView.1 48 = (.ifCond .ne 7,3,55,0,0,0,.retAddr 0) := rfl
theorem fd_Mo_isView_51 : am_fd mt_Mo_isView.1 51 = (.iconst 1,1,0,0,0,0,.int 1) := rfl
theorem fd_Mo_isView_52 : am_fd mt_Mo_isView.1 52 = (.goto 4,3,56,0,0,0,.retAddr 0) := rfl
theorem fd_Mo_isView_55 : am_fd mt_Mo_isView.1 55 = (.iconst 0,1,0,0,0,0,.int 0) := rfl
theorem fd_Mo_isView_56 : am_fd mt_Mo_isView.1 56 = (.ireturn,1,1,0,0,0,.retAddr 0) := rfl
theorem fd_Mo_runsOf_0 : am_fd mt_Mo_runsOf.1 0 = (.iload_n 1,1,1,0,0,0,.retAddr 0) := rfl
theorem fd_Mo_runsOf_1 : am_fd mt_Mo_runsOf.1 1 = (.iconst (-1),1,0,0,0,0,.int (-1)) := rfl
theorem fd_Mo_runsOf_2 : am_fd mt_Mo_runsOf.1 2 = (.if_icmp .ne 10,3,12,0,0,0,.retAddr 0) := rfl
theorem fd_Mo_runsOf_5 : am_fd mt_Mo_runsOf.1 5 = (.aload_n 0,1,0,0,0,0,.retAddr 0) := rfl
theorem fd_Mo_runsOf_6 : am_fd mt_Mo_runsOf.1 6 = (.getfield 168,3,24,0,12,12,.retAddr 0) := rfl
theorem fd_Mo_runsOf_9 : am_fd mt_Mo_runsOf.1 9 = (.goto 9,3,18,0,0,0,.retAddr 0) := rfl
theorem fd_Mo_runsOf_12 : am_fd mt_Mo_runsOf.1 12 = (.aload_n 0,1,0,0,0,0,.retAddr 0) := rfl
theorem fd_Mo_runsOf_13 : am_fd mt_Mo_runsOf.1 13 = (.getfield 60,3,27,2,12,12,.retAddr 0) := rfl
theorem fd_Mo_runsOf_16 : am_fd mt_Mo_runsOf.1 16 = (.iload_n 1,1,1,0,0,0,.retAddr 0) := rfl
theorem fd_Mo_runsOf_17 : am_fd mt_Mo_runsOf.1 17 = (.iaload,1,0,0,0,0,.retAddr 0) := rfl
theorem fd_Mo_runsOf_18 : am_fd mt_Mo_runsOf.1 18 = (.ireturn,1,0,0,0,0,.retAddr 0) := rfl
theorem fd_Mo_runOf_0 : am_fd mt_Mo_runOf.1 0 = (.iload_n 1,1,1,0,0,0,.retAddr 0) := rfl
theorem fd_Mo_runOf_1 : am_fd mt_Mo_runOf.1 1 = (.iconst (-1),1,0,0,0,0,.int (-1)) := rfl
theorem fd_Mo_runOf_2 : am_fd mt_Mo_runOf.1 2 = (.if_icmp .ne 12,3,14,0,0,0,.retAddr 0) := rfl
theorem fd_Mo_runOf_5 : am_fd mt_Mo_runOf.1 5 = (.aload_n 0,1,0,0,0,0,.retAddr 0) := rfl
theorem fd_Mo_runOf_6 : am_fd mt_Mo_runOf.1 6 = (.getfield 53,3,25,2,12,12,.retAddr 0) := rfl
theorem fd_Mo_runOf_9 : am_fd mt_Mo_runOf.1 9 = (.iload_n 2,1,2,0,0,0,.retAddr 0) := rfl
theorem fd_Mo_runOf_10 : am_fd mt_Mo_runOf.1 10 = (.iaload,1,0,0,0,0,.retAddr 0) := rfl
theorem fd_Mo_runOf_11 : am_fd mt_Mo_runOf.1 11 = (.goto 14,3,25,0,0,0,.retAddr 0) := rfl
theorem fd_Mo_runOf_14 : am_fd mt_Mo_runOf.1 14 = (.aload_n 0,1,0,0,0,0,.retAddr 0) := rfl
theorem fd_Mo_runOf_15 : am_fd mt_Mo_runOf.1 15 = (.getfield 63,3,28,2,12,12,.retAddr 0) := rfl
theorem fd_Mo_runOf_18 : am_fd mt_Mo_runOf.1 18 = (.bipush 9,2,0,0,0,0,.int 9) := rfl
theorem fd_Mo_runOf_20 : am_fd mt_Mo_runOf.1 20 = (.iload_n 1,1,1,0,0,0,.retAddr 0) := rfl
theorem fd_Mo_runOf_21 : am_fd mt_Mo_runOf.1 21 = (.imul,1,0,0,0,0,.retAddr 0) := rfl
theorem fd_Mo_runOf_22 : am_fd mt_Mo_runOf.1 22 = (.iload_n 2,1,2,0,0,0,.retAddr 0) := rfl
theorem fd_Mo_runOf_23 : am_fd mt_Mo_runOf.1 23 = (.iadd,1,0,0,0,0,.retAddr 0) := rfl
theorem fd_Mo_runOf_24 : am_fd mt_Mo_runOf.1 24 = (.iaload,1,0,0,0,0,.retAddr 0) := rfl
theorem fd_Mo_runOf_25 : am_fd mt_Mo_runOf.1 25 = (.ireturn,1,0,0,0,0,.retAddr 0) := rfl
theorem fd_Mo_bars_0 : am_fd mt_Mo_bars.1 0 = (.lload_n 2,1,2,0,0,0,.retAddr 0) := rfl
theorem fd_Mo_bars_1 : am_fd mt_Mo_bars.1 1 = (.aload_n 0,1,0,0,0,0,.retAddr 0) := rfl
theorem fd_Mo_bars_2 : am_fd mt_Mo_bars.1 2 = (.getfield 28,3,16,2,12,12,.retAddr 0) := rfl
theorem fd_Mo_bars_5 : am_fd mt_Mo_bars.1 5 = (.iload_n 1,1,1,0,0,0,.retAddr 0) := rfl
theorem fd_Mo_bars_6 : am_fd mt_Mo_bars.1 6 = (.iaload,1,0,0,0,0,.retAddr 0) := rfl
theorem fd_Mo_bars_7 : am_fd mt_Mo_bars.1 7 = (.invokestatic 233,3,165,2,0,0,.retAddr 0) := rfl
theorem fd_Mo_bars_10 : am_fd mt_Mo_bars.1 10 = (.lstore 4,2,4,0,0,0,.retAddr 0) := rfl
theorem fd_Mo_bars_12 : am_fd mt_Mo_bars.1 12 = (.iconst 0,1,0,0,0,0,.int 0) := rfl
theorem fd_Mo_bars_13 : am_fd mt_Mo_bars.1 13 = (.istore 6,2,6,0,0,0,.retAddr 0) := rfl
theorem fd_Mo_bars_15 : am_fd mt_Mo_bars.1 15 = (.iload 6,2,6,0,0,0,.retAddr 0) := rfl
theorem fd_Mo_bars_17 : am_fd mt_Mo_bars.1 17 = (.iconst 3,1,0,0,0,0,.int 3) := rfl
theorem fd_Mo_bars_18 : am_fd mt_Mo_bars.1 18 = (.if_icmp .ge 48,3,66,0,0,0,.retAddr 0) := rfl
theorem fd_Mo_bars_21 : am_fd mt_Mo_bars.1 21 = (.lload 4,2,4,0,0,0,.retAddr 0) := rfl
theorem fd_Mo_bars_23 : am_fd mt_Mo_bars.1 23 = (.iload 6,2,6,0,0,0,.retAddr 0) := rfl
theorem fd_Mo_bars_25 : am_fd mt_Mo_bars.1 25 = (.invokestatic 237,3,166,2,0,0,.retAddr 0) := rfl
theorem fd_Mo_bars_28 : am_fd mt_Mo_bars.1 28 = (.istore 7,2,7,0,0,0,.retAddr 0) := rfl
theorem fd_Mo_bars_30 : am_fd mt_Mo_bars.1 30 = (.aload_n 0,1,0,0,0,0,.retAddr 0) := rfl
theorem fd_Mo_bars_31 : am_fd mt_Mo_bars.1 31 = (.getfield 50,3,23,2,12,12,.retAddr 0) := rfl
theorem fd_Mo_bars_34 : am_fd mt_Mo_bars.1 34 = (.bipush 8,2,0,0,0,0,.int 8) := rfl
theorem fd_Mo_bars_36 : am_fd mt_Mo_bars.1 36 = (.iload_n 1,1,1,0,0,0,.retAddr 0) := rfl
theorem fd_Mo_bars_37 : am_fd mt_Mo_bars.1 37 = (.imul,1,0,0,0,0,.retAddr 0) := rfl
theorem fd_Mo_bars_38 : am_fd mt_Mo_bars.1 38 = (.iload 7,2,7,0,0,0,.retAddr 0) := rfl
theorem fd_Mo_bars_40 : am_fd mt_Mo_bars.1 40 = (.bipush 64,2,0,0,0,0,.int 64) := rfl
theorem fd_Mo_bars_42 : am_fd mt_Mo_bars.1 42 = (.idiv,1,0,0,0,0,.retAddr 0) := rfl
theorem fd_Mo_bars_43 : am_fd mt_Mo_bars.1 43 = (.iadd,1,0,0,0,0,.retAddr 0) := rfl
theorem fd_Mo_bars_44 : am_fd mt_Mo_bars.1 44 = (.laload,1,0,0,0,0,.retAddr 0) := rfl
theorem fd_Mo_bars_45 : am_fd mt_Mo_bars.1 45 = (.iload 7,2,7,0,0,0,.retAddr 0) := rfl
theorem fd_Mo_bars_47 : am_fd mt_Mo_bars.1 47 = (.bipush 64,2,0,0,0,0,.int 64) := rfl
theorem fd_Mo_bars_49 : am_fd mt_Mo_bars.1 49 = (.irem,1,0,0,0,0,.retAddr 0) := rfl
theorem fd_Mo_bars_50 : am_fd mt_Mo_bars.1 50 = (.lushr,1,0,0,0,0,.retAddr 0) := rfl
theorem fd_Mo_bars_51 : am_fd mt_Mo_bars.1 51 = (.lconst 1,1,0,0,0,0,.long 1) := rfl
theorem fd_Mo_bars_52 : am_fd mt_Mo_bars.1 52 = (.land,1,0,0,0,0,.retAddr 0) := rfl
theorem fd_Mo_bars_53 : am_fd mt_Mo_bars.1 53 = (.lconst 0,1,0,0,0,0,.long 0) := rfl
theorem fd_Mo_bars_54 : am_fd mt_Mo_bars.1 54 = (.lcmp,1,0,0,0,0,.retAddr 0) := rfl
theorem fd_Mo_bars_55 : am_fd mt_Mo_bars.1 55 = (.ifCond .ne 5,3,60,0,0,0,.retAddr 0) := rfl
theorem fd_Mo_bars_58 : am_fd mt_Mo_bars.1 58 = (.iconst 1,1,0,0,0,0,.int 1) := rfl
theorem fd_Mo_bars_59 : am_fd mt_Mo_bars.1 59 = (.ireturn,1,1,0,0,0,.retAddr 0) := rfl
theorem fd_Mo_bars_60 : am_fd mt_Mo_bars.1 60 = (.iinc 6 1,3,6,0,0,0,.int 1) := rfl
theorem fd_Mo_bars_63 : am_fd mt_Mo_bars.1 63 = (.goto (-48),3,15,0,0,0,.retAddr 0) := rfl
theorem fd_Mo_bars_66 : am_fd mt_Mo_bars.1 66 = (.iconst 0,1,0,0,0,0,.int 0) := rfl
theorem fd_Mo_bars_67 : am_fd mt_Mo_bars.1 67 = (.ireturn,1,1,0,0,0,.retAddr 0) := rfl
theorem fd_Mo_state_0 : am_fd mt_Mo_state.1 0 = (.aload_n 0,1,0,0,0,0,.retAddr 0) := rfl
theorem fd_Mo_state_1 : am_fd mt_Mo_state.1 1 = (.iconst 0,1,0,0,0,0,.int 0) := rfl
theorem fd_Mo_state_2 : am_fd mt_Mo_state.1 2 = (.putfield 141,3,0,0,12,12,.retAddr 0) := rfl
theorem fd_Mo_state_5 : am_fd mt_Mo_state.1 5 = (.aload_n 0,1,0,0,0,0,.retAddr 0) := rfl
theorem fd_Mo_state_6 : am_fd mt_Mo_state.1 6 = (.getfield 299,3,10,0,12,12,.retAddr 0) := rfl
theorem fd_Mo_state_9 : am_fd mt_Mo_state.1 9 = (.ireturn,1,0,0,0,0,.retAddr 0) := rfl
theorem fd_Mo_range_0 : am_fd mt_Mo_range.1 0 = (.aload_n 0,1,0,0,0,0,.retAddr 0) := rfl
theorem fd_Mo_range_1 : am_fd mt_Mo_range.1 1 = (.iload_n 1,1,1,0,0,0,.retAddr 0) := rfl
theorem fd_Mo_range_2 : am_fd mt_Mo_range.1 2 = (.invokevirtual 296,3,174,2,12,0,.retAddr 0) := rfl
theorem fd_Mo_range_5 : am_fd mt_Mo_range.1 5 = (.ifCond .ne 5,3,10,0,0,0,.retAddr 0) := rfl
theorem fd_Mo_range_8 : am_fd mt_Mo_range.1 8 = (.iconst 0,1,0,0,0,0,.int 0) := rfl
theorem fd_Mo_range_9 : am_fd mt_Mo_range.1 9 = (.ireturn,1,0,0,0,0,.retAddr 0) := rfl
theorem fd_Mo_range_10 : am_fd mt_Mo_range.1 10 = (.lload_n 2,1,2,0,0,0,.retAddr 0) := rfl
theorem fd_Mo_range_11 : am_fd mt_Mo_range.1 11 = (.lload 4,2,4,0,0,0,.retAddr 0) := rfl
theorem fd_Mo_range_13 : am_fd mt_Mo_range.1 13 = (.lcmp,1,0,0,0,0,.retAddr 0) := rfl
theorem fd_Mo_range_14 : am_fd mt_Mo_range.1 14 = (.ifCond .le 10,3,24,0,0,0,.retAddr 0) := rfl
theorem fd_Mo_range_17 : am_fd mt_Mo_range.1 17 = (.aload_n 0,1,0,0,0,0,.retAddr 0) := rfl
theorem fd_Mo_range_18 : am_fd mt_Mo_range.1 18 = (.iconst 3,1,0,0,0,0,.int 3) := rfl
theorem fd_Mo_range_19 : am_fd mt_Mo_range.1 19 = (.putfield 141,3,0,0,12,12,.retAddr 0) := rfl
theorem fd_Mo_range_22 : am_fd mt_Mo_range.1 22 = (.iconst 0,1,0,0,0,0,.int 0) := rfl
theorem fd_Mo_range_23 : am_fd mt_Mo_range.1 23 = (.ireturn,1,0,0,0,0,.retAddr 0) := rfl
theorem fd_Mo_range_24 : am_fd mt_Mo_range.1 24 = (.aload_n 0,1,0,0,0,0,.retAddr 0) := rfl
theorem fd_Mo_range_25 : am_fd mt_Mo_range.1 25 = (.iconst 0,1,0,0,0,0,.int 0) := rfl
theorem fd_Mo_range_26 : am_fd mt_Mo_range.1 26 = (.putfield 312,3,45,0,12,12,.retAddr 0) := rfl
theorem fd_Mo_range_29 : am_fd mt_Mo_range.1 29 = (.aload_n 0,1,0,0,0,0,.retAddr 0) := rfl
theorem fd_Mo_range_30 : am_fd mt_Mo_range.1 30 = (.iconst 0,1,0,0,0,0,.int 0) := rfl
theorem fd_Mo_range_31 : am_fd mt_Mo_range.1 31 = (.putfield 197,3,31,0,12,12,.retAddr 0) := rfl
theorem fd_Mo_range_34 : am_fd mt_Mo_range.1 34 = (.iload_n 1,1,1,0,0,0,.retAddr 0) := rfl
theorem fd_Mo_range_35 : am_fd mt_Mo_range.1 35 = (.iconst (-1),1,0,0,0,0,.int (-1)) := rfl
theorem fd_Mo_range_36 : am_fd mt_Mo_range.1 36 = (.if_icmp .ne 71,3,107,0,0,0,.retAddr 0) := rfl
theorem fd_Mo_range_39 : am_fd mt_Mo_range.1 39 = (.aload_n 0,1,0,0,0,0,.retAddr 0) := rfl
theorem fd_Mo_range_40 : am_fd mt_Mo_range.1 40 = (.aload_n 0,1,0,0,0,0,.retAddr 0) := rfl
theorem fd_Mo_range_41 : am_fd mt_Mo_range.1 41 = (.getfield 165,3,11,0,12,12,.retAddr 0) := rfl
theorem fd_Mo_range_44 : am_fd mt_Mo_range.1 44 = (.putfield 197,3,31,0,12,12,.retAddr 0) := rfl
theorem fd_Mo_range_47 : am_fd mt_Mo_range.1 47 = (.iconst 0,1,0,0,0,0,.int 0) := rfl
theorem fd_Mo_range_48 : am_fd mt_Mo_range.1 48 = (.istore 6,2,6,0,0,0,.retAddr 0) := rfl
theorem fd_Mo_range_50 : am_fd mt_Mo_range.1 50 = (.iload 6,2,6,0,0,0,.retAddr 0) := rfl
theorem fd_Mo_range_52 : am_fd mt_Mo_range.1 52 = (.aload_n 0,1,0,0,0,0,.retAddr 0) := rfl
theorem fd_Mo_range_53 : am_fd mt_Mo_range.1 53 = (.getfield 197,3,31,0,12,12,.retAddr 0) := rfl
theorem fd_Mo_range_56 : am_fd mt_Mo_range.1 56 = (.if_icmp .ge 51,3,107,0,0,0,.retAddr 0) := rfl
theorem fd_Mo_range_59 : am_fd mt_Mo_range.1 59 = (.aload_n 0,1,0,0,0,0,.retAddr 0) := rfl
theorem fd_Mo_range_60 : am_fd mt_Mo_range.1 60 = (.getfield 73,3,32,2,12,12,.retAddr 0) := rfl
theorem fd_Mo_range_63 : am_fd mt_Mo_range.1 63 = (.iload 6,2,6,0,0,0,.retAddr 0) := rfl
theorem fd_Mo_range_65 : am_fd mt_Mo_range.1 65 = (.aload_n 0,1,0,0,0,0,.retAddr 0) := rfl
theorem fd_Mo_range_66 : am_fd mt_Mo_range.1 66 = (.getfield 14,3,12,2,12,12,.retAddr 0) := rfl
theorem fd_Mo_range_69 : am_fd mt_Mo_range.1 69 = (.iload 6,2,6,0,0,0,.retAddr 0) := rfl
theorem fd_Mo_range_71 : am_fd mt_Mo_range.1 71 = (.laload,1,0,0,0,0,.retAddr 0) := rfl
theorem fd_Mo_range_72 : am_fd mt_Mo_range.1 72 = (.lastore,1,0,0,0,0,.retAddr 0) := rfl
theorem fd_Mo_range_73 : am_fd mt_Mo_range.1 73 = (.aload_n 0,1,0,0,0,0,.retAddr 0) := rfl
theorem fd_Mo_range_74 : am_fd mt_Mo_range.1 74 = (.getfield 76,3,33,2,12,12,.retAddr 0) := rfl
theorem fd_Mo_range_77 : am_fd mt_Mo_range.1 77 = (.iload 6,2,6,0,0,0,.retAddr 0) := rfl
theorem fd_Mo_range_79 : am_fd mt_Mo_range.1 79 = (.aload_n 0,1,0,0,0,0,.retAddr 0) := rfl
theorem fd_Mo_range_80 : am_fd mt_Mo_range.1 80 = (.getfield 18,3,13,2,12,12,.retAddr 0) := rfl
theorem fd_Mo_range_83 : am_fd mt_Mo_range.1 83 = (.iload 6,2,6,0,0,0,.retAddr 0) := rfl
theorem fd_Mo_range_85 : am_fd mt_Mo_range.1 85 = (.iaload,1,0,0,0,0,.retAddr 0) := rfl
theorem fd_Mo_range_86 : am_fd mt_Mo_range.1 86 = (.iastore,1,0,0,0,0,.retAddr 0) := rfl
theorem fd_Mo_range_87 : am_fd mt_Mo_range.1 87 = (.aload_n 0,1,0,0,0,0,.retAddr 0) := rfl
theorem fd_Mo_range_88 : am_fd mt_Mo_range.1 88 = (.getfield 79,3,34,2,12,12,.retAddr 0) := rfl
theorem fd_Mo_range_91 : am_fd mt_Mo_range.1 91 = (.iload 6,2,6,0,0,0,.retAddr 0) := rfl
theorem fd_Mo_range_93 : am_fd mt_Mo_range.1 93 = (.aload_n 0,1,0,0,0,0,.retAddr 0) := rfl
theorem fd_Mo_range_94 : am_fd mt_Mo_range.1 94 = (.getfield 22,3,14,2,12,12,.retAddr 0) := rfl
theorem fd_Mo_range_97 : am_fd mt_Mo_range.1 97 = (.iload 6,2,6,0,0,0,.retAddr 0) := rfl
theorem fd_Mo_range_99 : am_fd mt_Mo_range.1 99 = (.laload,1,0,0,0,0,.retAddr 0) := rfl
theorem fd_Mo_range_100 : am_fd mt_Mo_range.1 100 = (.lastore,1,0,0,0,0,.retAddr 0) := rfl
theorem fd_Mo_range_101 : am_fd mt_Mo_range.1 101 = (.iinc 6 1,3,6,0,0,0,.int 1) := rfl
theorem fd_Mo_range_104 : am_fd mt_Mo_range.1 104 = (.goto (-54),3,50,0,0,0,.retAddr 0) := rfl
theorem fd_Mo_range_107 : am_fd mt_Mo_range.1 107 = (.iconst 0,1,0,0,0,0,.int 0) := rfl
theorem fd_Mo_range_108 : am_fd mt_Mo_range.1 108 = (.istore 6,2,6,0,0,0,.retAddr 0) := rfl
theorem fd_Mo_range_110 : am_fd mt_Mo_range.1 110 = (.iload 6,2,6,0,0,0,.retAddr 0) := rfl
theorem fd_Mo_range_112 : am_fd mt_Mo_range.1 112 = (.aload_n 0,1,0,0,0,0,.retAddr 0) := rfl
theorem fd_Mo_range_113 : am_fd mt_Mo_range.1 113 = (.iload_n 1,1,1,0,0,0,.retAddr 0) := rfl
theorem fd_Mo_range_114 : am_fd mt_Mo_range.1 114 = (.invokevirtual 302,3,175,2,12,0,.retAddr 0) := rfl
theorem fd_Mo_range_117 : am_fd mt_Mo_range.1 117 = (.if_icmp .ge 31,3,148,0,0,0,.retAddr 0) := rfl
theorem fd_Mo_range_120 : am_fd mt_Mo_range.1 120 = (.aload_n 0,1,0,0,0,0,.retAddr 0) := rfl
theorem fd_Mo_range_121 : am_fd mt_Mo_range.1 121 = (.aload_n 0,1,0,0,0,0,.retAddr 0) := rfl
theorem fd_Mo_range_122 : am_fd mt_Mo_range.1 122 = (.iload_n 1,1,1,0,0,0,.retAddr 0) := rfl
theorem fd_Mo_range_123 : am_fd mt_Mo_range.1 123 = (.iload 6,2,6,0,0,0,.retAddr 0) := rfl
theorem fd_Mo_range_125 : am_fd mt_Mo_range.1 125 = (.invokevirtual 305,3,176,3,12,0,.retAddr 0) := rfl
theorem fd_Mo_range_128 : am_fd mt_Mo_range.1 128 = (.invokevirtual 288,3,149,2,12,0,.retAddr 0) := rfl
theorem fd_Mo_range_131 : am_fd mt_Mo_range.1 131 = (.iconst (-1),1,0,0,0,0,.int (-1)) := rfl
theorem fd_Mo_range_132 : am_fd mt_Mo_range.1 132 = (.if_icmp .eq 10,3,142,0,0,0,.retAddr 0) := rfl
theorem fd_Mo_range_135 : am_fd mt_Mo_range.1 135 = (.aload_n 0,1,0,0,0,0,.retAddr 0) := rfl
theorem fd_Mo_range_136 : am_fd mt_Mo_range.1 136 = (.iconst 3,1,0,0,0,0,.int 3) := rfl
theorem fd_Mo_range_137 : am_fd mt_Mo_range.1 137 = (.putfield 299,3,10,0,12,12,.retAddr 0) := rfl
theorem fd_Mo_range_140 : am_fd mt_Mo_range.1 140 = (.iconst (-1),1,0,0,0,0,.int (-1)) := rfl
theorem fd_Mo_range_141 : am_fd mt_Mo_range.1 141 = (.ireturn,1,0,0,0,0,.retAddr 0) := rfl
theorem fd_Mo_range_142 : am_fd mt_Mo_range.1 142 = (.iinc 6 1,3,6,0,0,0,.int 1) := rfl
theorem fd_Mo_range_145 : am_fd mt_Mo_range.1 145 = (.goto (-35),3,110,0,0,0,.retAddr 0) := rfl
theorem fd_Mo_range_148 : am_fd mt_Mo_range.1 148 = (.iconst 0,1,0,0,0,0,.int 0) := rfl
theorem fd_Mo_range_149 : am_fd mt_Mo_range.1 149 = (.istore 6,2,6,0,0,0,.retAddr 0) := rfl
theorem fd_Mo_range_151 : am_fd mt_Mo_range.1 151 = (.iconst 0,1,0,0,0,0,.int 0) := rfl
theorem fd_Mo_range_152 : am_fd mt_Mo_range.1 152 = (.istore 7,2,7,0,0,0,.retAddr 0) := rfl
theorem fd_Mo_range_154 : am_fd mt_Mo_range.1 154 = (.iload 7,2,7,0,0,0,.retAddr 0) := rfl
theorem fd_Mo_range_156 : am_fd mt_Mo_range.1 156 = (.aload_n 0,1,0,0,0,0,.retAddr 0) := rfl
theorem fd_Mo_range_157 : am_fd mt_Mo_range.1 157 = (.getfield 197,3,31,0,12,12,.retAddr 0) := rfl
theorem fd_Mo_range_160 : am_fd mt_Mo_range.1 160 = (.if_icmp .ge 84,3,244,0,0,0,.retAddr 0) := rfl
theorem fd_Mo_range_163 : am_fd mt_Mo_range.1 163 = (.aload_n 0,1,0,0,0,0,.retAddr 0) := rfl
theorem fd_Mo_range_164 : am_fd mt_Mo_range.1 164 = (.getfield 73,3,32,2,12,12,.retAddr 0) := rfl
theorem fd_Mo_range_167 : am_fd mt_Mo_range.1 167 = (.iload 7,2,7,0,0,0,.retAddr 0) := rfl
theorem fd_Mo_range_169 : am_fd mt_Mo_range.1 169 = (.laload,1,0,0,0,0,.retAddr 0) := rfl
theorem fd_Mo_range_170 : am_fd mt_Mo_range.1 170 = (.lload_n 2,1,2,0,0,0,.retAddr 0) := rfl
theorem fd_Mo_range_171 : am_fd mt_Mo_range.1 171 = (.lcmp,1,0,0,0,0,.retAddr 0) := rfl
theorem fd_Mo_range_172 : am_fd mt_Mo_range.1 172 = (.ifCond .lt 66,3,238,0,0,0,.retAddr 0) := rfl
theorem fd_Mo_range_175 : am_fd mt_Mo_range.1 175 = (.aload_n 0,1,0,0,0,0,.retAddr 0) := rfl
theorem fd_Mo_range_176 : am_fd mt_Mo_range.1 176 = (.getfield 73,3,32,2,12,12,.retAddr 0) := rfl
theorem fd_Mo_range_179 : am_fd mt_Mo_range.1 179 = (.iload 7,2,7,0,0,0,.retAddr 0) := rfl
theorem fd_Mo_range_181 : am_fd mt_Mo_range.1 181 = (.laload,1,0,0,0,0,.retAddr 0) := rfl
theorem fd_Mo_range_182 : am_fd mt_Mo_range.1 182 = (.lload 4,2,4,0,0,0,.retAddr 0) := rfl
theorem fd_Mo_range_184 : am_fd mt_Mo_range.1 184 = (.lcmp,1,0,0,0,0,.retAddr 0) := rfl
theorem fd_Mo_range_185 : am_fd mt_Mo_range.1 185 = (.ifCond .gt 53,3,238,0,0,0,.retAddr 0) := rfl
theorem fd_Mo_range_188 : am_fd mt_Mo_range.1 188 = (.aload_n 0,1,0,0,0,0,.retAddr 0) := rfl
theorem fd_Mo_range_189 : am_fd mt_Mo_range.1 189 = (.getfield 76,3,33,2,12,12,.retAddr 0) := rfl
theorem fd_Mo_range_192 : am_fd mt_Mo_range.1 192 = (.iload 7,2,7,0,0,0,.retAddr 0) := rfl
theorem fd_Mo_range_194 : am_fd mt_Mo_range.1 194 = (.iaload,1,0,0,0,0,.retAddr 0) := rfl
theorem fd_Mo_range_195 : am_fd mt_Mo_range.1 195 = (.iconst 2,1,0,0,0,0,.int 2) := rfl
theorem fd_Mo_range_196 : am_fd mt_Mo_range.1 196 = (.if_icmp .eq 42,3,238,0,0,0,.retAddr 0) := rfl
theorem fd_Mo_range_199 : am_fd mt_Mo_range.1 199 = (.iload 6,2,6,0,0,0,.retAddr 0) := rfl
theorem fd_Mo_range_201 : am_fd mt_Mo_range.1 201 = (.sipush 200,3,0,0,0,0,.int 200) := rfl
theorem fd_Mo_range_204 : am_fd mt_Mo_range.1 204 = (.if_icmp .ge 31,3,235,0,0,0,.retAddr 0) := rfl
theorem fd_Mo_range_207 : am_fd mt_Mo_range.1 207 = (.aload_n 0,1,0,0,0,0,.retAddr 0) := rfl
theorem fd_Mo_range_208 : am_fd mt_Mo_range.1 208 = (.getfield 109,3,46,2,12,12,.retAddr 0) := rfl
theorem fd_Mo_range_211 : am_fd mt_Mo_range.1 211 = (.iload 6,2,6,0,0,0,.retAddr 0) := rfl
theorem fd_Mo_range_213 : am_fd mt_Mo_range.1 213 = (.aload_n 0,1,0,0,0,0,.retAddr 0) := rfl
theorem fd_Mo_range_214 : am_fd mt_Mo_range.1 214 = (.getfield 73,3,32,2,12,12,.retAddr 0) := rfl
theorem fd_Mo_range_217 : am_fd mt_Mo_range.1 217 = (.iload 7,2,7,0,0,0,.retAddr 0) := rfl
theorem fd_Mo_range_219 : am_fd mt_Mo_range.1 219 = (.laload,1,0,0,0,0,.retAddr 0) := rfl
theorem fd_Mo_range_220 : am_fd mt_Mo_range.1 220 = (.lastore,1,0,0,0,0,.retAddr 0) := rfl
theorem fd_Mo_range_221 : am_fd mt_Mo_range.1 221 = (.aload_n 0,1,0,0,0,0,.retAddr 0) := rfl
theorem fd_Mo_range_222 : am_fd mt_Mo_range.1 222 = (.getfield 112,3,47,2,12,12,.retAddr 0) := rfl
theorem fd_Mo_range_225 : am_fd mt_Mo_range.1 225 = (.iload 6,2,6,0,0,0,.retAddr 0) := rfl
theorem fd_Mo_range_227 : am_fd mt_Mo_range.1 227 = (.aload_n 0,1,0,0,0,0,.retAddr 0) := rfl
theorem fd_Mo_range_228 : am_fd mt_Mo_range.1 228 = (.getfield 79,3,34,2,12,12,.retAddr 0) := rfl
theorem fd_Mo_range_231 : am_fd mt_Mo_range.1 231 = (.iload 7,2,7,0,0,0,.retAddr 0) := rfl
theorem fd_Mo_range_233 : am_fd mt_Mo_range.1 233 = (.laload,1,0,0,0,0,.retAddr 0) := rfl
theorem fd_Mo_range_234 : am_fd mt_Mo_range.1 234 = (.lastore,1,0,0,0,0,.retAddr 0) := rfl
theorem fd_Mo_range_235 : am_fd mt_Mo_range.1 235 = (.iinc 6 1,3,6,0,0,0,.int 1) := rfl
theorem fd_Mo_range_238 : am_fd mt_Mo_range.1 238 = (.iinc 7 1,3,7,0,0,0,.int 1) := rfl
theorem fd_Mo_range_241 : am_fd mt_Mo_range.1 241 = (.goto (-87),3,154,0,0,0,.retAddr 0) := rfl
theorem fd_Mo_range_244 : am_fd mt_Mo_range.1 244 = (.aload_n 0,1,0,0,0,0,.retAddr 0) := rfl
theorem fd_Mo_range_245 : am_fd mt_Mo_range.1 245 = (.iload 6,2,6,0,0,0,.retAddr 0) := rfl
theorem fd_Mo_range_247 : am_fd mt_Mo_range.1 247 = (.sipush 200,3,0,0,0,0,.int 200) := rfl
theorem fd_Mo_range_250 : am_fd mt_Mo_range.1 250 = (.if_icmp .ge 8,3,258,0,0,0,.retAddr 0) := rfl
theorem fd_Mo_range_253 : am_fd mt_Mo_range.1 253 = (.iload 6,2,6,0,0,0,.retAddr 0) := rfl
theorem fd_Mo_range_255 : am_fd mt_Mo_range.1 255 = (.goto 6,3,261,0,0,0,.retAddr 0) := rfl
theorem fd_Mo_range_258 : am_fd mt_Mo_range.1 258 = (.sipush 200,3,0,0,0,0,.int 200) := rfl
theorem fd_Mo_range_261 : am_fd mt_Mo_range.1 261 = (.putfield 312,3,45,0,12,12,.retAddr 0) := rfl
theorem fd_Mo_range_264 : am_fd mt_Mo_range.1 264 = (.aload_n 0,1,0,0,0,0,.retAddr 0) := rfl
theorem fd_Mo_range_265 : am_fd mt_Mo_range.1 265 = (.iconst 1,1,0,0,0,0,.int 1) := rfl
theorem fd_Mo_range_266 : am_fd mt_Mo_range.1 266 = (.putfield 299,3,10,0,12,12,.retAddr 0) := rfl
theorem fd_Mo_range_269 : am_fd mt_Mo_range.1 269 = (.iload 6,2,6,0,0,0,.retAddr 0) := rfl
theorem fd_Mo_range_271 : am_fd mt_Mo_range.1 271 = (.ireturn,1,0,0,0,0,.retAddr 0) := rfl
theorem fd_Mo_at_0 : am_fd mt_Mo_at.1 0 = (.aload_n 0,1,0,0,0,0,.retAddr 0) := rfl
theorem fd_Mo_at_1 : am_fd mt_Mo_at.1 1 = (.iload_n 1,1,1,0,0,0,.retAddr 0) := rfl
theorem fd_Mo_at_2 : am_fd mt_Mo_at.1 2 = (.ifCond .lt 20,3,22,0,0,0,.retAddr 0) := rfl
theorem fd_Mo_at_5 : am_fd mt_Mo_at.1 5 = (.iload_n 1,1,1,0,0,0,.retAddr 0) := rfl
theorem fd_Mo_at_6 : am_fd mt_Mo_at.1 6 = (.aload_n 0,1,0,0,0,0,.retAddr 0) := rfl
theorem fd_Mo_at_7 : am_fd mt_Mo_at.1 7 = (.getfield 312,3,45,0,12,12,.retAddr 0) := rfl
theorem fd_Mo_at_10 : am_fd mt_Mo_at.1 10 = (.if_icmp .ge 12,3,22,0,0,0,.retAddr 0) := rfl
theorem fd_Mo_at_13 : am_fd mt_Mo_at.1 13 = (.iload_n 2,1,2,0,0,0,.retAddr 0) := rfl
theorem fd_Mo_at_14 : am_fd mt_Mo_at.1 14 = (.ifCond .lt 8,3,22,0,0,0,.retAddr 0) := rfl
theorem fd_Mo_at_17 : am_fd mt_Mo_at.1 17 = (.iload_n 2,1,2,0,0,0,.retAddr 0) := rfl
theorem fd_Mo_at_18 : am_fd mt_Mo_at.1 18 = (.iconst 1,1,0,0,0,0,.int 1) := rfl
theorem fd_Mo_at_19 : am_fd mt_Mo_at.1 19 = (.if_icmp .le 7,3,26,0,0,0,.retAddr 0) := rfl
theorem fd_Mo_at_22 : am_fd mt_Mo_at.1 22 = (.iconst 1,1,0,0,0,0,.int 1) := rfl
theorem fd_Mo_at_23 : am_fd mt_Mo_at.1 23 = (.goto 4,3,27,0,0,0,.retAddr 0) := rfl
theorem fd_Mo_at_26 : am_fd mt_Mo_at.1 26 = (.iconst 0,1,0,0,0,0,.int 0) := rfl
theorem fd_Mo_at_27 : am_fd mt_Mo_at.1 27 = (.putfield 141,3,0,0,12,12,.retAddr 0) := rfl
theorem fd_Mo_at_30 : am_fd mt_Mo_at.1 30 = (.aload_n 0,1,0,0,0,0,.retAddr 0) := rfl
theorem fd_Mo_at_31 : am_fd mt_Mo_at.1 31 = (.getfield 141,3,0,0,12,12,.retAddr 0) := rfl
theorem fd_Mo_at_34 : am_fd mt_Mo_at.1 34 = (.ifCond .eq 7,3,41,0,0,0,.retAddr 0) := rfl
theorem fd_Mo_at_37 : am_fd mt_Mo_at.1 37 = (.lconst 0,1,0,0,0,0,.long 0) := rfl
theorem fd_Mo_at_38 : am_fd mt_Mo_at.1 38 = (.goto 22,3,60,0,0,0,.retAddr 0) := rfl
theorem fd_Mo_at_41 : am_fd mt_Mo_at.1 41 = (.iload_n 2,1,2,0,0,0,.retAddr 0) := rfl
theorem fd_Mo_at_42 : am_fd mt_Mo_at.1 42 = (.ifCond .ne 12,3,54,0,0,0,.retAddr 0) := rfl
theorem fd_Mo_at_45 : am_fd mt_Mo_at.1 45 = (.aload_n 0,1,0,0,0,0,.retAddr 0) := rfl
theorem fd_Mo_at_46 : am_fd mt_Mo_at.1 46 = (.getfield 109,3,46,2,12,12,.retAddr 0) := rfl
theorem fd_Mo_at_49 : am_fd mt_Mo_at.1 49 = (.iload_n 1,1,1,0,0,0,.retAddr 0) := rfl
theorem fd_Mo_at_50 : am_fd mt_Mo_at.1 50 = (.laload,1,0,0,0,0,.retAddr 0) := rfl
theorem fd_Mo_at_51 : am_fd mt_Mo_at.1 51 = (.goto 9,3,60,0,0,0,.retAddr 0) := rfl
theorem fd_Mo_at_54 : am_fd mt_Mo_at.1 54 = (.aload_n 0,1,0,0,0,0,.retAddr 0) := rfl
theorem fd_Mo_at_55 : am_fd mt_Mo_at.1 55 = (.getfield 112,3,47,2,12,12,.retAddr 0) := rfl
theorem fd_Mo_at_58 : am_fd mt_Mo_at.1 58 = (.iload_n 1,1,1,0,0,0,.retAddr 0) := rfl
theorem fd_Mo_at_59 : am_fd mt_Mo_at.1 59 = (.laload,1,0,0,0,0,.retAddr 0) := rfl
theorem fd_Mo_at_60 : am_fd mt_Mo_at.1 60 = (.lreturn,1,0,0,0,0,.retAddr 0) := rfl
theorem fd_Mo_run_0 : am_fd mt_Mo_run.1 0 = (.aload_n 0,1,0,0,0,0,.retAddr 0) := rfl
theorem fd_Mo_run_1 : am_fd mt_Mo_run.1 1 = (.iload_n 1,1,1,0,0,0,.retAddr 0) := rfl
theorem fd_Mo_run_2 : am_fd mt_Mo_run.1 2 = (.ifCond .lt 20,3,22,0,0,0,.retAddr 0) := rfl
theorem fd_Mo_run_5 : am_fd mt_Mo_run.1 5 = (.iload_n 1,1,1,0,0,0,.retAddr 0) := rfl
theorem fd_Mo_run_6 : am_fd mt_Mo_run.1 6 = (.aload_n 0,1,0,0,0,0,.retAddr 0) := rfl
theorem fd_Mo_run_7 : am_fd mt_Mo_run.1 7 = (.getfield 168,3,24,0,12,12,.retAddr 0) := rfl
theorem fd_Mo_run_10 : am_fd mt_Mo_run.1 10 = (.if_icmp .ge 12,3,22,0,0,0,.retAddr 0) := rfl
theorem fd_Mo_run_13 : am_fd mt_Mo_run.1 13 = (.iload_n 2,1,2,0,0,0,.retAddr 0) := rfl
theorem fd_Mo_run_14 : am_fd mt_Mo_run.1 14 = (.ifCond .lt 8,3,22,0,0,0,.retAddr 0) := rfl
theorem fd_Mo_run_17 : am_fd mt_Mo_run.1 17 = (.iload_n 2,1,2,0,0,0,.retAddr 0) := rfl
theorem fd_Mo_run_18 : am_fd mt_Mo_run.1 18 = (.iconst 4,1,0,0,0,0,.int 4) := rfl
theorem fd_Mo_run_19 : am_fd mt_Mo_run.1 19 = (.if_icmp .le 7,3,26,0,0,0,.retAddr 0) := rfl
theorem fd_Mo_run_22 : am_fd mt_Mo_run.1 22 = (.iconst 1,1,0,0,0,0,.int 1) := rfl
theorem fd_Mo_run_23 : am_fd mt_Mo_run.1 23 = (.goto 4,3,27,0,0,0,.retAddr 0) := rfl
theorem fd_Mo_run_26 : am_fd mt_Mo_run.1 26 = (.iconst 0,1,0,0,0,0,.int 0) := rfl
theorem fd_Mo_run_27 : am_fd mt_Mo_run.1 27 = (.putfield 141,3,0,0,12,12,.retAddr 0) := rfl
theorem fd_Mo_run_30 : am_fd mt_Mo_run.1 30 = (.aload_n 0,1,0,0,0,0,.retAddr 0) := rfl
theorem fd_Mo_run_31 : am_fd mt_Mo_run.1 31 = (.getfield 141,3,0,0,12,12,.retAddr 0) := rfl
theorem fd_Mo_run_34 : am_fd mt_Mo_run.1 34 = (.ifCond .eq 5,3,39,0,0,0,.retAddr 0) := rfl
theorem fd_Mo_run_37 : am_fd mt_Mo_run.1 37 = (.iconst 0,1,0,0,0,0,.int 0) := rfl
theorem fd_Mo_run_38 : am_fd mt_Mo_run.1 38 = (.ireturn,1,0,0,0,0,.retAddr 0) := rfl
theorem fd_Mo_run_39 : am_fd mt_Mo_run.1 39 = (.aload_n 0,1,0,0,0,0,.retAddr 0) := rfl
theorem fd_Mo_run_40 : am_fd mt_Mo_run.1 40 = (.getfield 53,3,25,2,12,12,.retAddr 0) := rfl
theorem fd_Mo_run_43 : am_fd mt_Mo_run.1 43 = (.iload_n 1,1,1,0,0,0,.retAddr 0) := rfl
theorem fd_Mo_run_44 : am_fd mt_Mo_run.1 44 = (.iaload,1,0,0,0,0,.retAddr 0) := rfl
theorem fd_Mo_run_45 : am_fd mt_Mo_run.1 45 = (.istore_n 3,1,3,0,0,0,.retAddr 0) := rfl
theorem fd_Mo_run_46 : am_fd mt_Mo_run.1 46 = (.iload_n 2,1,2,0,0,0,.retAddr 0) := rfl
theorem fd_Mo_run_47 : am_fd mt_Mo_run.1 47 = (.ifCond .ne 12,3,59,0,0,0,.retAddr 0) := rfl
theorem fd_Mo_run_50 : am_fd mt_Mo_run.1 50 = (.aload_n 0,1,0,0,0,0,.retAddr 0) := rfl
theorem fd_Mo_run_51 : am_fd mt_Mo_run.1 51 = (.getfield 28,3,16,2,12,12,.retAddr 0) := rfl
theorem fd_Mo_run_54 : am_fd mt_Mo_run.1 54 = (.iload_n 3,1,3,0,0,0,.retAddr 0) := rfl
theorem fd_Mo_run_55 : am_fd mt_Mo_run.1 55 = (.iaload,1,0,0,0,0,.retAddr 0) := rfl
theorem fd_Mo_run_56 : am_fd mt_Mo_run.1 56 = (.goto 55,3,111,0,0,0,.retAddr 0) := rfl
theorem fd_Mo_run_59 : am_fd mt_Mo_run.1 59 = (.iload_n 2,1,2,0,0,0,.retAddr 0) := rfl
theorem fd_Mo_run_60 : am_fd mt_Mo_run.1 60 = (.iconst 1,1,0,0,0,0,.int 1) := rfl
theorem fd_Mo_run_61 : am_fd mt_Mo_run.1 61 = (.if_icmp .ne 12,3,73,0,0,0,.retAddr 0) := rfl
theorem fd_Mo_run_64 : am_fd mt_Mo_run.1 64 = (.aload_n 0,1,0,0,0,0,.retAddr 0) := rfl
theorem fd_Mo_run_65 : am_fd mt_Mo_run.1 65 = (.getfield 31,3,17,2,12,12,.retAddr 0) := rfl
theorem fd_Mo_run_68 : am_fd mt_Mo_run.1 68 = (.iload_n 3,1,3,0,0,0,.retAddr 0) := rfl
theorem fd_Mo_run_69 : am_fd mt_Mo_run.1 69 = (.iaload,1,0,0,0,0,.retAddr 0) := rfl
theorem fd_Mo_run_70 : am_fd mt_Mo_run.1 70 = (.goto 41,3,111,0,0,0,.retAddr 0) := rfl
theorem fd_Mo_run_73 : am_fd mt_Mo_run.1 73 = (.iload_n 2,1,2,0,0,0,.retAddr 0) := rfl
theorem fd_Mo_run_74 : am_fd mt_Mo_run.1 74 = (.iconst 2,1,0,0,0,0,.int 2) := rfl
theorem fd_Mo_run_75 : am_fd mt_Mo_run.1 75 = (.if_icmp .ne 12,3,87,0,0,0,.retAddr 0) := rfl
theorem fd_Mo_run_78 : am_fd mt_Mo_run.1 78 = (.aload_n 0,1,0,0,0,0,.retAddr 0) := rfl
theorem fd_Mo_run_79 : am_fd mt_Mo_run.1 79 = (.getfield 34,3,18,2,12,12,.retAddr 0) := rfl
theorem fd_Mo_run_82 : am_fd mt_Mo_run.1 82 = (.iload_n 3,1,3,0,0,0,.retAddr 0) := rfl
theorem fd_Mo_run_83 : am_fd mt_Mo_run.1 83 = (.iaload,1,0,0,0,0,.retAddr 0) := rfl
theorem fd_Mo_run_84 : am_fd mt_Mo_run.1 84 = (.goto 27,3,111,0,0,0,.retAddr 0) := rfl
theorem fd_Mo_run_87 : am_fd mt_Mo_run.1 87 = (.iload_n 2,1,2,0,0,0,.retAddr 0) := rfl
theorem fd_Mo_run_88 : am_fd mt_Mo_run.1 88 = (.iconst 3,1,0,0,0,0,.int 3) := rfl
theorem fd_Mo_run_89 : am_fd mt_Mo_run.1 89 = (.if_icmp .ne 12,3,101,0,0,0,.retAddr 0) := rfl
theorem fd_Mo_run_92 : am_fd mt_Mo_run.1 92 = (.aload_n 0,1,0,0,0,0,.retAddr 0) := rfl
theorem fd_Mo_run_93 : am_fd mt_Mo_run.1 93 = (.getfield 37,3,19,2,12,12,.retAddr 0) := rfl
theorem fd_Mo_run_96 : am_fd mt_Mo_run.1 96 = (.iload_n 3,1,3,0,0,0,.retAddr 0) := rfl
theorem fd_Mo_run_97 : am_fd mt_Mo_run.1 97 = (.iaload,1,0,0,0,0,.retAddr 0) := rfl
theorem fd_Mo_run_98 : am_fd mt_Mo_run.1 98 = (.goto 13,3,111,0,0,0,.retAddr 0) := rfl
theorem fd_Mo_run_101 : am_fd mt_Mo_run.1 101 = (.aload_n 0,1,0,0,0,0,.retAddr 0) := rfl
theorem fd_Mo_run_102 : am_fd mt_Mo_run.1 102 = (.getfield 41,3,20,2,12,12,.retAddr 0) := rfl
theorem fd_Mo_run_105 : am_fd mt_Mo_run.1 105 = (.sipush 1024,3,0,0,0,0,.int 1024) := rfl
theorem fd_Mo_run_108 : am_fd mt_Mo_run.1 108 = (.iload_n 3,1,3,0,0,0,.retAddr 0) := rfl
theorem fd_Mo_run_109 : am_fd mt_Mo_run.1 109 = (.imul,1,0,0,0,0,.retAddr 0) := rfl
theorem fd_Mo_run_110 : am_fd mt_Mo_run.1 110 = (.iaload,1,0,0,0,0,.retAddr 0) := rfl
theorem fd_Mo_run_111 : am_fd mt_Mo_run.1 111 = (.ireturn,1,0,0,0,0,.retAddr 0) := rfl
theorem fd_Mo_hidden_0 : am_fd mt_Mo_hidden.1 0 = (.aload_n 0,1,0,0,0,0,.retAddr 0) := rfl
theorem fd_Mo_hidden_1 : am_fd mt_Mo_hidden.1 1 = (.aload_n 0,1,0,0,0,0,.retAddr 0) := rfl
theorem fd_Mo_hidden_2 : am_fd mt_Mo_hidden.1 2 = (.getfield 161,3,3,0,12,12,.retAddr 0) := rfl
theorem fd_Mo_hidden_5 : am_fd mt_Mo_hidden.1 5 = (.ifCond .eq 7,3,12,0,0,0,.retAddr 0) := rfl
theorem fd_Mo_hidden_8 : am_fd mt_Mo_hidden.1 8 = (.iconst 1,1,0,0,0,0,.int 1) := rfl
theorem fd_Mo_hidden_9 : am_fd mt_Mo_hidden.1 9 = (.goto 4,3,13,0,0,0,.retAddr 0) := rfl
theorem fd_Mo_hidden_12 : am_fd mt_Mo_hidden.1 12 = (.iconst 0,1,0,0,0,0,.int 0) := rfl
theorem fd_Mo_hidden_13 : am_fd mt_Mo_hidden.1 13 = (.putfield 141,3,0,0,12,12,.retAddr 0) := rfl
theorem fd_Mo_hidden_16 : am_fd mt_Mo_hidden.1 16 = (.iconst 0,1,0,0,0,0,.int 0) := rfl
theorem fd_Mo_hidden_17 : am_fd mt_Mo_hidden.1 17 = (.istore_n 3,1,3,0,0,0,.retAddr 0) := rfl
theorem fd_Mo_hidden_18 : am_fd mt_Mo_hidden.1 18 = (.iload_n 3,1,3,0,0,0,.retAddr 0) := rfl
theorem fd_Mo_hidden_19 : am_fd mt_Mo_hidden.1 19 = (.aload_n 0,1,0,0,0,0,.retAddr 0) := rfl
theorem fd_Mo_hidden_20 : am_fd mt_Mo_hidden.1 20 = (.getfield 168,3,24,0,12,12,.retAddr 0) := rfl
theorem fd_Mo_hidden_23 : am_fd mt_Mo_hidden.1 23 = (.if_icmp .ge 57,3,80,0,0,0,.retAddr 0) := rfl
theorem fd_Mo_hidden_26 : am_fd mt_Mo_hidden.1 26 = (.aload_n 0,1,0,0,0,0,.retAddr 0) := rfl
theorem fd_Mo_hidden_27 : am_fd mt_Mo_hidden.1 27 = (.getfield 53,3,25,2,12,12,.retAddr 0) := rfl
theorem fd_Mo_hidden_30 : am_fd mt_Mo_hidden.1 30 = (.iload_n 3,1,3,0,0,0,.retAddr 0) := rfl
theorem fd_Mo_hidden_31 : am_fd mt_Mo_hidden.1 31 = (.iaload,1,0,0,0,0,.retAddr 0) := rfl
theorem fd_Mo_hidden_32 : am_fd mt_Mo_hidden.1 32 = (.istore 4,2,4,0,0,0,.retAddr 0) := rfl
theorem fd_Mo_hidden_34 : am_fd mt_Mo_hidden.1 34 = (.aload_n 0,1,0,0,0,0,.retAddr 0) := rfl
theorem fd_Mo_hidden_35 : am_fd mt_Mo_hidden.1 35 = (.getfield 44,3,21,2,12,12,.retAddr 0) := rfl
theorem fd_Mo_hidden_38 : am_fd mt_Mo_hidden.1 38 = (.sipush 1024,3,0,0,0,0,.int 1024) := rfl
theorem fd_Mo_hidden_41 : am_fd mt_Mo_hidden.1 41 = (.iload 4,2,4,0,0,0,.retAddr 0) := rfl
theorem fd_Mo_hidden_43 : am_fd mt_Mo_hidden.1 43 = (.imul,1,0,0,0,0,.retAddr 0) := rfl
theorem fd_Mo_hidden_44 : am_fd mt_Mo_hidden.1 44 = (.laload,1,0,0,0,0,.retAddr 0) := rfl
theorem fd_Mo_hidden_45 : am_fd mt_Mo_hidden.1 45 = (.lload_n 1,1,1,0,0,0,.retAddr 0) := rfl
theorem fd_Mo_hidden_46 : am_fd mt_Mo_hidden.1 46 = (.lcmp,1,0,0,0,0,.retAddr 0) := rfl
theorem fd_Mo_hidden_47 : am_fd mt_Mo_hidden.1 47 = (.ifCond .gt 27,3,74,0,0,0,.retAddr 0) := rfl
theorem fd_Mo_hidden_50 : am_fd mt_Mo_hidden.1 50 = (.aload_n 0,1,0,0,0,0,.retAddr 0) := rfl
theorem fd_Mo_hidden_51 : am_fd mt_Mo_hidden.1 51 = (.getfield 47,3,22,2,12,12,.retAddr 0) := rfl
theorem fd_Mo_hidden_54 : am_fd mt_Mo_hidden.1 54 = (.iload 4,2,4,0,0,0,.retAddr 0) := rfl
theorem fd_Mo_hidden_56 : am_fd mt_Mo_hidden.1 56 = (.laload,1,0,0,0,0,.retAddr 0) := rfl
theorem fd_Mo_hidden_57 : am_fd mt_Mo_hidden.1 57 = (.lload_n 1,1,1,0,0,0,.retAddr 0) := rfl
theorem fd_Mo_hidden_58 : am_fd mt_Mo_hidden.1 58 = (.lcmp,1,0,0,0,0,.retAddr 0) := rfl
theorem fd_Mo_hidden_59 : am_fd mt_Mo_hidden.1 59 = (.ifCond .lt 15,3,74,0,0,0,.retAddr 0) := rfl
theorem fd_Mo_hidden_62 : am_fd mt_Mo_hidden.1 62 = (.aload_n 0,1,0,0,0,0,.retAddr 0) := rfl
theorem fd_Mo_hidden_63 : am_fd mt_Mo_hidden.1 63 = (.iload 4,2,4,0,0,0,.retAddr 0) := rfl
theorem fd_Mo_hidden_65 : am_fd mt_Mo_hidden.1 65 = (.lload_n 1,1,1,0,0,0,.retAddr 0) := rfl
theorem fd_Mo_hidden_66 : am_fd mt_Mo_hidden.1 66 = (.invokevirtual 308,3,177,3,12,0,.retAddr 0) := rfl
theorem fd_Mo_hidden_69 : am_fd mt_Mo_hidden.1 69 = (.ifCond .eq 5,3,74,0,0,0,.retAddr 0) := rfl
theorem fd_Mo_hidden_72 : am_fd mt_Mo_hidden.1 72 = (.iconst 1,1,0,0,0,0,.int 1) := rfl
theorem fd_Mo_hidden_73 : am_fd mt_Mo_hidden.1 73 = (.ireturn,1,1,0,0,0,.retAddr 0) := rfl
theorem fd_Mo_hidden_74 : am_fd mt_Mo_hidden.1 74 = (.iinc 3 1,3,3,0,0,0,.int 1) := rfl
theorem fd_Mo_hidden_77 : am_fd mt_Mo_hidden.1 77 = (.goto (-59),3,18,0,0,0,.retAddr 0) := rfl
theorem fd_Mo_hidden_80 : am_fd mt_Mo_hidden.1 80 = (.iconst 0,1,0,0,0,0,.int 0) := rfl
theorem fd_Mo_hidden_81 : am_fd mt_Mo_hidden.1 81 = (.ireturn,1,1,0,0,0,.retAddr 0) := rfl
theorem fd_Mo_octet_0 : am_fd mt_Mo_octet.1 0 = (.aload_n 0,1,0,0,0,0,.retAddr 0) := rfl
theorem fd_Mo_octet_1 : am_fd mt_Mo_octet.1 1 = (.aload_n 0,1,0,0,0,0,.retAddr 0) := rfl
theorem fd_Mo_octet_2 : am_fd mt_Mo_octet.1 2 = (.iload_n 1,1,1,0,0,0,.retAddr 0) := rfl
theorem fd_Mo_octet_3 : am_fd mt_Mo_octet.1 3 = (.iload_n 2,1,2,0,0,0,.retAddr 0) := rfl
theorem fd_Mo_octet_4 : am_fd mt_Mo_octet.1 4 = (.invokevirtual 315,3,184,3,12,0,.retAddr 0) := rfl
theorem fd_Mo_octet_7 : am_fd mt_Mo_octet.1 7 = (.ifCond .eq 7,3,14,0,0,0,.retAddr 0) := rfl
theorem fd_Mo_octet_10 : am_fd mt_Mo_octet.1 10 = (.iconst 0,1,0,0,0,0,.int 0) := rfl
theorem fd_Mo_octet_11 : am_fd mt_Mo_octet.1 11 = (.goto 4,3,15,0,0,0,.retAddr 0) := rfl
theorem fd_Mo_octet_14 : am_fd mt_Mo_octet.1 14 = (.iconst 1,1,0,0,0,0,.int 1) := rfl
theorem fd_Mo_octet_15 : am_fd mt_Mo_octet.1 15 = (.putfield 141,3,0,0,12,12,.retAddr 0) := rfl
theorem fd_Mo_octet_18 : am_fd mt_Mo_octet.1 18 = (.aload_n 0,1,0,0,0,0,.retAddr 0) := rfl
theorem fd_Mo_octet_19 : am_fd mt_Mo_octet.1 19 = (.getfield 141,3,0,0,12,12,.retAddr 0) := rfl
theorem fd_Mo_octet_22 : am_fd mt_Mo_octet.1 22 = (.ifCond .eq 7,3,29,0,0,0,.retAddr 0) := rfl
theorem fd_Mo_octet_25 : am_fd mt_Mo_octet.1 25 = (.iconst 0,1,0,0,0,0,.int 0) := rfl
theorem fd_Mo_octet_26 : am_fd mt_Mo_octet.1 26 = (.goto 19,3,45,0,0,0,.retAddr 0) := rfl
theorem fd_Mo_octet_29 : am_fd mt_Mo_octet.1 29 = (.aload_n 0,1,0,0,0,0,.retAddr 0) := rfl
theorem fd_Mo_octet_30 : am_fd mt_Mo_octet.1 30 = (.getfield 8,3,2,2,12,12,.retAddr 0) := rfl
theorem fd_Mo_octet_33 : am_fd mt_Mo_octet.1 33 = (.sipush 128,3,0,0,0,0,.int 128) := rfl
theorem fd_Mo_octet_36 : am_fd mt_Mo_octet.1 36 = (.iload_n 1,1,1,0,0,0,.retAddr 0) := rfl
theorem fd_Mo_octet_37 : am_fd mt_Mo_octet.1 37 = (.imul,1,0,0,0,0,.retAddr 0) := rfl
theorem fd_Mo_octet_38 : am_fd mt_Mo_octet.1 38 = (.iload_n 2,1,2,0,0,0,.retAddr 0) := rfl
theorem fd_Mo_octet_39 : am_fd mt_Mo_octet.1 39 = (.iadd,1,0,0,0,0,.retAddr 0) := rfl
theorem fd_Mo_octet_40 : am_fd mt_Mo_octet.1 40 = (.baload,1,0,0,0,0,.retAddr 0) := rfl
theorem fd_Mo_octet_41 : am_fd mt_Mo_octet.1 41 = (.sipush 255,3,0,0,0,0,.int 255) := rfl
theorem fd_Mo_octet_44 : am_fd mt_Mo_octet.1 44 = (.iand,1,0,0,0,0,.retAddr 0) := rfl
theorem fd_Mo_octet_45 : am_fd mt_Mo_octet.1 45 = (.ireturn,1,0,0,0,0,.retAddr 0) := rfl
theorem fd_Mo_isOctet_0 : am_fd mt_Mo_isOctet.1 0 = (.iload_n 1,1,1,0,0,0,.retAddr 0) := rfl
theorem fd_Mo_isOctet_1 : am_fd mt_Mo_isOctet.1 1 = (.ifCond .lt 26,3,27,0,0,0,.retAddr 0) := rfl
theorem fd_Mo_isOctet_4 : am_fd mt_Mo_isOctet.1 4 = (.iload_n 1,1,1,0,0,0,.retAddr 0) := rfl
theorem fd_Mo_isOctet_5 : am_fd mt_Mo_isOctet.1 5 = (.aload_n 0,1,0,0,0,0,.retAddr 0) := rfl
theorem fd_Mo_isOctet_6 : am_fd mt_Mo_isOctet.1 6 = (.getfield 121,3,1,0,12,12,.retAddr 0) := rfl
theorem fd_Mo_isOctet_9 : am_fd mt_Mo_isOctet.1 9 = (.if_icmp .ge 18,3,27,0,0,0,.retAddr 0) := rfl
theorem fd_Mo_isOctet_12 : am_fd mt_Mo_isOctet.1 12 = (.iload_n 2,1,2,0,0,0,.retAddr 0) := rfl
theorem fd_Mo_isOctet_13 : am_fd mt_Mo_isOctet.1 13 = (.ifCond .lt 14,3,27,0,0,0,.retAddr 0) := rfl
theorem fd_Mo_isOctet_16 : am_fd mt_Mo_isOctet.1 16 = (.iload_n 2,1,2,0,0,0,.retAddr 0) := rfl
theorem fd_Mo_isOctet_17 : am_fd mt_Mo_isOctet.1 17 = (.sipush 128,3,0,0,0,0,.int 128) := rfl
theorem fd_Mo_isOctet_20 : am_fd mt_Mo_isOctet.1 20 = (.if_icmp .ge 7,3,27,0,0,0,.retAddr 0) := rfl
theorem fd_Mo_isOctet_23 : am_fd mt_Mo_isOctet.1 23 = (.iconst 1,1,0,0,0,0,.int 1) := rfl
theorem fd_Mo_isOctet_24 : am_fd mt_Mo_isOctet.1 24 = (.goto 4,3,28,0,0,0,.retAddr 0) := rfl
theorem fd_Mo_isOctet_27 : am_fd mt_Mo_isOctet.1 27 = (.iconst 0,1,0,0,0,0,.int 0) := rfl
theorem fd_Mo_isOctet_28 : am_fd mt_Mo_isOctet.1 28 = (.ireturn,1,1,0,0,0,.retAddr 0) := rfl
theorem fd_Mo_poke_0 : am_fd mt_Mo_poke.1 0 = (.aload_n 0,1,0,0,0,0,.retAddr 0) := rfl
theorem fd_Mo_poke_1 : am_fd mt_Mo_poke.1 1 = (.aload_n 0,1,0,0,0,0,.retAddr 0) := rfl
theorem fd_Mo_poke_2 : am_fd mt_Mo_poke.1 2 = (.iload_n 1,1,1,0,0,0,.retAddr 0) := rfl
theorem fd_Mo_poke_3 : am_fd mt_Mo_poke.1 3 = (.iload_n 2,1,2,0,0,0,.retAddr 0) := rfl
theorem fd_Mo_poke_4 : am_fd mt_Mo_poke.1 4 = (.invokevirtual 315,3,184,3,12,0,.retAddr 0) := rfl
theorem fd_Mo_poke_7 : am_fd mt_Mo_poke.1 7 = (.ifCond .ne 7,3,14,0,0,0,.retAddr 0) := rfl
theorem fd_Mo_poke_10 : am_fd mt_Mo_poke.1 10 = (.iconst 1,1,0,0,0,0,.int 1) := rfl
theorem fd_Mo_poke_11 : am_fd mt_Mo_poke.1 11 = (.goto 32,3,43,0,0,0,.retAddr 0) := rfl
theorem fd_Mo_poke_14 : am_fd mt_Mo_poke.1 14 = (.aload_n 0,1,0,0,0,0,.retAddr 0) := rfl
theorem fd_Mo_poke_15 : am_fd mt_Mo_poke.1 15 = (.iload_n 1,1,1,0,0,0,.retAddr 0) := rfl
theorem fd_Mo_poke_16 : am_fd mt_Mo_poke.1 16 = (.invokevirtual 278,3,150,2,12,0,.retAddr 0) := rfl
theorem fd_Mo_poke_19 : am_fd mt_Mo_poke.1 19 = (.ifCond .ne 7,3,26,0,0,0,.retAddr 0) := rfl
theorem fd_Mo_poke_22 : am_fd mt_Mo_poke.1 22 = (.iconst 2,1,0,0,0,0,.int 2) := rfl
theorem fd_Mo_poke_23 : am_fd mt_Mo_poke.1 23 = (.goto 20,3,43,0,0,0,.retAddr 0) := rfl
theorem fd_Mo_poke_26 : am_fd mt_Mo_poke.1 26 = (.iload_n 3,1,3,0,0,0,.retAddr 0) := rfl
theorem fd_Mo_poke_27 : am_fd mt_Mo_poke.1 27 = (.iconst 1,1,0,0,0,0,.int 1) := rfl
theorem fd_Mo_poke_28 : am_fd mt_Mo_poke.1 28 = (.if_icmp .lt 10,3,38,0,0,0,.retAddr 0) := rfl
theorem fd_Mo_poke_31 : am_fd mt_Mo_poke.1 31 = (.iload_n 3,1,3,0,0,0,.retAddr 0) := rfl
theorem fd_Mo_poke_32 : am_fd mt_Mo_poke.1 32 = (.sipush 255,3,0,0,0,0,.int 255) := rfl
theorem fd_Mo_poke_35 : am_fd mt_Mo_poke.1 35 = (.if_icmp .le 7,3,42,0,0,0,.retAddr 0) := rfl
theorem fd_Mo_poke_38 : am_fd mt_Mo_poke.1 38 = (.iconst 3,1,0,0,0,0,.int 3) := rfl
theorem fd_Mo_poke_39 : am_fd mt_Mo_poke.1 39 = (.goto 4,3,43,0,0,0,.retAddr 0) := rfl
theorem fd_Mo_poke_42 : am_fd mt_Mo_poke.1 42 = (.iconst 0,1,0,0,0,0,.int 0) := rfl
theorem fd_Mo_poke_43 : am_fd mt_Mo_poke.1 43 = (.putfield 141,3,0,0,12,12,.retAddr 0) := rfl
theorem fd_Mo_poke_46 : am_fd mt_Mo_poke.1 46 = (.aload_n 0,1,0,0,0,0,.retAddr 0) := rfl
theorem fd_Mo_poke_47 : am_fd mt_Mo_poke.1 47 = (.getfield 141,3,0,0,12,12,.retAddr 0) := rfl
theorem fd_Mo_poke_50 : am_fd mt_Mo_poke.1 50 = (.ifCond .ne 21,3,71,0,0,0,.retAddr 0) := rfl
theorem fd_Mo_poke_53 : am_fd mt_Mo_poke.1 53 = (.aload_n 0,1,0,0,0,0,.retAddr 0) := rfl
theorem fd_Mo_poke_54 : am_fd mt_Mo_poke.1 54 = (.getfield 8,3,2,2,12,12,.retAddr 0) := rfl
theorem fd_Mo_poke_57 : am_fd mt_Mo_poke.1 57 = (.sipush 128,3,0,0,0,0,.int 128) := rfl
theorem fd_Mo_poke_60 : am_fd mt_Mo_poke.1 60 = (.iload_n 1,1,1,0,0,0,.retAddr 0) := rfl
theorem fd_Mo_poke_61 : am_fd mt_Mo_poke.1 61 = (.imul,1,0,0,0,0,.retAddr 0) := rfl
theorem fd_Mo_poke_62 : am_fd mt_Mo_poke.1 62 = (.iload_n 2,1,2,0,0,0,.retAddr 0) := rfl
theorem fd_Mo_poke_63 : am_fd mt_Mo_poke.1 63 = (.iadd,1,0,0,0,0,.retAddr 0) := rfl
theorem fd_Mo_poke_64 : am_fd mt_Mo_poke.1 64 = (.dup2,1,0,0,0,0,.retAddr 0) := rfl
theorem fd_Mo_poke_65 : am_fd mt_Mo_poke.1 65 = (.baload,1,0,0,0,0,.retAddr 0) := rfl
theorem fd_Mo_poke_66 : am_fd mt_Mo_poke.1 66 = (.iload_n 3,1,3,0,0,0,.retAddr 0) := rfl
theorem fd_Mo_poke_67 : am_fd mt_Mo_poke.1 67 = (.i2b,1,0,0,0,0,.retAddr 0) := rfl
theorem fd_Mo_poke_68 : am_fd mt_Mo_poke.1 68 = (.ixor,1,0,0,0,0,.retAddr 0) := rfl
theorem fd_Mo_poke_69 : am_fd mt_Mo_poke.1 69 = (.i2b,1,0,0,0,0,.retAddr 0) := rfl
theorem fd_Mo_poke_70 : am_fd mt_Mo_poke.1 70 = (.bastore,1,0,0,0,0,.retAddr 0) := rfl
theorem fd_Mo_poke_71 : am_fd mt_Mo_poke.1 71 = (.return_,1,0,0,0,0,.retAddr 0) := rfl
theorem fd_Mo_badAt_0 : am_fd mt_Mo_badAt.1 0 = (.aload_n 0,1,0,0,0,0,.retAddr 0) := rfl
theorem fd_Mo_badAt_1 : am_fd mt_Mo_badAt.1 1 = (.iconst 0,1,0,0,0,0,.int 0) := rfl
theorem fd_Mo_badAt_2 : am_fd mt_Mo_badAt.1 2 = (.putfield 141,3,0,0,12,12,.retAddr 0) := rfl
theorem fd_Mo_badAt_5 : am_fd mt_Mo_badAt.1 5 = (.aload_n 0,1,0,0,0,0,.retAddr 0) := rfl
theorem fd_Mo_badAt_6 : am_fd mt_Mo_badAt.1 6 = (.getfield 161,3,3,0,12,12,.retAddr 0) := rfl
theorem fd_Mo_badAt_9 : am_fd mt_Mo_badAt.1 9 = (.ifCond .eq 5,3,14,0,0,0,.retAddr 0) := rfl
theorem fd_Mo_badAt_12 : am_fd mt_Mo_badAt.1 12 = (.iconst (-1),1,0,0,0,0,.int (-1)) := rfl
theorem fd_Mo_badAt_13 : am_fd mt_Mo_badAt.1 13 = (.ireturn,1,0,0,0,0,.retAddr 0) := rfl
theorem fd_Mo_badAt_14 : am_fd mt_Mo_badAt.1 14 = (.aload_n 0,1,0,0,0,0,.retAddr 0) := rfl
theorem fd_Mo_badAt_15 : am_fd mt_Mo_badAt.1 15 = (.invokevirtual 178,3,160,1,12,0,.retAddr 0) := rfl
theorem fd_Mo_badAt_18 : am_fd mt_Mo_badAt.1 18 = (.aload_n 0,1,0,0,0,0,.retAddr 0) := rfl
theorem fd_Mo_badAt_19 : am_fd mt_Mo_badAt.1 19 = (.getfield 66,3,29,2,12,12,.retAddr 0) := rfl
theorem fd_Mo_badAt_22 : am_fd mt_Mo_badAt.1 22 = (.iconst 0,1,0,0,0,0,.int 0) := rfl
theorem fd_Mo_badAt_23 : am_fd mt_Mo_badAt.1 23 = (.aload_n 0,1,0,0,0,0,.retAddr 0) := rfl
theorem fd_Mo_badAt_24 : am_fd mt_Mo_badAt.1 24 = (.getfield 125,3,4,0,12,12,.retAddr 0) := rfl
theorem fd_Mo_badAt_27 : am_fd mt_Mo_badAt.1 27 = (.iconst 1,1,0,0,0,0,.int 1) := rfl
theorem fd_Mo_badAt_28 : am_fd mt_Mo_badAt.1 28 = (.iand,1,0,0,0,0,.retAddr 0) := rfl
theorem fd_Mo_badAt_29 : am_fd mt_Mo_badAt.1 29 = (.ifCond .ne 7,3,36,0,0,0,.retAddr 0) := rfl
theorem fd_Mo_badAt_32 : am_fd mt_Mo_badAt.1 32 = (.iconst 1,1,0,0,0,0,.int 1) := rfl
theorem fd_Mo_badAt_33 : am_fd mt_Mo_badAt.1 33 = (.goto 4,3,37,0,0,0,.retAddr 0) := rfl
theorem fd_Mo_badAt_36 : am_fd mt_Mo_badAt.1 36 = (.iconst 0,1,0,0,0,0,.int 0) := rfl
theorem fd_Mo_badAt_37 : am_fd mt_Mo_badAt.1 37 = (.bastore,1,0,0,0,0,.retAddr 0) := rfl
theorem fd_Mo_badAt_38 : am_fd mt_Mo_badAt.1 38 = (.aload_n 0,1,0,0,0,0,.retAddr 0) := rfl
theorem fd_Mo_badAt_39 : am_fd mt_Mo_badAt.1 39 = (.getfield 66,3,29,2,12,12,.retAddr 0) := rfl
theorem fd_Mo_badAt_42 : am_fd mt_Mo_badAt.1 42 = (.iconst 1,1,0,0,0,0,.int 1) := rfl
theorem fd_Mo_badAt_43 : am_fd mt_Mo_badAt.1 43 = (.aload_n 0,1,0,0,0,0,.retAddr 0) := rfl
theorem fd_Mo_badAt_44 : am_fd mt_Mo_badAt.1 44 = (.getfield 125,3,4,0,12,12,.retAddr 0) := rfl
theorem fd_Mo_badAt_47 : am_fd mt_Mo_badAt.1 47 = (.iconst 1,1,0,0,0,0,.int 1) := rfl
theorem fd_Mo_badAt_48 : am_fd mt_Mo_badAt.1 48 = (.iand,1,0,0,0,0,.retAddr 0) := rfl
theorem fd_Mo_badAt_49 : am_fd mt_Mo_badAt.1 49 = (.iconst 1,1,0,0,0,0,.int 1) := rfl
theorem fd_Mo_badAt_50 : am_fd mt_Mo_badAt.1 50 = (.if_icmp .ne 7,3,57,0,0,0,.retAddr 0) := rfl
theorem fd_Mo_badAt_53 : am_fd mt_Mo_badAt.1 53 = (.iconst 1,1,0,0,0,0,.int 1) := rfl
theorem fd_Mo_badAt_54 : am_fd mt_Mo_badAt.1 54 = (.goto 4,3,58,0,0,0,.retAddr 0) := rfl
theorem fd_Mo_badAt_57 : am_fd mt_Mo_badAt.1 57 = (.iconst 0,1,0,0,0,0,.int 0) := rfl
theorem fd_Mo_badAt_58 : am_fd mt_Mo_badAt.1 58 = (.bastore,1,0,0,0,0,.retAddr 0) := rfl
theorem fd_Mo_badAt_59 : am_fd mt_Mo_badAt.1 59 = (.iconst 0,1,0,0,0,0,.int 0) := rfl
theorem fd_Mo_badAt_60 : am_fd mt_Mo_badAt.1 60 = (.istore_n 1,1,1,0,0,0,.retAddr 0) := rfl
theorem fd_Mo_badAt_61 : am_fd mt_Mo_badAt.1 61 = (.iload_n 1,1,1,0,0,0,.retAddr 0) := rfl
theorem fd_Mo_badAt_62 : am_fd mt_Mo_badAt.1 62 = (.aload_n 0,1,0,0,0,0,.retAddr 0) := rfl
theorem fd_Mo_badAt_63 : am_fd mt_Mo_badAt.1 63 = (.getfield 121,3,1,0,12,12,.retAddr 0) := rfl
theorem fd_Mo_badAt_66 : am_fd mt_Mo_badAt.1 66 = (.if_icmp .ge 28,3,94,0,0,0,.retAddr 0) := rfl
theorem fd_Mo_badAt_69 : am_fd mt_Mo_badAt.1 69 = (.aload_n 0,1,0,0,0,0,.retAddr 0) := rfl
theorem fd_Mo_badAt_70 : am_fd mt_Mo_badAt.1 70 = (.getfield 66,3,29,2,12,12,.retAddr 0) := rfl
theorem fd_Mo_badAt_73 : am_fd mt_Mo_badAt.1 73 = (.iload_n 1,1,1,0,0,0,.retAddr 0) := rfl
theorem fd_Mo_badAt_74 : am_fd mt_Mo_badAt.1 74 = (.baload,1,0,0,0,0,.retAddr 0) := rfl
theorem fd_Mo_badAt_75 : am_fd mt_Mo_badAt.1 75 = (.ifCond .eq 13,3,88,0,0,0,.retAddr 0) := rfl
theorem fd_Mo_badAt_78 : am_fd mt_Mo_badAt.1 78 = (.aload_n 0,1,0,0,0,0,.retAddr 0) := rfl
theorem fd_Mo_badAt_79 : am_fd mt_Mo_badAt.1 79 = (.iload_n 1,1,1,0,0,0,.retAddr 0) := rfl
theorem fd_Mo_badAt_80 : am_fd mt_Mo_badAt.1 80 = (.invokevirtual 278,3,150,2,12,0,.retAddr 0) := rfl
theorem fd_Mo_badAt_83 : am_fd mt_Mo_badAt.1 83 = (.ifCond .ne 5,3,88,0,0,0,.retAddr 0) := rfl
theorem fd_Mo_badAt_86 : am_fd mt_Mo_badAt.1 86 = (.iload_n 1,1,1,0,0,0,.retAddr 0) := rfl
theorem fd_Mo_badAt_87 : am_fd mt_Mo_badAt.1 87 = (.ireturn,1,0,0,0,0,.retAddr 0) := rfl
theorem fd_Mo_badAt_88 : am_fd mt_Mo_badAt.1 88 = (.iinc 1 1,3,1,0,0,0,.int 1) := rfl
theorem fd_Mo_badAt_91 : am_fd mt_Mo_badAt.1 91 = (.goto (-30),3,61,0,0,0,.retAddr 0) := rfl
theorem fd_Mo_badAt_94 : am_fd mt_Mo_badAt.1 94 = (.iconst (-1),1,0,0,0,0,.int (-1)) := rfl
theorem fd_Mo_badAt_95 : am_fd mt_Mo_badAt.1 95 = (.ireturn,1,0,0,0,0,.retAddr 0) := rfl
theorem fd_Mo_cut_0 : am_fd mt_Mo_cut.1 0 = (.aload_n 0,1,0,0,0,0,.retAddr 0) := rfl
theorem fd_Mo_cut_1 : am_fd mt_Mo_cut.1 1 = (.iload_n 1,1,1,0,0,0,.retAddr 0) := rfl
theorem fd_Mo_cut_2 : am_fd mt_Mo_cut.1 2 = (.ifCond .lt 20,3,22,0,0,0,.retAddr 0) := rfl
theorem fd_Mo_cut_5 : am_fd mt_Mo_cut.1 5 = (.iload_n 1,1,1,0,0,0,.retAddr 0) := rfl
theorem fd_Mo_cut_6 : am_fd mt_Mo_cut.1 6 = (.sipush 1000,3,0,0,0,0,.int 1000) := rfl
theorem fd_Mo_cut_9 : am_fd mt_Mo_cut.1 9 = (.if_icmp .gt 13,3,22,0,0,0,.retAddr 0) := rfl
theorem fd_Mo_cut_12 : am_fd mt_Mo_cut.1 12 = (.iload_n 2,1,2,0,0,0,.retAddr 0) := rfl
theorem fd_Mo_cut_13 : am_fd mt_Mo_cut.1 13 = (.ifCond .lt 9,3,22,0,0,0,.retAddr 0) := rfl
theorem fd_Mo_cut_16 : am_fd mt_Mo_cut.1 16 = (.iload_n 2,1,2,0,0,0,.retAddr 0) := rfl
theorem fd_Mo_cut_17 : am_fd mt_Mo_cut.1 17 = (.bipush 127,2,0,0,0,0,.int 127) := rfl
theorem fd_Mo_cut_19 : am_fd mt_Mo_cut.1 19 = (.if_icmp .le 7,3,26,0,0,0,.retAddr 0) := rfl
theorem fd_Mo_cut_22 : am_fd mt_Mo_cut.1 22 = (.iconst 1,1,0,0,0,0,.int 1) := rfl
theorem fd_Mo_cut_23 : am_fd mt_Mo_cut.1 23 = (.goto 4,3,27,0,0,0,.retAddr 0) := rfl
theorem fd_Mo_cut_26 : am_fd mt_Mo_cut.1 26 = (.iconst 0,1,0,0,0,0,.int 0) := rfl
theorem fd_Mo_cut_27 : am_fd mt_Mo_cut.1 27 = (.putfield 141,3,0,0,12,12,.retAddr 0) := rfl
theorem fd_Mo_cut_30 : am_fd mt_Mo_cut.1 30 = (.aload_n 0,1,0,0,0,0,.retAddr 0) := rfl
theorem fd_Mo_cut_31 : am_fd mt_Mo_cut.1 31 = (.getfield 141,3,0,0,12,12,.retAddr 0) := rfl
theorem fd_Mo_cut_34 : am_fd mt_Mo_cut.1 34 = (.ifCond .ne 13,3,47,0,0,0,.retAddr 0) := rfl
theorem fd_Mo_cut_37 : am_fd mt_Mo_cut.1 37 = (.aload_n 0,1,0,0,0,0,.retAddr 0) := rfl
theorem fd_Mo_cut_38 : am_fd mt_Mo_cut.1 38 = (.iload_n 1,1,1,0,0,0,.retAddr 0) := rfl
theorem fd_Mo_cut_39 : am_fd mt_Mo_cut.1 39 = (.putfield 152,3,8,0,12,12,.retAddr 0) := rfl
theorem fd_Mo_cut_42 : am_fd mt_Mo_cut.1 42 = (.aload_n 0,1,0,0,0,0,.retAddr 0) := rfl
theorem fd_Mo_cut_43 : am_fd mt_Mo_cut.1 43 = (.iload_n 2,1,2,0,0,0,.retAddr 0) := rfl
theorem fd_Mo_cut_44 : am_fd mt_Mo_cut.1 44 = (.putfield 155,3,9,0,12,12,.retAddr 0) := rfl
theorem fd_Mo_cut_47 : am_fd mt_Mo_cut.1 47 = (.return_,1,0,0,0,0,.retAddr 0) := rfl
theorem fd_Mo_down_0 : am_fd mt_Mo_down.1 0 = (.aload_n 0,1,0,0,0,0,.retAddr 0) := rfl
theorem fd_Mo_down_1 : am_fd mt_Mo_down.1 1 = (.iconst 0,1,0,0,0,0,.int 0) := rfl
theorem fd_Mo_down_2 : am_fd mt_Mo_down.1 2 = (.putfield 141,3,0,0,12,12,.retAddr 0) := rfl
theorem fd_Mo_down_5 : am_fd mt_Mo_down.1 5 = (.aload_n 0,1,0,0,0,0,.retAddr 0) := rfl
theorem fd_Mo_down_6 : am_fd mt_Mo_down.1 6 = (.getfield 161,3,3,0,12,12,.retAddr 0) := rfl
theorem fd_Mo_down_9 : am_fd mt_Mo_down.1 9 = (.ifCond .eq 5,3,14,0,0,0,.retAddr 0) := rfl
theorem fd_Mo_down_12 : am_fd mt_Mo_down.1 12 = (.iconst 0,1,0,0,0,0,.int 0) := rfl
theorem fd_Mo_down_13 : am_fd mt_Mo_down.1 13 = (.ireturn,1,1,0,0,0,.retAddr 0) := rfl
theorem fd_Mo_down_14 : am_fd mt_Mo_down.1 14 = (.aload_n 0,1,0,0,0,0,.retAddr 0) := rfl
theorem fd_Mo_down_15 : am_fd mt_Mo_down.1 15 = (.invokevirtual 158,3,137,1,12,0,.retAddr 0) := rfl
theorem fd_Mo_down_18 : am_fd mt_Mo_down.1 18 = (.iconst 1,1,0,0,0,0,.int 1) := rfl
theorem fd_Mo_down_19 : am_fd mt_Mo_down.1 19 = (.ireturn,1,1,0,0,0,.retAddr 0) := rfl
theorem fd_Mo_open_0 : am_fd mt_Mo_open.1 0 = (.aload_n 0,1,0,0,0,0,.retAddr 0) := rfl
theorem fd_Mo_open_1 : am_fd mt_Mo_open.1 1 = (.aload_n 0,1,0,0,0,0,.retAddr 0) := rfl
theorem fd_Mo_open_2 : am_fd mt_Mo_open.1 2 = (.getfield 161,3,3,0,12,12,.retAddr 0) := rfl
theorem fd_Mo_open_5 : am_fd mt_Mo_open.1 5 = (.ifCond .eq 7,3,12,0,0,0,.retAddr 0) := rfl
theorem fd_Mo_open_8 : am_fd mt_Mo_open.1 8 = (.iconst 0,1,0,0,0,0,.int 0) := rfl
theorem fd_Mo_open_9 : am_fd mt_Mo_open.1 9 = (.goto 4,3,13,0,0,0,.retAddr 0) := rfl
theorem fd_Mo_open_12 : am_fd mt_Mo_open.1 12 = (.iconst 1,1,0,0,0,0,.int 1) := rfl
theorem fd_Mo_open_13 : am_fd mt_Mo_open.1 13 = (.putfield 141,3,0,0,12,12,.retAddr 0) := rfl
theorem fd_Mo_open_16 : am_fd mt_Mo_open.1 16 = (.aload_n 0,1,0,0,0,0,.retAddr 0) := rfl
theorem fd_Mo_open_17 : am_fd mt_Mo_open.1 17 = (.getfield 141,3,0,0,12,12,.retAddr 0) := rfl
theorem fd_Mo_open_20 : am_fd mt_Mo_open.1 20 = (.ifCond .eq 5,3,25,0,0,0,.retAddr 0) := rfl
theorem fd_Mo_open_23 : am_fd mt_Mo_open.1 23 = (.iconst 0,1,0,0,0,0,.int 0) := rfl
theorem fd_Mo_open_24 : am_fd mt_Mo_open.1 24 = (.ireturn,1,0,0,0,0,.retAddr 0) := rfl
theorem fd_Mo_open_25 : am_fd mt_Mo_open.1 25 = (.aload_n 0,1,0,0,0,0,.retAddr 0) := rfl
theorem fd_Mo_open_26 : am_fd mt_Mo_open.1 26 = (.iconst 0,1,0,0,0,0,.int 0) := rfl
theorem fd_Mo_open_27 : am_fd mt_Mo_open.1 27 = (.invokevirtual 328,3,190,2,12,0,.retAddr 0) := rfl
theorem fd_Mo_open_30 : am_fd mt_Mo_open.1 30 = (.istore_n 1,1,1,0,0,0,.retAddr 0) := rfl
theorem fd_Mo_open_31 : am_fd mt_Mo_open.1 31 = (.aload_n 0,1,0,0,0,0,.retAddr 0) := rfl
theorem fd_Mo_open_32 : am_fd mt_Mo_open.1 32 = (.iconst 1,1,0,0,0,0,.int 1) := rfl
theorem fd_Mo_open_33 : am_fd mt_Mo_open.1 33 = (.invokevirtual 328,3,190,2,12,0,.retAddr 0) := rfl
theorem fd_Mo_open_36 : am_fd mt_Mo_open.1 36 = (.istore_n 2,1,2,0,0,0,.retAddr 0) := rfl
theorem fd_Mo_open_37 : am_fd mt_Mo_open.1 37 = (.iload_n 1,1,1,0,0,0,.retAddr 0) := rfl
theorem fd_Mo_open_38 : am_fd mt_Mo_open.1 38 = (.ifCond .ne 9,3,47,0,0,0,.retAddr 0) := rfl
theorem fd_Mo_open_41 : am_fd mt_Mo_open.1 41 = (.iload_n 2,1,2,0,0,0,.retAddr 0) := rfl
theorem fd_Mo_open_42 : am_fd mt_Mo_open.1 42 = (.ifCond .ne 5,3,47,0,0,0,.retAddr 0) := rfl
theorem fd_Mo_open_45 : am_fd mt_Mo_open.1 45 = (.iconst (-1),1,0,0,0,0,.int (-1)) := rfl
theorem fd_Mo_open_46 : am_fd mt_Mo_open.1 46 = (.ireturn,1,0,0,0,0,.retAddr 0) := rfl
theorem fd_Mo_open_47 : am_fd mt_Mo_open.1 47 = (.iload_n 1,1,1,0,0,0,.retAddr 0) := rfl
theorem fd_Mo_open_48 : am_fd mt_Mo_open.1 48 = (.iload_n 2,1,2,0,0,0,.retAddr 0) := rfl
theorem fd_Mo_open_49 : am_fd mt_Mo_open.1 49 = (.if_icmp .le 7,3,56,0,0,0,.retAddr 0) := rfl
theorem fd_Mo_open_52 : am_fd mt_Mo_open.1 52 = (.iconst 0,1,0,0,0,0,.int 0) := rfl
theorem fd_Mo_open_53 : am_fd mt_Mo_open.1 53 = (.goto 4,3,57,0,0,0,.retAddr 0) := rfl
theorem fd_Mo_open_56 : am_fd mt_Mo_open.1 56 = (.iconst 1,1,0,0,0,0,.int 1) := rfl
theorem fd_Mo_open_57 : am_fd mt_Mo_open.1 57 = (.istore_n 3,1,3,0,0,0,.retAddr 0) := rfl
theorem fd_Mo_open_58 : am_fd mt_Mo_open.1 58 = (.sipush 128,3,0,0,0,0,.int 128) := rfl
theorem fd_Mo_open_61 : am_fd mt_Mo_open.1 61 = (.iload_n 3,1,3,0,0,0,.retAddr 0) := rfl
theorem fd_Mo_open_62 : am_fd mt_Mo_open.1 62 = (.imul,1,0,0,0,0,.retAddr 0) := rfl
theorem fd_Mo_open_63 : am_fd mt_Mo_open.1 63 = (.iconst 4,1,0,0,0,0,.int 4) := rfl
theorem fd_Mo_open_64 : am_fd mt_Mo_open.1 64 = (.iadd,1,0,0,0,0,.retAddr 0) := rfl
theorem fd_Mo_open_65 : am_fd mt_Mo_open.1 65 = (.istore 4,2,4,0,0,0,.retAddr 0) := rfl
theorem fd_Mo_open_67 : am_fd mt_Mo_open.1 67 = (.aload_n 0,1,0,0,0,0,.retAddr 0) := rfl
theorem fd_Mo_open_68 : am_fd mt_Mo_open.1 68 = (.iload 4,2,4,0,0,0,.retAddr 0) := rfl
theorem fd_Mo_open_70 : am_fd mt_Mo_open.1 70 = (.invokevirtual 319,3,191,2,12,0,.retAddr 0) := rfl
theorem fd_Mo_open_73 : am_fd mt_Mo_open.1 73 = (.istore 5,2,5,0,0,0,.retAddr 0) := rfl
theorem fd_Mo_open_75 : am_fd mt_Mo_open.1 75 = (.aload_n 0,1,0,0,0,0,.retAddr 0) := rfl
theorem fd_Mo_open_76 : am_fd mt_Mo_open.1 76 = (.getfield 8,3,2,2,12,12,.retAddr 0) := rfl
theorem fd_Mo_open_79 : am_fd mt_Mo_open.1 79 = (.iload 4,2,4,0,0,0,.retAddr 0) := rfl
theorem fd_Mo_open_81 : am_fd mt_Mo_open.1 81 = (.iconst 2,1,0,0,0,0,.int 2) := rfl
theorem fd_Mo_open_82 : am_fd mt_Mo_open.1 82 = (.iadd,1,0,0,0,0,.retAddr 0) := rfl
theorem fd_Mo_open_83 : am_fd mt_Mo_open.1 83 = (.baload,1,0,0,0,0,.retAddr 0) := rfl
theorem fd_Mo_open_84 : am_fd mt_Mo_open.1 84 = (.sipush 255,3,0,0,0,0,.int 255) := rfl
theorem fd_Mo_open_87 : am_fd mt_Mo_open.1 87 = (.iand,1,0,0,0,0,.retAddr 0) := rfl
theorem fd_Mo_open_88 : am_fd mt_Mo_open.1 88 = (.istore 6,2,6,0,0,0,.retAddr 0) := rfl
theorem fd_Mo_open_90 : am_fd mt_Mo_open.1 90 = (.iinc 4 3,3,4,0,0,0,.int 3) := rfl
theorem fd_Mo_open_93 : am_fd mt_Mo_open.1 93 = (.iconst 0,1,0,0,0,0,.int 0) := rfl
theorem fd_Mo_open_94 : am_fd mt_Mo_open.1 94 = (.istore 7,2,7,0,0,0,.retAddr 0) := rfl
theorem fd_Mo_open_96 : am_fd mt_Mo_open.1 96 = (.iload 7,2,7,0,0,0,.retAddr 0) := rfl
theorem fd_Mo_open_98 : am_fd mt_Mo_open.1 98 = (.iload 6,2,6,0,0,0,.retAddr 0) := rfl
theorem fd_Mo_open_100 : am_fd mt_Mo_open.1 100 = (.if_icmp .ge 306,3,406,0,0,0,.retAddr 0) := rfl
theorem fd_Mo_open_103 : am_fd mt_Mo_open.1 103 = (.iload 7,2,7,0,0,0,.retAddr 0) := rfl
theorem fd_Mo_open_105 : am_fd mt_Mo_open.1 105 = (.istore 8,2,8,0,0,0,.retAddr 0) := rfl
theorem fd_Mo_open_107 : am_fd mt_Mo_open.1 107 = (.aload_n 0,1,0,0,0,0,.retAddr 0) := rfl
theorem fd_Mo_open_108 : am_fd mt_Mo_open.1 108 = (.getfield 28,3,16,2,12,12,.retAddr 0) := rfl
theorem fd_Mo_open_111 : am_fd mt_Mo_open.1 111 = (.iload 8,2,8,0,0,0,.retAddr 0) := rfl
theorem fd_Mo_open_113 : am_fd mt_Mo_open.1 113 = (.aload_n 0,1,0,0,0,0,.retAddr 0) := rfl
theorem fd_Mo_open_114 : am_fd mt_Mo_open.1 114 = (.iload 4,2,4,0,0,0,.retAddr 0) := rfl
theorem fd_Mo_open_116 : am_fd mt_Mo_open.1 116 = (.invokevirtual 319,3,191,2,12,0,.retAddr 0) := rfl
theorem fd_Mo_open_119 : am_fd mt_Mo_open.1 119 = (.iastore,1,0,0,0,0,.retAddr 0) := rfl
theorem fd_Mo_open_120 : am_fd mt_Mo_open.1 120 = (.aload_n 0,1,0,0,0,0,.retAddr 0) := rfl
theorem fd_Mo_open_121 : am_fd mt_Mo_open.1 121 = (.getfield 31,3,17,2,12,12,.retAddr 0) := rfl
theorem fd_Mo_open_124 : am_fd mt_Mo_open.1 124 = (.iload 8,2,8,0,0,0,.retAddr 0) := rfl
theorem fd_Mo_open_126 : am_fd mt_Mo_open.1 126 = (.aload_n 0,1,0,0,0,0,.retAddr 0) := rfl
theorem fd_Mo_open_127 : am_fd mt_Mo_open.1 127 = (.getfield 8,3,2,2,12,12,.retAddr 0) := rfl
theorem fd_Mo_open_130 : am_fd mt_Mo_open.1 130 = (.iload 4,2,4,0,0,0,.retAddr 0) := rfl
theorem fd_Mo_open_132 : am_fd mt_Mo_open.1 132 = (.iconst 2,1,0,0,0,0,.int 2) := rfl
theorem fd_Mo_open_133 : am_fd mt_Mo_open.1 133 = (.iadd,1,0,0,0,0,.retAddr 0) := rfl
theorem fd_Mo_open_134 : am_fd mt_Mo_open.1 134 = (.baload,1,0,0,0,0,.retAddr 0) := rfl
theorem fd_Mo_open_135 : am_fd mt_Mo_open.1 135 = (.iastore,1,0,0,0,0,.retAddr 0) := rfl
theorem fd_Mo_open_136 : am_fd mt_Mo_open.1 136 = (.aload_n 0,1,0,0,0,0,.retAddr 0) := rfl
theorem fd_Mo_open_137 : am_fd mt_Mo_open.1 137 = (.getfield 34,3,18,2,12,12,.retAddr 0) := rfl
theorem fd_Mo_open_140 : am_fd mt_Mo_open.1 140 = (.iload 8,2,8,0,0,0,.retAddr 0) := rfl
theorem fd_Mo_open_142 : am_fd mt_Mo_open.1 142 = (.aload_n 0,1,0,0,0,0,.retAddr 0) := rfl
theorem fd_Mo_open_143 : am_fd mt_Mo_open.1 143 = (.iload 4,2,4,0,0,0,.retAddr 0) := rfl
theorem fd_Mo_open_145 : am_fd mt_Mo_open.1 145 = (.iconst 5,1,0,0,0,0,.int 5) := rfl
theorem fd_Mo_open_146 : am_fd mt_Mo_open.1 146 = (.iadd,1,0,0,0,0,.retAddr 0) := rfl
theorem fd_Mo_open_147 : am_fd mt_Mo_open.1 147 = (.invokevirtual 319,3,191,2,12,0,.retAddr 0) := rfl
theorem fd_Mo_open_150 : am_fd mt_Mo_open.1 150 = (.iastore,1,0,0,0,0,.retAddr 0) := rfl
theorem fd_Mo_open_151 : am_fd mt_Mo_open.1 151 = (.aload_n 0,1,0,0,0,0,.retAddr 0) := rfl
theorem fd_Mo_open_152 : am_fd mt_Mo_open.1 152 = (.getfield 37,3,19,2,12,12,.retAddr 0) := rfl
theorem fd_Mo_open_155 : am_fd mt_Mo_open.1 155 = (.iload 8,2,8,0,0,0,.retAddr 0) := rfl
theorem fd_Mo_open_157 : am_fd mt_Mo_open.1 157 = (.iconst 0,1,0,0,0,0,.int 0) := rfl
theorem fd_Mo_open_158 : am_fd mt_Mo_open.1 158 = (.iastore,1,0,0,0,0,.retAddr 0) := rfl
theorem fd_Mo_open_159 : am_fd mt_Mo_open.1 159 = (.aload_n 0,1,0,0,0,0,.retAddr 0) := rfl
theorem fd_Mo_open_160 : am_fd mt_Mo_open.1 160 = (.iload 8,2,8,0,0,0,.retAddr 0) := rfl
theorem fd_Mo_open_162 : am_fd mt_Mo_open.1 162 = (.invokevirtual 215,3,163,2,12,0,.retAddr 0) := rfl
theorem fd_Mo_open_165 : am_fd mt_Mo_open.1 165 = (.aload_n 0,1,0,0,0,0,.retAddr 0) := rfl
theorem fd_Mo_open_166 : am_fd mt_Mo_open.1 166 = (.iload 4,2,4,0,0,0,.retAddr 0) := rfl
theorem fd_Mo_open_168 : am_fd mt_Mo_open.1 168 = (.iconst 3,1,0,0,0,0,.int 3) := rfl
theorem fd_Mo_open_169 : am_fd mt_Mo_open.1 169 = (.iadd,1,0,0,0,0,.retAddr 0) := rfl
theorem fd_Mo_open_170 : am_fd mt_Mo_open.1 170 = (.invokevirtual 319,3,191,2,12,0,.retAddr 0) := rfl
theorem fd_Mo_open_173 : am_fd mt_Mo_open.1 173 = (.istore 9,2,9,0,0,0,.retAddr 0) := rfl
theorem fd_Mo_open_175 : am_fd mt_Mo_open.1 175 = (.iconst 0,1,0,0,0,0,.int 0) := rfl
theorem fd_Mo_open_176 : am_fd mt_Mo_open.1 176 = (.istore 10,2,10,0,0,0,.retAddr 0) := rfl
theorem fd_Mo_open_178 : am_fd mt_Mo_open.1 178 = (.iload 10,2,10,0,0,0,.retAddr 0) := rfl
theorem fd_Mo_open_180 : am_fd mt_Mo_open.1 180 = (.aload_n 0,1,0,0,0,0,.retAddr 0) := rfl
theorem fd_Mo_open_181 : am_fd mt_Mo_open.1 181 = (.getfield 34,3,18,2,12,12,.retAddr 0) := rfl
theorem fd_Mo_open_184 : am_fd mt_Mo_open.1 184 = (.iload 8,2,8,0,0,0,.retAddr 0) := rfl
theorem fd_Mo_open_186 : am_fd mt_Mo_open.1 186 = (.iaload,1,0,0,0,0,.retAddr 0) := rfl
theorem fd_Mo_open_187 : am_fd mt_Mo_open.1 187 = (.if_icmp .ge 210,3,397,0,0,0,.retAddr 0) := rfl
theorem fd_Mo_open_190 : am_fd mt_Mo_open.1 190 = (.aload_n 0,1,0,0,0,0,.retAddr 0) := rfl
theorem fd_Mo_open_191 : am_fd mt_Mo_open.1 191 = (.dup,1,0,0,0,0,.retAddr 0) := rfl
theorem fd_Mo_open_192 : am_fd mt_Mo_open.1 192 = (.getfield 275,3,6,0,12,12,.retAddr 0) := rfl
theorem fd_Mo_open_195 : am_fd mt_Mo_open.1 195 = (.iconst 1,1,0,0,0,0,.int 1) := rfl
theorem fd_Mo_open_196 : am_fd mt_Mo_open.1 196 = (.iadd,1,0,0,0,0,.retAddr 0) := rfl
theorem fd_Mo_open_197 : am_fd mt_Mo_open.1 197 = (.putfield 275,3,6,0,12,12,.retAddr 0) := rfl
theorem fd_Mo_open_200 : am_fd mt_Mo_open.1 200 = (.iload 9,2,9,0,0,0,.retAddr 0) := rfl
theorem fd_Mo_open_202 : am_fd mt_Mo_open.1 202 = (.iconst 2,1,0,0,0,0,.int 2) := rfl
theorem fd_Mo_open_203 : am_fd mt_Mo_open.1 203 = (.if_icmp .lt 67,3,270,0,0,0,.retAddr 0) := rfl
theorem fd_Mo_open_206 : am_fd mt_Mo_open.1 206 = (.iload 9,2,9,0,0,0,.retAddr 0) := rfl
theorem fd_Mo_open_208 : am_fd mt_Mo_open.1 208 = (.aload_n 0,1,0,0,0,0,.retAddr 0) := rfl
theorem fd_Mo_open_209 : am_fd mt_Mo_open.1 209 = (.getfield 121,3,1,0,12,12,.retAddr 0) := rfl
theorem fd_Mo_open_212 : am_fd mt_Mo_open.1 212 = (.if_icmp .ge 58,3,270,0,0,0,.retAddr 0) := rfl
theorem fd_Mo_open_215 : am_fd mt_Mo_open.1 215 = (.aload_n 0,1,0,0,0,0,.retAddr 0) := rfl
theorem fd_Mo_open_216 : am_fd mt_Mo_open.1 216 = (.iload 9,2,9,0,0,0,.retAddr 0) := rfl
theorem fd_Mo_open_218 : am_fd mt_Mo_open.1 218 = (.invokevirtual 278,3,150,2,12,0,.retAddr 0) := rfl
theorem fd_Mo_open_221 : am_fd mt_Mo_open.1 221 = (.ifCond .eq 49,3,270,0,0,0,.retAddr 0) := rfl
theorem fd_Mo_open_224 : am_fd mt_Mo_open.1 224 = (.aload_n 0,1,0,0,0,0,.retAddr 0) := rfl
theorem fd_Mo_open_225 : am_fd mt_Mo_open.1 225 = (.sipush 128,3,0,0,0,0,.int 128) := rfl
theorem fd_Mo_open_228 : am_fd mt_Mo_open.1 228 = (.iload 9,2,9,0,0,0,.retAddr 0) := rfl
theorem fd_Mo_open_230 : am_fd mt_Mo_open.1 230 = (.imul,1,0,0,0,0,.retAddr 0) := rfl
theorem fd_Mo_open_231 : am_fd mt_Mo_open.1 231 = (.invokevirtual 319,3,191,2,12,0,.retAddr 0) := rfl
theorem fd_Mo_open_234 : am_fd mt_Mo_open.1 234 = (.aload_n 0,1,0,0,0,0,.retAddr 0) := rfl
theorem fd_Mo_open_235 : am_fd mt_Mo_open.1 235 = (.getfield 28,3,16,2,12,12,.retAddr 0) := rfl
theorem fd_Mo_open_238 : am_fd mt_Mo_open.1 238 = (.iload 8,2,8,0,0,0,.retAddr 0) := rfl
theorem fd_Mo_open_240 : am_fd mt_Mo_open.1 240 = (.iaload,1,0,0,0,0,.retAddr 0) := rfl
theorem fd_Mo_open_241 : am_fd mt_Mo_open.1 241 = (.if_icmp .ne 29,3,270,0,0,0,.retAddr 0) := rfl
theorem fd_Mo_open_244 : am_fd mt_Mo_open.1 244 = (.aload_n 0,1,0,0,0,0,.retAddr 0) := rfl
theorem fd_Mo_open_245 : am_fd mt_Mo_open.1 245 = (.iload 9,2,9,0,0,0,.retAddr 0) := rfl
theorem fd_Mo_open_247 : am_fd mt_Mo_open.1 247 = (.iload 10,2,10,0,0,0,.retAddr 0) := rfl
theorem fd_Mo_open_249 : am_fd mt_Mo_open.1 249 = (.ifCond .le 7,3,256,0,0,0,.retAddr 0) := rfl
theorem fd_Mo_open_252 : am_fd mt_Mo_open.1 252 = (.iconst 1,1,0,0,0,0,.int 1) := rfl
theorem fd_Mo_open_253 : am_fd mt_Mo_open.1 253 = (.goto 4,3,257,0,0,0,.retAddr 0) := rfl
theorem fd_Mo_open_256 : am_fd mt_Mo_open.1 256 = (.iconst 0,1,0,0,0,0,.int 0) := rfl
theorem fd_Mo_open_257 : am_fd mt_Mo_open.1 257 = (.aload_n 0,1,0,0,0,0,.retAddr 0) := rfl
theorem fd_Mo_open_258 : am_fd mt_Mo_open.1 258 = (.getfield 47,3,22,2,12,12,.retAddr 0) := rfl
theorem fd_Mo_open_261 : am_fd mt_Mo_open.1 261 = (.iload 8,2,8,0,0,0,.retAddr 0) := rfl
theorem fd_Mo_open_263 : am_fd mt_Mo_open.1 263 = (.laload,1,0,0,0,0,.retAddr 0) := rfl
theorem fd_Mo_open_264 : am_fd mt_Mo_open.1 264 = (.invokevirtual 331,3,193,4,12,0,.retAddr 0) := rfl
theorem fd_Mo_open_267 : am_fd mt_Mo_open.1 267 = (.ifCond .ne 9,3,276,0,0,0,.retAddr 0) := rfl
theorem fd_Mo_open_270 : am_fd mt_Mo_open.1 270 = (.bipush (-2),2,0,0,0,0,.int (-2)) := rfl
theorem fd_Mo_open_272 : am_fd mt_Mo_open.1 272 = (.iload 9,2,9,0,0,0,.retAddr 0) := rfl
theorem fd_Mo_open_274 : am_fd mt_Mo_open.1 274 = (.isub,1,0,0,0,0,.retAddr 0) := rfl
theorem fd_Mo_open_275 : am_fd mt_Mo_open.1 275 = (.ireturn,1,0,0,0,0,.retAddr 0) := rfl
theorem fd_Mo_open_276 : am_fd mt_Mo_open.1 276 = (.aload_n 0,1,0,0,0,0,.retAddr 0) := rfl
theorem fd_Mo_open_277 : am_fd mt_Mo_open.1 277 = (.getfield 41,3,20,2,12,12,.retAddr 0) := rfl
theorem fd_Mo_open_280 : am_fd mt_Mo_open.1 280 = (.sipush 1024,3,0,0,0,0,.int 1024) := rfl
theorem fd_Mo_open_283 : am_fd mt_Mo_open.1 283 = (.iload 8,2,8,0,0,0,.retAddr 0) := rfl
theorem fd_Mo_open_285 : am_fd mt_Mo_open.1 285 = (.imul,1,0,0,0,0,.retAddr 0) := rfl
theorem fd_Mo_open_286 : am_fd mt_Mo_open.1 286 = (.iload 10,2,10,0,0,0,.retAddr 0) := rfl
theorem fd_Mo_open_288 : am_fd mt_Mo_open.1 288 = (.iadd,1,0,0,0,0,.retAddr 0) := rfl
theorem fd_Mo_open_289 : am_fd mt_Mo_open.1 289 = (.iload 9,2,9,0,0,0,.retAddr 0) := rfl
theorem fd_Mo_open_291 : am_fd mt_Mo_open.1 291 = (.iastore,1,0,0,0,0,.retAddr 0) := rfl
theorem fd_Mo_open_292 : am_fd mt_Mo_open.1 292 = (.aload_n 0,1,0,0,0,0,.retAddr 0) := rfl
theorem fd_Mo_open_293 : am_fd mt_Mo_open.1 293 = (.iload 9,2,9,0,0,0,.retAddr 0) := rfl
theorem fd_Mo_open_295 : am_fd mt_Mo_open.1 295 = (.invokevirtual 281,3,151,2,12,0,.retAddr 0) := rfl
theorem fd_Mo_open_298 : am_fd mt_Mo_open.1 298 = (.aload_n 0,1,0,0,0,0,.retAddr 0) := rfl
theorem fd_Mo_open_299 : am_fd mt_Mo_open.1 299 = (.getfield 44,3,21,2,12,12,.retAddr 0) := rfl
theorem fd_Mo_open_302 : am_fd mt_Mo_open.1 302 = (.sipush 1024,3,0,0,0,0,.int 1024) := rfl
theorem fd_Mo_open_305 : am_fd mt_Mo_open.1 305 = (.iload 8,2,8,0,0,0,.retAddr 0) := rfl
theorem fd_Mo_open_307 : am_fd mt_Mo_open.1 307 = (.imul,1,0,0,0,0,.retAddr 0) := rfl
theorem fd_Mo_open_308 : am_fd mt_Mo_open.1 308 = (.iload 10,2,10,0,0,0,.retAddr 0) := rfl
theorem fd_Mo_open_310 : am_fd mt_Mo_open.1 310 = (.iadd,1,0,0,0,0,.retAddr 0) := rfl
theorem fd_Mo_open_311 : am_fd mt_Mo_open.1 311 = (.aload_n 0,1,0,0,0,0,.retAddr 0) := rfl
theorem fd_Mo_open_312 : am_fd mt_Mo_open.1 312 = (.getfield 82,3,36,2,12,12,.retAddr 0) := rfl
theorem fd_Mo_open_315 : am_fd mt_Mo_open.1 315 = (.iconst 0,1,0,0,0,0,.int 0) := rfl
theorem fd_Mo_open_316 : am_fd mt_Mo_open.1 316 = (.laload,1,0,0,0,0,.retAddr 0) := rfl
theorem fd_Mo_open_317 : am_fd mt_Mo_open.1 317 = (.lastore,1,0,0,0,0,.retAddr 0) := rfl
theorem fd_Mo_open_318 : am_fd mt_Mo_open.1 318 = (.iconst 0,1,0,0,0,0,.int 0) := rfl
theorem fd_Mo_open_319 : am_fd mt_Mo_open.1 319 = (.istore 11,2,11,0,0,0,.retAddr 0) := rfl
theorem fd_Mo_open_321 : am_fd mt_Mo_open.1 321 = (.iload 11,2,11,0,0,0,.retAddr 0) := rfl
theorem fd_Mo_open_323 : am_fd mt_Mo_open.1 323 = (.aload_n 0,1,0,0,0,0,.retAddr 0) := rfl
theorem fd_Mo_open_324 : am_fd mt_Mo_open.1 324 = (.getfield 272,3,35,0,12,12,.retAddr 0) := rfl
theorem fd_Mo_open_327 : am_fd mt_Mo_open.1 327 = (.if_icmp .ge 36,3,363,0,0,0,.retAddr 0) := rfl
theorem fd_Mo_open_330 : am_fd mt_Mo_open.1 330 = (.aload_n 0,1,0,0,0,0,.retAddr 0) := rfl
theorem fd_Mo_open_331 : am_fd mt_Mo_open.1 331 = (.iload 8,2,8,0,0,0,.retAddr 0) := rfl
theorem fd_Mo_open_333 : am_fd mt_Mo_open.1 333 = (.aload_n 0,1,0,0,0,0,.retAddr 0) := rfl
theorem fd_Mo_open_334 : am_fd mt_Mo_open.1 334 = (.getfield 82,3,36,2,12,12,.retAddr 0) := rfl
theorem fd_Mo_open_337 : am_fd mt_Mo_open.1 337 = (.iload 11,2,11,0,0,0,.retAddr 0) := rfl
theorem fd_Mo_open_339 : am_fd mt_Mo_open.1 339 = (.laload,1,0,0,0,0,.retAddr 0) := rfl
theorem fd_Mo_open_340 : am_fd mt_Mo_open.1 340 = (.invokevirtual 219,3,164,3,12,0,.retAddr 0) := rfl
theorem fd_Mo_open_343 : am_fd mt_Mo_open.1 343 = (.aload_n 0,1,0,0,0,0,.retAddr 0) := rfl
theorem fd_Mo_open_344 : am_fd mt_Mo_open.1 344 = (.getfield 47,3,22,2,12,12,.retAddr 0) := rfl
theorem fd_Mo_open_347 : am_fd mt_Mo_open.1 347 = (.iload 8,2,8,0,0,0,.retAddr 0) := rfl
theorem fd_Mo_open_349 : am_fd mt_Mo_open.1 349 = (.aload_n 0,1,0,0,0,0,.retAddr 0) := rfl
theorem fd_Mo_open_350 : am_fd mt_Mo_open.1 350 = (.getfield 82,3,36,2,12,12,.retAddr 0) := rfl
theorem fd_Mo_open_353 : am_fd mt_Mo_open.1 353 = (.iload 11,2,11,0,0,0,.retAddr 0) := rfl
theorem fd_Mo_open_355 : am_fd mt_Mo_open.1 355 = (.laload,1,0,0,0,0,.retAddr 0) := rfl
theorem fd_Mo_open_356 : am_fd mt_Mo_open.1 356 = (.lastore,1,0,0,0,0,.retAddr 0) := rfl
theorem fd_Mo_open_357 : am_fd mt_Mo_open.1 357 = (.iinc 11 1,3,11,0,0,0,.int 1) := rfl
theorem fd_Mo_open_360 : am_fd mt_Mo_open.1 360 = (.goto (-39),3,321,0,0,0,.retAddr 0) := rfl
theorem fd_Mo_open_363 : am_fd mt_Mo_open.1 363 = (.aload_n 0,1,0,0,0,0,.retAddr 0) := rfl
theorem fd_Mo_open_364 : am_fd mt_Mo_open.1 364 = (.getfield 37,3,19,2,12,12,.retAddr 0) := rfl
theorem fd_Mo_open_367 : am_fd mt_Mo_open.1 367 = (.iload 8,2,8,0,0,0,.retAddr 0) := rfl
theorem fd_Mo_open_369 : am_fd mt_Mo_open.1 369 = (.dup2,1,0,0,0,0,.retAddr 0) := rfl
theorem fd_Mo_open_370 : am_fd mt_Mo_open.1 370 = (.iaload,1,0,0,0,0,.retAddr 0) := rfl
theorem fd_Mo_open_371 : am_fd mt_Mo_open.1 371 = (.aload_n 0,1,0,0,0,0,.retAddr 0) := rfl
theorem fd_Mo_open_372 : am_fd mt_Mo_open.1 372 = (.getfield 272,3,35,0,12,12,.retAddr 0) := rfl
theorem fd_Mo_open_375 : am_fd mt_Mo_open.1 375 = (.iadd,1,0,0,0,0,.retAddr 0) := rfl
theorem fd_Mo_open_376 : am_fd mt_Mo_open.1 376 = (.iastore,1,0,0,0,0,.retAddr 0) := rfl
theorem fd_Mo_open_377 : am_fd mt_Mo_open.1 377 = (.aload_n 0,1,0,0,0,0,.retAddr 0) := rfl
theorem fd_Mo_open_378 : am_fd mt_Mo_open.1 378 = (.sipush 128,3,0,0,0,0,.int 128) := rfl
theorem fd_Mo_open_381 : am_fd mt_Mo_open.1 381 = (.iload 9,2,9,0,0,0,.retAddr 0) := rfl
theorem fd_Mo_open_383 : am_fd mt_Mo_open.1 383 = (.imul,1,0,0,0,0,.retAddr 0) := rfl
theorem fd_Mo_open_384 : am_fd mt_Mo_open.1 384 = (.iconst 2,1,0,0,0,0,.int 2) := rfl
theorem fd_Mo_open_385 : am_fd mt_Mo_open.1 385 = (.iadd,1,0,0,0,0,.retAddr 0) := rfl
theorem fd_Mo_open_386 : am_fd mt_Mo_open.1 386 = (.invokevirtual 319,3,191,2,12,0,.retAddr 0) := rfl
theorem fd_Mo_open_389 : am_fd mt_Mo_open.1 389 = (.istore 9,2,9,0,0,0,.retAddr 0) := rfl
theorem fd_Mo_open_391 : am_fd mt_Mo_open.1 391 = (.iinc 10 1,3,10,0,0,0,.int 1) := rfl
theorem fd_Mo_open_394 : am_fd mt_Mo_open.1 394 = (.goto (-216),3,178,0,0,0,.retAddr 0) := rfl
theorem fd_Mo_open_397 : am_fd mt_Mo_open.1 397 = (.iinc 4 7,3,4,0,0,0,.int 7) := rfl
theorem fd_Mo_open_400 : am_fd mt_Mo_open.1 400 = (.iinc 7 1,3,7,0,0,0,.int 1) := rfl
theorem fd_Mo_open_403 : am_fd mt_Mo_open.1 403 = (.goto (-307),3,96,0,0,0,.retAddr 0) := rfl
theorem fd_Mo_open_406 : am_fd mt_Mo_open.1 406 = (.aload_n 0,1,0,0,0,0,.retAddr 0) := rfl
theorem fd_Mo_open_407 : am_fd mt_Mo_open.1 407 = (.iconst 0,1,0,0,0,0,.int 0) := rfl
theorem fd_Mo_open_408 : am_fd mt_Mo_open.1 408 = (.putfield 161,3,3,3,12,12,.retAddr 0) := rfl
theorem fd_Mo_open_411 : am_fd mt_Mo_open.1 411 = (.aload_n 0,1,0,0,0,0,.retAddr 0) := rfl
theorem fd_Mo_open_412 : am_fd mt_Mo_open.1 412 = (.iload_n 3,1,3,0,0,0,.retAddr 0) := rfl
theorem fd_Mo_open_413 : am_fd mt_Mo_open.1 413 = (.ifCond .ne 7,3,420,0,0,0,.retAddr 0) := rfl
theorem fd_Mo_open_416 : am_fd mt_Mo_open.1 416 = (.iload_n 1,1,1,0,0,0,.retAddr 0) := rfl
theorem fd_Mo_open_417 : am_fd mt_Mo_open.1 417 = (.goto 4,3,421,0,0,0,.retAddr 0) := rfl
theorem fd_Mo_open_420 : am_fd mt_Mo_open.1 420 = (.iload_n 2,1,2,0,0,0,.retAddr 0) := rfl
theorem fd_Mo_open_421 : am_fd mt_Mo_open.1 421 = (.putfield 125,3,4,0,12,12,.retAddr 0) := rfl
theorem fd_Mo_open_424 : am_fd mt_Mo_open.1 424 = (.aload_n 0,1,0,0,0,0,.retAddr 0) := rfl
theorem fd_Mo_open_425 : am_fd mt_Mo_open.1 425 = (.iload 5,2,5,0,0,0,.retAddr 0) := rfl
theorem fd_Mo_open_427 : am_fd mt_Mo_open.1 427 = (.putfield 128,3,5,0,12,12,.retAddr 0) := rfl
theorem fd_Mo_open_430 : am_fd mt_Mo_open.1 430 = (.aload_n 0,1,0,0,0,0,.retAddr 0) := rfl
theorem fd_Mo_open_431 : am_fd mt_Mo_open.1 431 = (.iload 6,2,6,0,0,0,.retAddr 0) := rfl
theorem fd_Mo_open_433 : am_fd mt_Mo_open.1 433 = (.putfield 168,3,24,0,12,12,.retAddr 0) := rfl
theorem fd_Mo_open_436 : am_fd mt_Mo_open.1 436 = (.iconst 0,1,0,0,0,0,.int 0) := rfl
theorem fd_Mo_open_437 : am_fd mt_Mo_open.1 437 = (.istore 7,2,7,0,0,0,.retAddr 0) := rfl
theorem fd_Mo_open_439 : am_fd mt_Mo_open.1 439 = (.iload 7,2,7,0,0,0,.retAddr 0) := rfl
theorem fd_Mo_open_441 : am_fd mt_Mo_open.1 441 = (.iload 6,2,6,0,0,0,.retAddr 0) := rfl
theorem fd_Mo_open_443 : am_fd mt_Mo_open.1 443 = (.if_icmp .ge 26,3,469,0,0,0,.retAddr 0) := rfl
theorem fd_Mo_open_446 : am_fd mt_Mo_open.1 446 = (.aload_n 0,1,0,0,0,0,.retAddr 0) := rfl
theorem fd_Mo_open_447 : am_fd mt_Mo_open.1 447 = (.getfield 53,3,25,2,12,12,.retAddr 0) := rfl
theorem fd_Mo_open_450 : am_fd mt_Mo_open.1 450 = (.iload 7,2,7,0,0,0,.retAddr 0) := rfl
theorem fd_Mo_open_452 : am_fd mt_Mo_open.1 452 = (.iload 7,2,7,0,0,0,.retAddr 0) := rfl
theorem fd_Mo_open_454 : am_fd mt_Mo_open.1 454 = (.iastore,1,0,0,0,0,.retAddr 0) := rfl
theorem fd_Mo_open_455 : am_fd mt_Mo_open.1 455 = (.aload_n 0,1,0,0,0,0,.retAddr 0) := rfl
theorem fd_Mo_open_456 : am_fd mt_Mo_open.1 456 = (.getfield 25,3,15,2,12,12,.retAddr 0) := rfl
theorem fd_Mo_open_459 : am_fd mt_Mo_open.1 459 = (.iload 7,2,7,0,0,0,.retAddr 0) := rfl
theorem fd_Mo_open_461 : am_fd mt_Mo_open.1 461 = (.iconst 1,1,0,0,0,0,.int 1) := rfl
theorem fd_Mo_open_462 : am_fd mt_Mo_open.1 462 = (.iastore,1,0,0,0,0,.retAddr 0) := rfl
theorem fd_Mo_open_463 : am_fd mt_Mo_open.1 463 = (.iinc 7 1,3,7,0,0,0,.int 1) := rfl
theorem fd_Mo_open_466 : am_fd mt_Mo_open.1 466 = (.goto (-27),3,439,0,0,0,.retAddr 0) := rfl
theorem fd_Mo_open_469 : am_fd mt_Mo_open.1 469 = (.iload 6,2,6,0,0,0,.retAddr 0) := rfl
theorem fd_Mo_open_471 : am_fd mt_Mo_open.1 471 = (.ireturn,1,0,0,0,0,.retAddr 0) := rfl
theorem fd_Mo_generationOf_0 : am_fd mt_Mo_generationOf.1 0 = (.sipush 128,3,0,0,0,0,.int 128) := rfl
theorem fd_Mo_generationOf_3 : am_fd mt_Mo_generationOf.1 3 = (.iload_n 1,1,1,0,0,0,.retAddr 0) := rfl
theorem fd_Mo_generationOf_4 : am_fd mt_Mo_generationOf.1 4 = (.imul,1,0,0,0,0,.retAddr 0) := rfl
theorem fd_Mo_generationOf_5 : am_fd mt_Mo_generationOf.1 5 = (.istore_n 2,1,2,0,0,0,.retAddr 0) := rfl
theorem fd_Mo_generationOf_6 : am_fd mt_Mo_generationOf.1 6 = (.aload_n 0,1,0,0,0,0,.retAddr 0) := rfl
theorem fd_Mo_generationOf_7 : am_fd mt_Mo_generationOf.1 7 = (.iload_n 2,1,2,0,0,0,.retAddr 0) := rfl
theorem fd_Mo_generationOf_8 : am_fd mt_Mo_generationOf.1 8 = (.invokevirtual 319,3,191,2,12,0,.retAddr 0) := rfl
theorem fd_Mo_generationOf_11 : am_fd mt_Mo_generationOf.1 11 = (.bipush 16,2,0,0,0,0,.int 16) := rfl
theorem fd_Mo_generationOf_13 : am_fd mt_Mo_generationOf.1 13 = (.ishl,1,0,0,0,0,.retAddr 0) := rfl
theorem fd_Mo_generationOf_14 : am_fd mt_Mo_generationOf.1 14 = (.aload_n 0,1,0,0,0,0,.retAddr 0) := rfl
theorem fd_Mo_generationOf_15 : am_fd mt_Mo_generationOf.1 15 = (.iload_n 2,1,2,0,0,0,.retAddr 0) := rfl
theorem fd_Mo_generationOf_16 : am_fd mt_Mo_generationOf.1 16 = (.iconst 2,1,0,0,0,0,.int 2) := rfl
theorem fd_Mo_generationOf_17 : am_fd mt_Mo_generationOf.1 17 = (.iadd,1,0,0,0,0,.retAddr 0) := rfl
theorem fd_Mo_generationOf_18 : am_fd mt_Mo_generationOf.1 18 = (.invokevirtual 319,3,191,2,12,0,.retAddr 0) := rfl
theorem fd_Mo_generationOf_21 : am_fd mt_Mo_generationOf.1 21 = (.ior,1,0,0,0,0,.retAddr 0) := rfl
theorem fd_Mo_generationOf_22 : am_fd mt_Mo_generationOf.1 22 = (.istore_n 3,1,3,0,0,0,.retAddr 0) := rfl
theorem fd_Mo_generationOf_23 : am_fd mt_Mo_generationOf.1 23 = (.aload_n 0,1,0,0,0,0,.retAddr 0) := rfl
theorem fd_Mo_generationOf_24 : am_fd mt_Mo_generationOf.1 24 = (.iload_n 1,1,1,0,0,0,.retAddr 0) := rfl
theorem fd_Mo_generationOf_25 : am_fd mt_Mo_generationOf.1 25 = (.invokevirtual 278,3,150,2,12,0,.retAddr 0) := rfl
theorem fd_Mo_generationOf_28 : am_fd mt_Mo_generationOf.1 28 = (.ifCond .eq 26,3,54,0,0,0,.retAddr 0) := rfl
theorem fd_Mo_generationOf_31 : am_fd mt_Mo_generationOf.1 31 = (.iload_n 3,1,3,0,0,0,.retAddr 0) := rfl
theorem fd_Mo_generationOf_32 : am_fd mt_Mo_generationOf.1 32 = (.ifCond .le 22,3,54,0,0,0,.retAddr 0) := rfl
theorem fd_Mo_generationOf_35 : am_fd mt_Mo_generationOf.1 35 = (.iload_n 3,1,3,0,0,0,.retAddr 0) := rfl
theorem fd_Mo_generationOf_36 : am_fd mt_Mo_generationOf.1 36 = (.iconst 1,1,0,0,0,0,.int 1) := rfl
theorem fd_Mo_generationOf_37 : am_fd mt_Mo_generationOf.1 37 = (.iand,1,0,0,0,0,.retAddr 0) := rfl
theorem fd_Mo_generationOf_38 : am_fd mt_Mo_generationOf.1 38 = (.iload_n 1,1,1,0,0,0,.retAddr 0) := rfl
theorem fd_Mo_generationOf_39 : am_fd mt_Mo_generationOf.1 39 = (.if_icmp .ne 15,3,54,0,0,0,.retAddr 0) := rfl
theorem fd_Mo_generationOf_42 : am_fd mt_Mo_generationOf.1 42 = (.aload_n 0,1,0,0,0,0,.retAddr 0) := rfl
theorem fd_Mo_generationOf_43 : am_fd mt_Mo_generationOf.1 43 = (.iload_n 1,1,1,0,0,0,.retAddr 0) := rfl
theorem fd_Mo_generationOf_44 : am_fd mt_Mo_generationOf.1 44 = (.invokevirtual 322,3,192,2,12,0,.retAddr 0) := rfl
theorem fd_Mo_generationOf_47 : am_fd mt_Mo_generationOf.1 47 = (.ifCond .eq 7,3,54,0,0,0,.retAddr 0) := rfl
theorem fd_Mo_generationOf_50 : am_fd mt_Mo_generationOf.1 50 = (.iload_n 3,1,3,0,0,0,.retAddr 0) := rfl
theorem fd_Mo_generationOf_51 : am_fd mt_Mo_generationOf.1 51 = (.goto 4,3,55,0,0,0,.retAddr 0) := rfl
theorem fd_Mo_generationOf_54 : am_fd mt_Mo_generationOf.1 54 = (.iconst 0,1,0,0,0,0,.int 0) := rfl
theorem fd_Mo_generationOf_55 : am_fd mt_Mo_generationOf.1 55 = (.ireturn,1,0,0,0,0,.retAddr 0) := rfl
theorem fd_Mo_two_0 : am_fd mt_Mo_two.1 0 = (.aload_n 0,1,0,0,0,0,.retAddr 0) := rfl
theorem fd_Mo_two_1 : am_fd mt_Mo_two.1 1 = (.getfield 8,3,2,2,12,12,.retAddr 0) := rfl
theorem fd_Mo_two_4 : am_fd mt_Mo_two.1 4 = (.iload_n 1,1,1,0,0,0,.retAddr 0) := rfl
theorem fd_Mo_two_5 : am_fd mt_Mo_two.1 5 = (.baload,1,0,0,0,0,.retAddr 0) := rfl
theorem fd_Mo_two_6 : am_fd mt_Mo_two.1 6 = (.sipush 255,3,0,0,0,0,.int 255) := rfl
theorem fd_Mo_two_9 : am_fd mt_Mo_two.1 9 = (.iand,1,0,0,0,0,.retAddr 0) := rfl
theorem fd_Mo_two_10 : am_fd mt_Mo_two.1 10 = (.bipush 8,2,0,0,0,0,.int 8) := rfl
theorem fd_Mo_two_12 : am_fd mt_Mo_two.1 12 = (.ishl,1,0,0,0,0,.retAddr 0) := rfl
theorem fd_Mo_two_13 : am_fd mt_Mo_two.1 13 = (.aload_n 0,1,0,0,0,0,.retAddr 0) := rfl
theorem fd_Mo_two_14 : am_fd mt_Mo_two.1 14 = (.getfield 8,3,2,2,12,12,.retAddr 0) := rfl
theorem fd_Mo_two_17 : am_fd mt_Mo_two.1 17 = (.iload_n 1,1,1,0,0,0,.retAddr 0) := rfl
theorem fd_Mo_two_18 : am_fd mt_Mo_two.1 18 = (.iconst 1,1,0,0,0,0,.int 1) := rfl
theorem fd_Mo_two_19 : am_fd mt_Mo_two.1 19 = (.iadd,1,0,0,0,0,.retAddr 0) := rfl
theorem fd_Mo_two_20 : am_fd mt_Mo_two.1 20 = (.baload,1,0,0,0,0,.retAddr 0) := rfl
theorem fd_Mo_two_21 : am_fd mt_Mo_two.1 21 = (.sipush 255,3,0,0,0,0,.int 255) := rfl
theorem fd_Mo_two_24 : am_fd mt_Mo_two.1 24 = (.iand,1,0,0,0,0,.retAddr 0) := rfl
theorem fd_Mo_two_25 : am_fd mt_Mo_two.1 25 = (.ior,1,0,0,0,0,.retAddr 0) := rfl
theorem fd_Mo_two_26 : am_fd mt_Mo_two.1 26 = (.ireturn,1,0,0,0,0,.retAddr 0) := rfl
theorem fd_Mo_areRuns_0 : am_fd mt_Mo_areRuns.1 0 = (.aload_n 0,1,0,0,0,0,.retAddr 0) := rfl
theorem fd_Mo_areRuns_1 : am_fd mt_Mo_areRuns.1 1 = (.getfield 8,3,2,2,12,12,.retAddr 0) := rfl
theorem fd_Mo_areRuns_4 : am_fd mt_Mo_areRuns.1 4 = (.sipush 128,3,0,0,0,0,.int 128) := rfl
theorem fd_Mo_areRuns_7 : am_fd mt_Mo_areRuns.1 7 = (.iload_n 1,1,1,0,0,0,.retAddr 0) := rfl
theorem fd_Mo_areRuns_8 : am_fd mt_Mo_areRuns.1 8 = (.imul,1,0,0,0,0,.retAddr 0) := rfl
theorem fd_Mo_areRuns_9 : am_fd mt_Mo_areRuns.1 9 = (.bipush 6,2,0,0,0,0,.int 6) := rfl
theorem fd_Mo_areRuns_11 : am_fd mt_Mo_areRuns.1 11 = (.iadd,1,0,0,0,0,.retAddr 0) := rfl
theorem fd_Mo_areRuns_12 : am_fd mt_Mo_areRuns.1 12 = (.baload,1,0,0,0,0,.retAddr 0) := rfl
theorem fd_Mo_areRuns_13 : am_fd mt_Mo_areRuns.1 13 = (.sipush 255,3,0,0,0,0,.int 255) := rfl
theorem fd_Mo_areRuns_16 : am_fd mt_Mo_areRuns.1 16 = (.iand,1,0,0,0,0,.retAddr 0) := rfl
theorem fd_Mo_areRuns_17 : am_fd mt_Mo_areRuns.1 17 = (.istore_n 2,1,2,0,0,0,.retAddr 0) := rfl
theorem fd_Mo_areRuns_18 : am_fd mt_Mo_areRuns.1 18 = (.iconst 0,1,0,0,0,0,.int 0) := rfl
theorem fd_Mo_areRuns_19 : am_fd mt_Mo_areRuns.1 19 = (.istore_n 3,1,3,0,0,0,.retAddr 0) := rfl
theorem fd_Mo_areRuns_20 : am_fd mt_Mo_areRuns.1 20 = (.iconst 0,1,0,0,0,0,.int 0) := rfl
theorem fd_Mo_areRuns_21 : am_fd mt_Mo_areRuns.1 21 = (.istore 4,2,4,0,0,0,.retAddr 0) := rfl
theorem fd_Mo_areRuns_23 : am_fd mt_Mo_areRuns.1 23 = (.iload 4,2,4,0,0,0,.retAddr 0) := rfl
theorem fd_Mo_areRuns_25 : am_fd mt_Mo_areRuns.1 25 = (.iload_n 2,1,2,0,0,0,.retAddr 0) := rfl
theorem fd_Mo_areRuns_26 : am_fd mt_Mo_areRuns.1 26 = (.if_icmp .ge 134,3,160,0,0,0,.retAddr 0) := rfl
theorem fd_Mo_areRuns_29 : am_fd mt_Mo_areRuns.1 29 = (.sipush 128,3,0,0,0,0,.int 128) := rfl
theorem fd_Mo_areRuns_32 : am_fd mt_Mo_areRuns.1 32 = (.iload_n 1,1,1,0,0,0,.retAddr 0) := rfl
theorem fd_Mo_areRuns_33 : am_fd mt_Mo_areRuns.1 33 = (.imul,1,0,0,0,0,.retAddr 0) := rfl
theorem fd_Mo_areRuns_34 : am_fd mt_Mo_areRuns.1 34 = (.bipush 7,2,0,0,0,0,.int 7) := rfl
theorem fd_Mo_areRuns_36 : am_fd mt_Mo_areRuns.1 36 = (.iadd,1,0,0,0,0,.retAddr 0) := rfl
theorem fd_Mo_areRuns_37 : am_fd mt_Mo_areRuns.1 37 = (.bipush 7,2,0,0,0,0,.int 7) := rfl
theorem fd_Mo_areRuns_39 : am_fd mt_Mo_areRuns.1 39 = (.iload 4,2,4,0,0,0,.retAddr 0) := rfl
theorem fd_Mo_areRuns_41 : am_fd mt_Mo_areRuns.1 41 = (.imul,1,0,0,0,0,.retAddr 0) := rfl
theorem fd_Mo_areRuns_42 : am_fd mt_Mo_areRuns.1 42 = (.iadd,1,0,0,0,0,.retAddr 0) := rfl
theorem fd_Mo_areRuns_43 : am_fd mt_Mo_areRuns.1 43 = (.istore 5,2,5,0,0,0,.retAddr 0) := rfl
theorem fd_Mo_areRuns_45 : am_fd mt_Mo_areRuns.1 45 = (.iload 4,2,4,0,0,0,.retAddr 0) := rfl
theorem fd_Mo_areRuns_47 : am_fd mt_Mo_areRuns.1 47 = (.bipush 9,2,0,0,0,0,.int 9) := rfl
theorem fd_Mo_areRuns_49 : am_fd mt_Mo_areRuns.1 49 = (.if_icmp .ge 19,3,68,0,0,0,.retAddr 0) := rfl
theorem fd_Mo_areRuns_52 : am_fd mt_Mo_areRuns.1 52 = (.aload_n 0,1,0,0,0,0,.retAddr 0) := rfl
theorem fd_Mo_areRuns_53 : am_fd mt_Mo_areRuns.1 53 = (.getfield 8,3,2,2,12,12,.retAddr 0) := rfl
theorem fd_Mo_areRuns_56 : am_fd mt_Mo_areRuns.1 56 = (.iload 5,2,5,0,0,0,.retAddr 0) := rfl
theorem fd_Mo_areRuns_58 : am_fd mt_Mo_areRuns.1 58 = (.iconst 2,1,0,0,0,0,.int 2) := rfl
theorem fd_Mo_areRuns_59 : am_fd mt_Mo_areRuns.1 59 = (.iadd,1,0,0,0,0,.retAddr 0) := rfl
theorem fd_Mo_areRuns_60 : am_fd mt_Mo_areRuns.1 60 = (.baload,1,0,0,0,0,.retAddr 0) := rfl
theorem fd_Mo_areRuns_61 : am_fd mt_Mo_areRuns.1 61 = (.sipush 255,3,0,0,0,0,.int 255) := rfl
theorem fd_Mo_areRuns_64 : am_fd mt_Mo_areRuns.1 64 = (.iand,1,0,0,0,0,.retAddr 0) := rfl
theorem fd_Mo_areRuns_65 : am_fd mt_Mo_areRuns.1 65 = (.goto 4,3,69,0,0,0,.retAddr 0) := rfl
theorem fd_Mo_areRuns_68 : am_fd mt_Mo_areRuns.1 68 = (.iconst 4,1,0,0,0,0,.int 4) := rfl
theorem fd_Mo_areRuns_69 : am_fd mt_Mo_areRuns.1 69 = (.istore 6,2,6,0,0,0,.retAddr 0) := rfl
theorem fd_Mo_areRuns_71 : am_fd mt_Mo_areRuns.1 71 = (.iload 6,2,6,0,0,0,.retAddr 0) := rfl
theorem fd_Mo_areRuns_73 : am_fd mt_Mo_areRuns.1 73 = (.iconst 3,1,0,0,0,0,.int 3) := rfl
theorem fd_Mo_areRuns_74 : am_fd mt_Mo_areRuns.1 74 = (.if_icmp .gt 14,3,88,0,0,0,.retAddr 0) := rfl
theorem fd_Mo_areRuns_77 : am_fd mt_Mo_areRuns.1 77 = (.aload_n 0,1,0,0,0,0,.retAddr 0) := rfl
theorem fd_Mo_areRuns_78 : am_fd mt_Mo_areRuns.1 78 = (.iload 5,2,5,0,0,0,.retAddr 0) := rfl
theorem fd_Mo_areRuns_80 : am_fd mt_Mo_areRuns.1 80 = (.iconst 5,1,0,0,0,0,.int 5) := rfl
theorem fd_Mo_areRuns_81 : am_fd mt_Mo_areRuns.1 81 = (.iadd,1,0,0,0,0,.retAddr 0) := rfl
theorem fd_Mo_areRuns_82 : am_fd mt_Mo_areRuns.1 82 = (.invokevirtual 319,3,191,2,12,0,.retAddr 0) := rfl
theorem fd_Mo_areRuns_85 : am_fd mt_Mo_areRuns.1 85 = (.ifCond .ne 5,3,90,0,0,0,.retAddr 0) := rfl
theorem fd_Mo_areRuns_88 : am_fd mt_Mo_areRuns.1 88 = (.iconst 0,1,0,0,0,0,.int 0) := rfl
theorem fd_Mo_areRuns_89 : am_fd mt_Mo_areRuns.1 89 = (.ireturn,1,1,0,0,0,.retAddr 0) := rfl
theorem fd_Mo_areRuns_90 : am_fd mt_Mo_areRuns.1 90 = (.iload_n 3,1,3,0,0,0,.retAddr 0) := rfl
theorem fd_Mo_areRuns_91 : am_fd mt_Mo_areRuns.1 91 = (.iload 6,2,6,0,0,0,.retAddr 0) := rfl
theorem fd_Mo_areRuns_93 : am_fd mt_Mo_areRuns.1 93 = (.ifCond .ne 7,3,100,0,0,0,.retAddr 0) := rfl
theorem fd_Mo_areRuns_96 : am_fd mt_Mo_areRuns.1 96 = (.iconst 1,1,0,0,0,0,.int 1) := rfl
theorem fd_Mo_areRuns_97 : am_fd mt_Mo_areRuns.1 97 = (.goto 4,3,101,0,0,0,.retAddr 0) := rfl
theorem fd_Mo_areRuns_100 : am_fd mt_Mo_areRuns.1 100 = (.iconst 0,1,0,0,0,0,.int 0) := rfl
theorem fd_Mo_areRuns_101 : am_fd mt_Mo_areRuns.1 101 = (.iadd,1,0,0,0,0,.retAddr 0) := rfl
theorem fd_Mo_areRuns_102 : am_fd mt_Mo_areRuns.1 102 = (.istore_n 3,1,3,0,0,0,.retAddr 0) := rfl
theorem fd_Mo_areRuns_103 : am_fd mt_Mo_areRuns.1 103 = (.iload 4,2,4,0,0,0,.retAddr 0) := rfl
theorem fd_Mo_areRuns_105 : am_fd mt_Mo_areRuns.1 105 = (.ifCond .ne 7,3,112,0,0,0,.retAddr 0) := rfl
theorem fd_Mo_areRuns_108 : am_fd mt_Mo_areRuns.1 108 = (.iconst 0,1,0,0,0,0,.int 0) := rfl
theorem fd_Mo_areRuns_109 : am_fd mt_Mo_areRuns.1 109 = (.goto 16,3,125,0,0,0,.retAddr 0) := rfl
theorem fd_Mo_areRuns_112 : am_fd mt_Mo_areRuns.1 112 = (.aload_n 0,1,0,0,0,0,.retAddr 0) := rfl
theorem fd_Mo_areRuns_113 : am_fd mt_Mo_areRuns.1 113 = (.getfield 8,3,2,2,12,12,.retAddr 0) := rfl
theorem fd_Mo_areRuns_116 : am_fd mt_Mo_areRuns.1 116 = (.iload 5,2,5,0,0,0,.retAddr 0) := rfl
theorem fd_Mo_areRuns_118 : am_fd mt_Mo_areRuns.1 118 = (.iconst 5,1,0,0,0,0,.int 5) := rfl
theorem fd_Mo_areRuns_119 : am_fd mt_Mo_areRuns.1 119 = (.isub,1,0,0,0,0,.retAddr 0) := rfl
theorem fd_Mo_areRuns_120 : am_fd mt_Mo_areRuns.1 120 = (.baload,1,0,0,0,0,.retAddr 0) := rfl
theorem fd_Mo_areRuns_121 : am_fd mt_Mo_areRuns.1 121 = (.sipush 255,3,0,0,0,0,.int 255) := rfl
theorem fd_Mo_areRuns_124 : am_fd mt_Mo_areRuns.1 124 = (.iand,1,0,0,0,0,.retAddr 0) := rfl
theorem fd_Mo_areRuns_125 : am_fd mt_Mo_areRuns.1 125 = (.istore 7,2,7,0,0,0,.retAddr 0) := rfl
theorem fd_Mo_areRuns_127 : am_fd mt_Mo_areRuns.1 127 = (.iload_n 3,1,3,0,0,0,.retAddr 0) := rfl
theorem fd_Mo_areRuns_128 : am_fd mt_Mo_areRuns.1 128 = (.bipush 6,2,0,0,0,0,.int 6) := rfl
theorem fd_Mo_areRuns_130 : am_fd mt_Mo_areRuns.1 130 = (.if_icmp .gt 22,3,152,0,0,0,.retAddr 0) := rfl
theorem fd_Mo_areRuns_133 : am_fd mt_Mo_areRuns.1 133 = (.iload 6,2,6,0,0,0,.retAddr 0) := rfl
theorem fd_Mo_areRuns_135 : am_fd mt_Mo_areRuns.1 135 = (.iload 7,2,7,0,0,0,.retAddr 0) := rfl
theorem fd_Mo_areRuns_137 : am_fd mt_Mo_areRuns.1 137 = (.if_icmp .lt 15,3,152,0,0,0,.retAddr 0) := rfl
theorem fd_Mo_areRuns_140 : am_fd mt_Mo_areRuns.1 140 = (.iload 6,2,6,0,0,0,.retAddr 0) := rfl
theorem fd_Mo_areRuns_142 : am_fd mt_Mo_areRuns.1 142 = (.iload 7,2,7,0,0,0,.retAddr 0) := rfl
theorem fd_Mo_areRuns_144 : am_fd mt_Mo_areRuns.1 144 = (.if_icmp .ne 10,3,154,0,0,0,.retAddr 0) := rfl
theorem fd_Mo_areRuns_147 : am_fd mt_Mo_areRuns.1 147 = (.iload 6,2,6,0,0,0,.retAddr 0) := rfl
theorem fd_Mo_areRuns_149 : am_fd mt_Mo_areRuns.1 149 = (.ifCond .le 5,3,154,0,0,0,.retAddr 0) := rfl
theorem fd_Mo_areRuns_152 : am_fd mt_Mo_areRuns.1 152 = (.iconst 0,1,0,0,0,0,.int 0) := rfl
theorem fd_Mo_areRuns_153 : am_fd mt_Mo_areRuns.1 153 = (.ireturn,1,1,0,0,0,.retAddr 0) := rfl
theorem fd_Mo_areRuns_154 : am_fd mt_Mo_areRuns.1 154 = (.iinc 4 1,3,4,0,0,0,.int 1) := rfl
theorem fd_Mo_areRuns_157 : am_fd mt_Mo_areRuns.1 157 = (.goto (-134),3,23,0,0,0,.retAddr 0) := rfl
theorem fd_Mo_areRuns_160 : am_fd mt_Mo_areRuns.1 160 = (.iconst 1,1,0,0,0,0,.int 1) := rfl
theorem fd_Mo_areRuns_161 : am_fd mt_Mo_areRuns.1 161 = (.ireturn,1,1,0,0,0,.retAddr 0) := rfl
theorem fd_Mo_isLaid_0 : am_fd mt_Mo_isLaid.1 0 = (.sipush 128,3,0,0,0,0,.int 128) := rfl
theorem fd_Mo_isLaid_3 : am_fd mt_Mo_isLaid.1 3 = (.iload_n 1,1,1,0,0,0,.retAddr 0) := rfl
theorem fd_Mo_isLaid_4 : am_fd mt_Mo_isLaid.1 4 = (.imul,1,0,0,0,0,.retAddr 0) := rfl
theorem fd_Mo_isLaid_5 : am_fd mt_Mo_isLaid.1 5 = (.bipush 120,2,0,0,0,0,.int 120) := rfl
theorem fd_Mo_isLaid_7 : am_fd mt_Mo_isLaid.1 7 = (.iadd,1,0,0,0,0,.retAddr 0) := rfl
theorem fd_Mo_isLaid_8 : am_fd mt_Mo_isLaid.1 8 = (.istore 5,2,5,0,0,0,.retAddr 0) := rfl
theorem fd_Mo_isLaid_10 : am_fd mt_Mo_isLaid.1 10 = (.sipush 128,3,0,0,0,0,.int 128) := rfl
theorem fd_Mo_isLaid_13 : am_fd mt_Mo_isLaid.1 13 = (.iload_n 1,1,1,0,0,0,.retAddr 0) := rfl
theorem fd_Mo_isLaid_14 : am_fd mt_Mo_isLaid.1 14 = (.imul,1,0,0,0,0,.retAddr 0) := rfl
theorem fd_Mo_isLaid_15 : am_fd mt_Mo_isLaid.1 15 = (.iconst 5,1,0,0,0,0,.int 5) := rfl
theorem fd_Mo_isLaid_16 : am_fd mt_Mo_isLaid.1 16 = (.iadd,1,0,0,0,0,.retAddr 0) := rfl
theorem fd_Mo_isLaid_17 : am_fd mt_Mo_isLaid.1 17 = (.istore 6,2,6,0,0,0,.retAddr 0) := rfl
theorem fd_Mo_isLaid_19 : am_fd mt_Mo_isLaid.1 19 = (.aload_n 0,1,0,0,0,0,.retAddr 0) := rfl
theorem fd_Mo_isLaid_20 : am_fd mt_Mo_isLaid.1 20 = (.getfield 8,3,2,2,12,12,.retAddr 0) := rfl
theorem fd_Mo_isLaid_23 : am_fd mt_Mo_isLaid.1 23 = (.sipush 128,3,0,0,0,0,.int 128) := rfl
theorem fd_Mo_isLaid_26 : am_fd mt_Mo_isLaid.1 26 = (.iload_n 1,1,1,0,0,0,.retAddr 0) := rfl
theorem fd_Mo_isLaid_27 : am_fd mt_Mo_isLaid.1 27 = (.imul,1,0,0,0,0,.retAddr 0) := rfl
theorem fd_Mo_isLaid_28 : am_fd mt_Mo_isLaid.1 28 = (.iconst 4,1,0,0,0,0,.int 4) := rfl
theorem fd_Mo_isLaid_29 : am_fd mt_Mo_isLaid.1 29 = (.iadd,1,0,0,0,0,.retAddr 0) := rfl
theorem fd_Mo_isLaid_30 : am_fd mt_Mo_isLaid.1 30 = (.baload,1,0,0,0,0,.retAddr 0) := rfl
theorem fd_Mo_isLaid_31 : am_fd mt_Mo_isLaid.1 31 = (.sipush 255,3,0,0,0,0,.int 255) := rfl
theorem fd_Mo_isLaid_34 : am_fd mt_Mo_isLaid.1 34 = (.iand,1,0,0,0,0,.retAddr 0) := rfl
theorem fd_Mo_isLaid_35 : am_fd mt_Mo_isLaid.1 35 = (.istore 7,2,7,0,0,0,.retAddr 0) := rfl
theorem fd_Mo_isLaid_37 : am_fd mt_Mo_isLaid.1 37 = (.lload_n 3,1,3,0,0,0,.retAddr 0) := rfl
theorem fd_Mo_isLaid_38 : am_fd mt_Mo_isLaid.1 38 = (.lstore 8,2,8,0,0,0,.retAddr 0) := rfl
theorem fd_Mo_isLaid_40 : am_fd mt_Mo_isLaid.1 40 = (.iconst 0,1,0,0,0,0,.int 0) := rfl
theorem fd_Mo_isLaid_41 : am_fd mt_Mo_isLaid.1 41 = (.istore 10,2,10,0,0,0,.retAddr 0) := rfl
theorem fd_Mo_isLaid_43 : am_fd mt_Mo_isLaid.1 43 = (.iload 10,2,10,0,0,0,.retAddr 0) := rfl
theorem fd_Mo_isLaid_45 : am_fd mt_Mo_isLaid.1 45 = (.iload 7,2,7,0,0,0,.retAddr 0) := rfl
theorem fd_Mo_isLaid_47 : am_fd mt_Mo_isLaid.1 47 = (.if_icmp .ge 286,3,333,0,0,0,.retAddr 0) := rfl
theorem fd_Mo_isLaid_50 : am_fd mt_Mo_isLaid.1 50 = (.iload 6,2,6,0,0,0,.retAddr 0) := rfl
theorem fd_Mo_isLaid_52 : am_fd mt_Mo_isLaid.1 52 = (.iload 5,2,5,0,0,0,.retAddr 0) := rfl
theorem fd_Mo_isLaid_54 : am_fd mt_Mo_isLaid.1 54 = (.if_icmp .ge 17,3,71,0,0,0,.retAddr 0) := rfl
theorem fd_Mo_isLaid_57 : am_fd mt_Mo_isLaid.1 57 = (.aload_n 0,1,0,0,0,0,.retAddr 0) := rfl
theorem fd_Mo_isLaid_58 : am_fd mt_Mo_isLaid.1 58 = (.getfield 8,3,2,2,12,12,.retAddr 0) := rfl
theorem fd_Mo_isLaid_61 : am_fd mt_Mo_isLaid.1 61 = (.iload 6,2,6,0,0,0,.retAddr 0) := rfl
theorem fd_Mo_isLaid_63 : am_fd mt_Mo_isLaid.1 63 = (.baload,1,0,0,0,0,.retAddr 0) := rfl
theorem fd_Mo_isLaid_64 : am_fd mt_Mo_isLaid.1 64 = (.sipush 255,3,0,0,0,0,.int 255) := rfl
theorem fd_Mo_isLaid_67 : am_fd mt_Mo_isLaid.1 67 = (.iand,1,0,0,0,0,.retAddr 0) := rfl
theorem fd_Mo_isLaid_68 : am_fd mt_Mo_isLaid.1 68 = (.goto 5,3,73,0,0,0,.retAddr 0) := rfl
theorem fd_Mo_isLaid_71 : am_fd mt_Mo_isLaid.1 71 = (.bipush 8,2,0,0,0,0,.int 8) := rfl
theorem fd_Mo_isLaid_73 : am_fd mt_Mo_isLaid.1 73 = (.istore 11,2,11,0,0,0,.retAddr 0) := rfl
theorem fd_Mo_isLaid_75 : am_fd mt_Mo_isLaid.1 75 = (.iload 11,2,11,0,0,0,.retAddr 0) := rfl
theorem fd_Mo_isLaid_77 : am_fd mt_Mo_isLaid.1 77 = (.bipush 7,2,0,0,0,0,.int 7) := rfl
theorem fd_Mo_isLaid_79 : am_fd mt_Mo_isLaid.1 79 = (.if_icmp .gt 26,3,105,0,0,0,.retAddr 0) := rfl
theorem fd_Mo_isLaid_82 : am_fd mt_Mo_isLaid.1 82 = (.iload 10,2,10,0,0,0,.retAddr 0) := rfl
theorem fd_Mo_isLaid_84 : am_fd mt_Mo_isLaid.1 84 = (.ifCond .ne 8,3,92,0,0,0,.retAddr 0) := rfl
theorem fd_Mo_isLaid_87 : am_fd mt_Mo_isLaid.1 87 = (.iload 11,2,11,0,0,0,.retAddr 0) := rfl
theorem fd_Mo_isLaid_89 : am_fd mt_Mo_isLaid.1 89 = (.ifCond .gt 16,3,105,0,0,0,.retAddr 0) := rfl
theorem fd_Mo_isLaid_92 : am_fd mt_Mo_isLaid.1 92 = (.iload 6,2,6,0,0,0,.retAddr 0) := rfl
theorem fd_Mo_isLaid_94 : am_fd mt_Mo_isLaid.1 94 = (.bipush 10,2,0,0,0,0,.int 10) := rfl
theorem fd_Mo_isLaid_96 : am_fd mt_Mo_isLaid.1 96 = (.iadd,1,0,0,0,0,.retAddr 0) := rfl
theorem fd_Mo_isLaid_97 : am_fd mt_Mo_isLaid.1 97 = (.iload 11,2,11,0,0,0,.retAddr 0) := rfl
theorem fd_Mo_isLaid_99 : am_fd mt_Mo_isLaid.1 99 = (.isub,1,0,0,0,0,.retAddr 0) := rfl
theorem fd_Mo_isLaid_100 : am_fd mt_Mo_isLaid.1 100 = (.iload 5,2,5,0,0,0,.retAddr 0) := rfl
theorem fd_Mo_isLaid_102 : am_fd mt_Mo_isLaid.1 102 = (.if_icmp .le 5,3,107,0,0,0,.retAddr 0) := rfl
theorem fd_Mo_isLaid_105 : am_fd mt_Mo_isLaid.1 105 = (.iconst 0,1,0,0,0,0,.int 0) := rfl
theorem fd_Mo_isLaid_106 : am_fd mt_Mo_isLaid.1 106 = (.ireturn,1,1,0,0,0,.retAddr 0) := rfl
theorem fd_Mo_isLaid_107 : am_fd mt_Mo_isLaid.1 107 = (.lconst 0,1,0,0,0,0,.long 0) := rfl
theorem fd_Mo_isLaid_108 : am_fd mt_Mo_isLaid.1 108 = (.lstore 12,2,12,0,0,0,.retAddr 0) := rfl
theorem fd_Mo_isLaid_110 : am_fd mt_Mo_isLaid.1 110 = (.iconst 0,1,0,0,0,0,.int 0) := rfl
theorem fd_Mo_isLaid_111 : am_fd mt_Mo_isLaid.1 111 = (.istore 14,2,14,0,0,0,.retAddr 0) := rfl
theorem fd_Mo_isLaid_113 : am_fd mt_Mo_isLaid.1 113 = (.iload 14,2,14,0,0,0,.retAddr 0) := rfl
theorem fd_Mo_isLaid_115 : am_fd mt_Mo_isLaid.1 115 = (.bipush 8,2,0,0,0,0,.int 8) := rfl
theorem fd_Mo_isLaid_117 : am_fd mt_Mo_isLaid.1 117 = (.if_icmp .ge 101,3,218,0,0,0,.retAddr 0) := rfl
theorem fd_Mo_isLaid_120 : am_fd mt_Mo_isLaid.1 120 = (.aload_n 0,1,0,0,0,0,.retAddr 0) := rfl
theorem fd_Mo_isLaid_121 : am_fd mt_Mo_isLaid.1 121 = (.getfield 118,3,49,2,12,12,.retAddr 0) := rfl
theorem fd_Mo_isLaid_124 : am_fd mt_Mo_isLaid.1 124 = (.iload 14,2,14,0,0,0,.retAddr 0) := rfl
theorem fd_Mo_isLaid_126 : am_fd mt_Mo_isLaid.1 126 = (.aload_n 0,1,0,0,0,0,.retAddr 0) := rfl
theorem fd_Mo_isLaid_127 : am_fd mt_Mo_isLaid.1 127 = (.getfield 115,3,48,2,12,12,.retAddr 0) := rfl
theorem fd_Mo_isLaid_130 : am_fd mt_Mo_isLaid.1 130 = (.iload 14,2,14,0,0,0,.retAddr 0) := rfl
theorem fd_Mo_isLaid_132 : am_fd mt_Mo_isLaid.1 132 = (.iaload,1,0,0,0,0,.retAddr 0) := rfl
theorem fd_Mo_isLaid_133 : am_fd mt_Mo_isLaid.1 133 = (.iastore,1,0,0,0,0,.retAddr 0) := rfl
theorem fd_Mo_isLaid_134 : am_fd mt_Mo_isLaid.1 134 = (.aload_n 0,1,0,0,0,0,.retAddr 0) := rfl
theorem fd_Mo_isLaid_135 : am_fd mt_Mo_isLaid.1 135 = (.getfield 115,3,48,2,12,12,.retAddr 0) := rfl
theorem fd_Mo_isLaid_138 : am_fd mt_Mo_isLaid.1 138 = (.iload 14,2,14,0,0,0,.retAddr 0) := rfl
theorem fd_Mo_isLaid_140 : am_fd mt_Mo_isLaid.1 140 = (.iload 14,2,14,0,0,0,.retAddr 0) := rfl
theorem fd_Mo_isLaid_142 : am_fd mt_Mo_isLaid.1 142 = (.iload 11,2,11,0,0,0,.retAddr 0) := rfl
theorem fd_Mo_isLaid_144 : am_fd mt_Mo_isLaid.1 144 = (.if_icmp .ge 13,3,157,0,0,0,.retAddr 0) := rfl
theorem fd_Mo_isLaid_147 : am_fd mt_Mo_isLaid.1 147 = (.aload_n 0,1,0,0,0,0,.retAddr 0) := rfl
theorem fd_Mo_isLaid_148 : am_fd mt_Mo_isLaid.1 148 = (.getfield 115,3,48,2,12,12,.retAddr 0) := rfl
theorem fd_Mo_isLaid_151 : am_fd mt_Mo_isLaid.1 151 = (.iload 14,2,14,0,0,0,.retAddr 0) := rfl
theorem fd_Mo_isLaid_153 : am_fd mt_Mo_isLaid.1 153 = (.iaload,1,0,0,0,0,.retAddr 0) := rfl
theorem fd_Mo_isLaid_154 : am_fd mt_Mo_isLaid.1 154 = (.goto 22,3,176,0,0,0,.retAddr 0) := rfl
theorem fd_Mo_isLaid_157 : am_fd mt_Mo_isLaid.1 157 = (.aload_n 0,1,0,0,0,0,.retAddr 0) := rfl
theorem fd_Mo_isLaid_158 : am_fd mt_Mo_isLaid.1 158 = (.getfield 8,3,2,2,12,12,.retAddr 0) := rfl
theorem fd_Mo_isLaid_161 : am_fd mt_Mo_isLaid.1 161 = (.iload 6,2,6,0,0,0,.retAddr 0) := rfl
theorem fd_Mo_isLaid_163 : am_fd mt_Mo_isLaid.1 163 = (.iconst 1,1,0,0,0,0,.int 1) := rfl
theorem fd_Mo_isLaid_164 : am_fd mt_Mo_isLaid.1 164 = (.iadd,1,0,0,0,0,.retAddr 0) := rfl
theorem fd_Mo_isLaid_165 : am_fd mt_Mo_isLaid.1 165 = (.iload 14,2,14,0,0,0,.retAddr 0) := rfl
theorem fd_Mo_isLaid_167 : am_fd mt_Mo_isLaid.1 167 = (.iadd,1,0,0,0,0,.retAddr 0) := rfl
theorem fd_Mo_isLaid_168 : am_fd mt_Mo_isLaid.1 168 = (.iload 11,2,11,0,0,0,.retAddr 0) := rfl
theorem fd_Mo_isLaid_170 : am_fd mt_Mo_isLaid.1 170 = (.isub,1,0,0,0,0,.retAddr 0) := rfl
theorem fd_Mo_isLaid_171 : am_fd mt_Mo_isLaid.1 171 = (.baload,1,0,0,0,0,.retAddr 0) := rfl
theorem fd_Mo_isLaid_172 : am_fd mt_Mo_isLaid.1 172 = (.sipush 255,3,0,0,0,0,.int 255) := rfl
theorem fd_Mo_isLaid_175 : am_fd mt_Mo_isLaid.1 175 = (.iand,1,0,0,0,0,.retAddr 0) := rfl
theorem fd_Mo_isLaid_176 : am_fd mt_Mo_isLaid.1 176 = (.iastore,1,0,0,0,0,.retAddr 0) := rfl
theorem fd_Mo_isLaid_177 : am_fd mt_Mo_isLaid.1 177 = (.lload 12,2,12,0,0,0,.retAddr 0) := rfl
theorem fd_Mo_isLaid_179 : am_fd mt_Mo_isLaid.1 179 = (.bipush 8,2,0,0,0,0,.int 8) := rfl
theorem fd_Mo_isLaid_181 : am_fd mt_Mo_isLaid.1 181 = (.lshl,1,0,0,0,0,.retAddr 0) := rfl
theorem fd_Mo_isLaid_182 : am_fd mt_Mo_isLaid.1 182 = (.iload 14,2,14,0,0,0,.retAddr 0) := rfl
theorem fd_Mo_isLaid_184 : am_fd mt_Mo_isLaid.1 184 = (.ifCond .ne 17,3,201,0,0,0,.retAddr 0) := rfl
theorem fd_Mo_isLaid_187 : am_fd mt_Mo_isLaid.1 187 = (.aload_n 0,1,0,0,0,0,.retAddr 0) := rfl
theorem fd_Mo_isLaid_188 : am_fd mt_Mo_isLaid.1 188 = (.getfield 115,3,48,2,12,12,.retAddr 0) := rfl
theorem fd_Mo_isLaid_191 : am_fd mt_Mo_isLaid.1 191 = (.iload 14,2,14,0,0,0,.retAddr 0) := rfl
theorem fd_Mo_isLaid_193 : am_fd mt_Mo_isLaid.1 193 = (.iaload,1,0,0,0,0,.retAddr 0) := rfl
theorem fd_Mo_isLaid_194 : am_fd mt_Mo_isLaid.1 194 = (.sipush 128,3,0,0,0,0,.int 128) := rfl
theorem fd_Mo_isLaid_197 : am_fd mt_Mo_isLaid.1 197 = (.ixor,1,0,0,0,0,.retAddr 0) := rfl
theorem fd_Mo_isLaid_198 : am_fd mt_Mo_isLaid.1 198 = (.goto 10,3,208,0,0,0,.retAddr 0) := rfl
theorem fd_Mo_isLaid_201 : am_fd mt_Mo_isLaid.1 201 = (.aload_n 0,1,0,0,0,0,.retAddr 0) := rfl
theorem fd_Mo_isLaid_202 : am_fd mt_Mo_isLaid.1 202 = (.getfield 115,3,48,2,12,12,.retAddr 0) := rfl
theorem fd_Mo_isLaid_205 : am_fd mt_Mo_isLaid.1 205 = (.iload 14,2,14,0,0,0,.retAddr 0) := rfl
theorem fd_Mo_isLaid_207 : am_fd mt_Mo_isLaid.1 207 = (.iaload,1,0,0,0,0,.retAddr 0) := rfl
theorem fd_Mo_isLaid_208 : am_fd mt_Mo_isLaid.1 208 = (.i2l,1,0,0,0,0,.retAddr 0) := rfl
theorem fd_Mo_isLaid_209 : am_fd mt_Mo_isLaid.1 209 = (.lor,1,0,0,0,0,.retAddr 0) := rfl
theorem fd_Mo_isLaid_210 : am_fd mt_Mo_isLaid.1 210 = (.lstore 12,2,12,0,0,0,.retAddr 0) := rfl
theorem fd_Mo_isLaid_212 : am_fd mt_Mo_isLaid.1 212 = (.iinc 14 1,3,14,0,0,0,.int 1) := rfl
theorem fd_Mo_isLaid_215 : am_fd mt_Mo_isLaid.1 215 = (.goto (-102),3,113,0,0,0,.retAddr 0) := rfl
theorem fd_Mo_isLaid_218 : am_fd mt_Mo_isLaid.1 218 = (.iload 10,2,10,0,0,0,.retAddr 0) := rfl
theorem fd_Mo_isLaid_220 : am_fd mt_Mo_isLaid.1 220 = (.ifCond .le 20,3,240,0,0,0,.retAddr 0) := rfl
theorem fd_Mo_isLaid_223 : am_fd mt_Mo_isLaid.1 223 = (.aload_n 0,1,0,0,0,0,.retAddr 0) := rfl
theorem fd_Mo_isLaid_224 : am_fd mt_Mo_isLaid.1 224 = (.getfield 115,3,48,2,12,12,.retAddr 0) := rfl
theorem fd_Mo_isLaid_227 : am_fd mt_Mo_isLaid.1 227 = (.iload 11,2,11,0,0,0,.retAddr 0) := rfl
theorem fd_Mo_isLaid_229 : am_fd mt_Mo_isLaid.1 229 = (.iaload,1,0,0,0,0,.retAddr 0) := rfl
theorem fd_Mo_isLaid_230 : am_fd mt_Mo_isLaid.1 230 = (.aload_n 0,1,0,0,0,0,.retAddr 0) := rfl
theorem fd_Mo_isLaid_231 : am_fd mt_Mo_isLaid.1 231 = (.getfield 118,3,49,2,12,12,.retAddr 0) := rfl
theorem fd_Mo_isLaid_234 : am_fd mt_Mo_isLaid.1 234 = (.iload 11,2,11,0,0,0,.retAddr 0) := rfl
theorem fd_Mo_isLaid_236 : am_fd mt_Mo_isLaid.1 236 = (.iaload,1,0,0,0,0,.retAddr 0) := rfl
theorem fd_Mo_isLaid_237 : am_fd mt_Mo_isLaid.1 237 = (.if_icmp .eq 20,3,257,0,0,0,.retAddr 0) := rfl
theorem fd_Mo_isLaid_240 : am_fd mt_Mo_isLaid.1 240 = (.iload 10,2,10,0,0,0,.retAddr 0) := rfl
theorem fd_Mo_isLaid_242 : am_fd mt_Mo_isLaid.1 242 = (.ifCond .gt 7,3,249,0,0,0,.retAddr 0) := rfl
theorem fd_Mo_isLaid_245 : am_fd mt_Mo_isLaid.1 245 = (.iload_n 2,1,2,0,0,0,.retAddr 0) := rfl
theorem fd_Mo_isLaid_246 : am_fd mt_Mo_isLaid.1 246 = (.ifCond .eq 13,3,259,0,0,0,.retAddr 0) := rfl
theorem fd_Mo_isLaid_249 : am_fd mt_Mo_isLaid.1 249 = (.lload 12,2,12,0,0,0,.retAddr 0) := rfl
theorem fd_Mo_isLaid_251 : am_fd mt_Mo_isLaid.1 251 = (.lload 8,2,8,0,0,0,.retAddr 0) := rfl
theorem fd_Mo_isLaid_253 : am_fd mt_Mo_isLaid.1 253 = (.lcmp,1,0,0,0,0,.retAddr 0) := rfl
theorem fd_Mo_isLaid_254 : am_fd mt_Mo_isLaid.1 254 = (.ifCond .gt 5,3,259,0,0,0,.retAddr 0) := rfl
theorem fd_Mo_isLaid_257 : am_fd mt_Mo_isLaid.1 257 = (.iconst 0,1,0,0,0,0,.int 0) := rfl
theorem fd_Mo_isLaid_258 : am_fd mt_Mo_isLaid.1 258 = (.ireturn,1,1,0,0,0,.retAddr 0) := rfl
theorem fd_Mo_isLaid_259 : am_fd mt_Mo_isLaid.1 259 = (.lload 12,2,12,0,0,0,.retAddr 0) := rfl
theorem fd_Mo_isLaid_261 : am_fd mt_Mo_isLaid.1 261 = (.lstore 8,2,8,0,0,0,.retAddr 0) := rfl
theorem fd_Mo_isLaid_263 : am_fd mt_Mo_isLaid.1 263 = (.iload 6,2,6,0,0,0,.retAddr 0) := rfl
theorem fd_Mo_isLaid_265 : am_fd mt_Mo_isLaid.1 265 = (.bipush 9,2,0,0,0,0,.int 9) := rfl
theorem fd_Mo_isLaid_267 : am_fd mt_Mo_isLaid.1 267 = (.iload 11,2,11,0,0,0,.retAddr 0) := rfl
theorem fd_Mo_isLaid_269 : am_fd mt_Mo_isLaid.1 269 = (.isub,1,0,0,0,0,.retAddr 0) := rfl
theorem fd_Mo_isLaid_270 : am_fd mt_Mo_isLaid.1 270 = (.iadd,1,0,0,0,0,.retAddr 0) := rfl
theorem fd_Mo_isLaid_271 : am_fd mt_Mo_isLaid.1 271 = (.istore 6,2,6,0,0,0,.retAddr 0) := rfl
theorem fd_Mo_isLaid_273 : am_fd mt_Mo_isLaid.1 273 = (.aload_n 0,1,0,0,0,0,.retAddr 0) := rfl
theorem fd_Mo_isLaid_274 : am_fd mt_Mo_isLaid.1 274 = (.getfield 8,3,2,2,12,12,.retAddr 0) := rfl
theorem fd_Mo_isLaid_277 : am_fd mt_Mo_isLaid.1 277 = (.iload 6,2,6,0,0,0,.retAddr 0) := rfl
theorem fd_Mo_isLaid_279 : am_fd mt_Mo_isLaid.1 279 = (.baload,1,0,0,0,0,.retAddr 0) := rfl
theorem fd_Mo_isLaid_280 : am_fd mt_Mo_isLaid.1 280 = (.sipush 255,3,0,0,0,0,.int 255) := rfl
theorem fd_Mo_isLaid_283 : am_fd mt_Mo_isLaid.1 283 = (.iand,1,0,0,0,0,.retAddr 0) := rfl
theorem fd_Mo_isLaid_284 : am_fd mt_Mo_isLaid.1 284 = (.istore 14,2,14,0,0,0,.retAddr 0) := rfl
theorem fd_Mo_isLaid_286 : am_fd mt_Mo_isLaid.1 286 = (.iinc 6 1,3,6,0,0,0,.int 1) := rfl
theorem fd_Mo_isLaid_289 : am_fd mt_Mo_isLaid.1 289 = (.iload 14,2,14,0,0,0,.retAddr 0) := rfl
theorem fd_Mo_isLaid_291 : am_fd mt_Mo_isLaid.1 291 = (.iconst 1,1,0,0,0,0,.int 1) := rfl
theorem fd_Mo_isLaid_292 : am_fd mt_Mo_isLaid.1 292 = (.if_icmp .lt 9,3,301,0,0,0,.retAddr 0) := rfl
theorem fd_Mo_isLaid_295 : am_fd mt_Mo_isLaid.1 295 = (.iload 14,2,14,0,0,0,.retAddr 0) := rfl
theorem fd_Mo_isLaid_297 : am_fd mt_Mo_isLaid.1 297 = (.iconst 3,1,0,0,0,0,.int 3) := rfl
theorem fd_Mo_isLaid_298 : am_fd mt_Mo_isLaid.1 298 = (.if_icmp .le 5,3,303,0,0,0,.retAddr 0) := rfl
theorem fd_Mo_isLaid_301 : am_fd mt_Mo_isLaid.1 301 = (.iconst 0,1,0,0,0,0,.int 0) := rfl
theorem fd_Mo_isLaid_302 : am_fd mt_Mo_isLaid.1 302 = (.ireturn,1,1,0,0,0,.retAddr 0) := rfl
theorem fd_Mo_isLaid_303 : am_fd mt_Mo_isLaid.1 303 = (.iload 14,2,14,0,0,0,.retAddr 0) := rfl
theorem fd_Mo_isLaid_305 : am_fd mt_Mo_isLaid.1 305 = (.iconst 2,1,0,0,0,0,.int 2) := rfl
theorem fd_Mo_isLaid_306 : am_fd mt_Mo_isLaid.1 306 = (.if_icmp .eq 13,3,319,0,0,0,.retAddr 0) := rfl
theorem fd_Mo_isLaid_309 : am_fd mt_Mo_isLaid.1 309 = (.aload_n 0,1,0,0,0,0,.retAddr 0) := rfl
theorem fd_Mo_isLaid_310 : am_fd mt_Mo_isLaid.1 310 = (.iload 6,2,6,0,0,0,.retAddr 0) := rfl
theorem fd_Mo_isLaid_312 : am_fd mt_Mo_isLaid.1 312 = (.iload 5,2,5,0,0,0,.retAddr 0) := rfl
theorem fd_Mo_isLaid_314 : am_fd mt_Mo_isLaid.1 314 = (.invokevirtual 325,3,194,3,12,0,.retAddr 0) := rfl
theorem fd_Mo_isLaid_317 : am_fd mt_Mo_isLaid.1 317 = (.istore 6,2,6,0,0,0,.retAddr 0) := rfl
theorem fd_Mo_isLaid_319 : am_fd mt_Mo_isLaid.1 319 = (.iload 6,2,6,0,0,0,.retAddr 0) := rfl
theorem fd_Mo_isLaid_321 : am_fd mt_Mo_isLaid.1 321 = (.iconst (-1),1,0,0,0,0,.int (-1)) := rfl
theorem fd_Mo_isLaid_322 : am_fd mt_Mo_isLaid.1 322 = (.if_icmp .ne 5,3,327,0,0,0,.retAddr 0) := rfl
theorem fd_Mo_isLaid_325 : am_fd mt_Mo_isLaid.1 325 = (.iconst 0,1,0,0,0,0,.int 0) := rfl
theorem fd_Mo_isLaid_326 : am_fd mt_Mo_isLaid.1 326 = (.ireturn,1,1,0,0,0,.retAddr 0) := rfl
theorem fd_Mo_isLaid_327 : am_fd mt_Mo_isLaid.1 327 = (.iinc 10 1,3,10,0,0,0,.int 1) := rfl
theorem fd_Mo_isLaid_330 : am_fd mt_Mo_isLaid.1 330 = (.goto (-287),3,43,0,0,0,.retAddr 0) := rfl
theorem fd_Mo_isLaid_333 : am_fd mt_Mo_isLaid.1 333 = (.iload 7,2,7,0,0,0,.retAddr 0) := rfl
theorem fd_Mo_isLaid_335 : am_fd mt_Mo_isLaid.1 335 = (.ifCond .le 7,3,342,0,0,0,.retAddr 0) := rfl
theorem fd_Mo_isLaid_338 : am_fd mt_Mo_isLaid.1 338 = (.iconst 1,1,0,0,0,0,.int 1) := rfl
theorem fd_Mo_isLaid_339 : am_fd mt_Mo_isLaid.1 339 = (.goto 4,3,343,0,0,0,.retAddr 0) := rfl
theorem fd_Mo_isLaid_342 : am_fd mt_Mo_isLaid.1 342 = (.iconst 0,1,0,0,0,0,.int 0) := rfl
theorem fd_Mo_isLaid_343 : am_fd mt_Mo_isLaid.1 343 = (.istore 10,2,10,0,0,0,.retAddr 0) := rfl
theorem fd_Mo_isLaid_345 : am_fd mt_Mo_isLaid.1 345 = (.iload 6,2,6,0,0,0,.retAddr 0) := rfl
theorem fd_Mo_isLaid_347 : am_fd mt_Mo_isLaid.1 347 = (.iload 5,2,5,0,0,0,.retAddr 0) := rfl
theorem fd_Mo_isLaid_349 : am_fd mt_Mo_isLaid.1 349 = (.if_icmp .ge 31,3,380,0,0,0,.retAddr 0) := rfl
theorem fd_Mo_isLaid_352 : am_fd mt_Mo_isLaid.1 352 = (.iload 10,2,10,0,0,0,.retAddr 0) := rfl
theorem fd_Mo_isLaid_354 : am_fd mt_Mo_isLaid.1 354 = (.ifCond .eq 26,3,380,0,0,0,.retAddr 0) := rfl
theorem fd_Mo_isLaid_357 : am_fd mt_Mo_isLaid.1 357 = (.aload_n 0,1,0,0,0,0,.retAddr 0) := rfl
theorem fd_Mo_isLaid_358 : am_fd mt_Mo_isLaid.1 358 = (.getfield 8,3,2,2,12,12,.retAddr 0) := rfl
theorem fd_Mo_isLaid_361 : am_fd mt_Mo_isLaid.1 361 = (.iload 6,2,6,0,0,0,.retAddr 0) := rfl
theorem fd_Mo_isLaid_363 : am_fd mt_Mo_isLaid.1 363 = (.baload,1,0,0,0,0,.retAddr 0) := rfl
theorem fd_Mo_isLaid_364 : am_fd mt_Mo_isLaid.1 364 = (.ifCond .ne 7,3,371,0,0,0,.retAddr 0) := rfl
theorem fd_Mo_isLaid_367 : am_fd mt_Mo_isLaid.1 367 = (.iconst 1,1,0,0,0,0,.int 1) := rfl
theorem fd_Mo_isLaid_368 : am_fd mt_Mo_isLaid.1 368 = (.goto 4,3,372,0,0,0,.retAddr 0) := rfl
theorem fd_Mo_isLaid_371 : am_fd mt_Mo_isLaid.1 371 = (.iconst 0,1,0,0,0,0,.int 0) := rfl
theorem fd_Mo_isLaid_372 : am_fd mt_Mo_isLaid.1 372 = (.istore 10,2,10,0,0,0,.retAddr 0) := rfl
theorem fd_Mo_isLaid_374 : am_fd mt_Mo_isLaid.1 374 = (.iinc 6 1,3,6,0,0,0,.int 1) := rfl
theorem fd_Mo_isLaid_377 : am_fd mt_Mo_isLaid.1 377 = (.goto (-32),3,345,0,0,0,.retAddr 0) := rfl
theorem fd_Mo_isLaid_380 : am_fd mt_Mo_isLaid.1 380 = (.iload 10,2,10,0,0,0,.retAddr 0) := rfl
theorem fd_Mo_isLaid_382 : am_fd mt_Mo_isLaid.1 382 = (.ireturn,1,1,0,0,0,.retAddr 0) := rfl
theorem fd_Mo_behindValue_0 : am_fd mt_Mo_behindValue.1 0 = (.iconst 0,1,0,0,0,0,.int 0) := rfl
theorem fd_Mo_behindValue_1 : am_fd mt_Mo_behindValue.1 1 = (.istore_n 3,1,3,0,0,0,.retAddr 0) := rfl
theorem fd_Mo_behindValue_2 : am_fd mt_Mo_behindValue.1 2 = (.iload_n 1,1,1,0,0,0,.retAddr 0) := rfl
theorem fd_Mo_behindValue_3 : am_fd mt_Mo_behindValue.1 3 = (.iload_n 3,1,3,0,0,0,.retAddr 0) := rfl
theorem fd_Mo_behindValue_4 : am_fd mt_Mo_behindValue.1 4 = (.iadd,1,0,0,0,0,.retAddr 0) := rfl
theorem fd_Mo_behindValue_5 : am_fd mt_Mo_behindValue.1 5 = (.iload_n 2,1,2,0,0,0,.retAddr 0) := rfl
theorem fd_Mo_behindValue_6 : am_fd mt_Mo_behindValue.1 6 = (.if_icmp .ge 26,3,32,0,0,0,.retAddr 0) := rfl
theorem fd_Mo_behindValue_9 : am_fd mt_Mo_behindValue.1 9 = (.iload_n 3,1,3,0,0,0,.retAddr 0) := rfl
theorem fd_Mo_behindValue_10 : am_fd mt_Mo_behindValue.1 10 = (.bipush 9,2,0,0,0,0,.int 9) := rfl
theorem fd_Mo_behindValue_12 : am_fd mt_Mo_behindValue.1 12 = (.if_icmp .ge 20,3,32,0,0,0,.retAddr 0) := rfl
theorem fd_Mo_behindValue_15 : am_fd mt_Mo_behindValue.1 15 = (.aload_n 0,1,0,0,0,0,.retAddr 0) := rfl
theorem fd_Mo_behindValue_16 : am_fd mt_Mo_behindValue.1 16 = (.getfield 8,3,2,2,12,12,.retAddr 0) := rfl
theorem fd_Mo_behindValue_19 : am_fd mt_Mo_behindValue.1 19 = (.iload_n 1,1,1,0,0,0,.retAddr 0) := rfl
theorem fd_Mo_behindValue_20 : am_fd mt_Mo_behindValue.1 20 = (.iload_n 3,1,3,0,0,0,.retAddr 0) := rfl
theorem fd_Mo_behindValue_21 : am_fd mt_Mo_behindValue.1 21 = (.iadd,1,0,0,0,0,.retAddr 0) := rfl
theorem fd_Mo_behindValue_22 : am_fd mt_Mo_behindValue.1 22 = (.baload,1,0,0,0,0,.retAddr 0) := rfl
theorem fd_Mo_behindValue_23 : am_fd mt_Mo_behindValue.1 23 = (.ifCond .ge 9,3,32,0,0,0,.retAddr 0) := rfl
theorem fd_Mo_behindValue_26 : am_fd mt_Mo_behindValue.1 26 = (.iinc 3 1,3,3,0,0,0,.int 1) := rfl
theorem fd_Mo_behindValue_29 : am_fd mt_Mo_behindValue.1 29 = (.goto (-27),3,2,0,0,0,.retAddr 0) := rfl
theorem fd_Mo_behindValue_32 : am_fd mt_Mo_behindValue.1 32 = (.iload_n 1,1,1,0,0,0,.retAddr 0) := rfl
theorem fd_Mo_behindValue_33 : am_fd mt_Mo_behindValue.1 33 = (.iload_n 3,1,3,0,0,0,.retAddr 0) := rfl
theorem fd_Mo_behindValue_34 : am_fd mt_Mo_behindValue.1 34 = (.iadd,1,0,0,0,0,.retAddr 0) := rfl
theorem fd_Mo_behindValue_35 : am_fd mt_Mo_behindValue.1 35 = (.iload_n 2,1,2,0,0,0,.retAddr 0) := rfl
theorem fd_Mo_behindValue_36 : am_fd mt_Mo_behindValue.1 36 = (.if_icmp .ge 14,3,50,0,0,0,.retAddr 0) := rfl
theorem fd_Mo_behindValue_39 : am_fd mt_Mo_behindValue.1 39 = (.aload_n 0,1,0,0,0,0,.retAddr 0) := rfl
theorem fd_Mo_behindValue_40 : am_fd mt_Mo_behindValue.1 40 = (.getfield 8,3,2,2,12,12,.retAddr 0) := rfl
theorem fd_Mo_behindValue_43 : am_fd mt_Mo_behindValue.1 43 = (.iload_n 1,1,1,0,0,0,.retAddr 0) := rfl
theorem fd_Mo_behindValue_44 : am_fd mt_Mo_behindValue.1 44 = (.iload_n 3,1,3,0,0,0,.retAddr 0) := rfl
theorem fd_Mo_behindValue_45 : am_fd mt_Mo_behindValue.1 45 = (.iadd,1,0,0,0,0,.retAddr 0) := rfl
theorem fd_Mo_behindValue_46 : am_fd mt_Mo_behindValue.1 46 = (.baload,1,0,0,0,0,.retAddr 0) := rfl
theorem fd_Mo_behindValue_47 : am_fd mt_Mo_behindValue.1 47 = (.goto 4,3,51,0,0,0,.retAddr 0) := rfl
theorem fd_Mo_behindValue_50 : am_fd mt_Mo_behindValue.1 50 = (.iconst (-1),1,0,0,0,0,.int (-1)) := rfl
theorem fd_Mo_behindValue_51 : am_fd mt_Mo_behindValue.1 51 = (.istore 4,2,4,0,0,0,.retAddr 0) := rfl
theorem fd_Mo_behindValue_53 : am_fd mt_Mo_behindValue.1 53 = (.iload 4,2,4,0,0,0,.retAddr 0) := rfl
theorem fd_Mo_behindValue_55 : am_fd mt_Mo_behindValue.1 55 = (.ifCond .lt 28,3,83,0,0,0,.retAddr 0) := rfl
theorem fd_Mo_behindValue_58 : am_fd mt_Mo_behindValue.1 58 = (.iload_n 3,1,3,0,0,0,.retAddr 0) := rfl
theorem fd_Mo_behindValue_59 : am_fd mt_Mo_behindValue.1 59 = (.ifCond .eq 8,3,67,0,0,0,.retAddr 0) := rfl
theorem fd_Mo_behindValue_62 : am_fd mt_Mo_behindValue.1 62 = (.iload 4,2,4,0,0,0,.retAddr 0) := rfl
theorem fd_Mo_behindValue_64 : am_fd mt_Mo_behindValue.1 64 = (.ifCond .le 19,3,83,0,0,0,.retAddr 0) := rfl
theorem fd_Mo_behindValue_67 : am_fd mt_Mo_behindValue.1 67 = (.iload_n 3,1,3,0,0,0,.retAddr 0) := rfl
theorem fd_Mo_behindValue_68 : am_fd mt_Mo_behindValue.1 68 = (.bipush 9,2,0,0,0,0,.int 9) := rfl
theorem fd_Mo_behindValue_70 : am_fd mt_Mo_behindValue.1 70 = (.if_icmp .lt 9,3,79,0,0,0,.retAddr 0) := rfl
theorem fd_Mo_behindValue_73 : am_fd mt_Mo_behindValue.1 73 = (.iload 4,2,4,0,0,0,.retAddr 0) := rfl
theorem fd_Mo_behindValue_75 : am_fd mt_Mo_behindValue.1 75 = (.iconst 1,1,0,0,0,0,.int 1) := rfl
theorem fd_Mo_behindValue_76 : am_fd mt_Mo_behindValue.1 76 = (.if_icmp .ne 7,3,83,0,0,0,.retAddr 0) := rfl
theorem fd_Mo_behindValue_79 : am_fd mt_Mo_behindValue.1 79 = (.iconst 1,1,0,0,0,0,.int 1) := rfl
theorem fd_Mo_behindValue_80 : am_fd mt_Mo_behindValue.1 80 = (.goto 4,3,84,0,0,0,.retAddr 0) := rfl
theorem fd_Mo_behindValue_83 : am_fd mt_Mo_behindValue.1 83 = (.iconst 0,1,0,0,0,0,.int 0) := rfl
theorem fd_Mo_behindValue_84 : am_fd mt_Mo_behindValue.1 84 = (.istore 5,2,5,0,0,0,.retAddr 0) := rfl
theorem fd_Mo_behindValue_86 : am_fd mt_Mo_behindValue.1 86 = (.iload 5,2,5,0,0,0,.retAddr 0) := rfl
theorem fd_Mo_behindValue_88 : am_fd mt_Mo_behindValue.1 88 = (.ifCond .eq 11,3,99,0,0,0,.retAddr 0) := rfl
theorem fd_Mo_behindValue_91 : am_fd mt_Mo_behindValue.1 91 = (.iload_n 1,1,1,0,0,0,.retAddr 0) := rfl
theorem fd_Mo_behindValue_92 : am_fd mt_Mo_behindValue.1 92 = (.iload_n 3,1,3,0,0,0,.retAddr 0) := rfl
theorem fd_Mo_behindValue_93 : am_fd mt_Mo_behindValue.1 93 = (.iadd,1,0,0,0,0,.retAddr 0) := rfl
theorem fd_Mo_behindValue_94 : am_fd mt_Mo_behindValue.1 94 = (.iconst 1,1,0,0,0,0,.int 1) := rfl
theorem fd_Mo_behindValue_95 : am_fd mt_Mo_behindValue.1 95 = (.iadd,1,0,0,0,0,.retAddr 0) := rfl
theorem fd_Mo_behindValue_96 : am_fd mt_Mo_behindValue.1 96 = (.goto 4,3,100,0,0,0,.retAddr 0) := rfl
theorem fd_Mo_behindValue_99 : am_fd mt_Mo_behindValue.1 99 = (.iconst (-1),1,0,0,0,0,.int (-1)) := rfl
theorem fd_Mo_behindValue_100 : am_fd mt_Mo_behindValue.1 100 = (.ireturn,1,0,0,0,0,.retAddr 0) := rfl
theorem fd_Mo_told_0 : am_fd mt_Mo_told.1 0 = (.aload_n 0,1,0,0,0,0,.retAddr 0) := rfl
theorem fd_Mo_told_1 : am_fd mt_Mo_told.1 1 = (.iload_n 1,1,1,0,0,0,.retAddr 0) := rfl
theorem fd_Mo_told_2 : am_fd mt_Mo_told.1 2 = (.ifCond .lt 9,3,11,0,0,0,.retAddr 0) := rfl
theorem fd_Mo_told_5 : am_fd mt_Mo_told.1 5 = (.iload_n 1,1,1,0,0,0,.retAddr 0) := rfl
theorem fd_Mo_told_6 : am_fd mt_Mo_told.1 6 = (.bipush 7,2,0,0,0,0,.int 7) := rfl
theorem fd_Mo_told_8 : am_fd mt_Mo_told.1 8 = (.if_icmp .le 7,3,15,0,0,0,.retAddr 0) := rfl
theorem fd_Mo_told_11 : am_fd mt_Mo_told.1 11 = (.iconst 1,1,0,0,0,0,.int 1) := rfl
theorem fd_Mo_told_12 : am_fd mt_Mo_told.1 12 = (.goto 4,3,16,0,0,0,.retAddr 0) := rfl
theorem fd_Mo_told_15 : am_fd mt_Mo_told.1 15 = (.iconst 0,1,0,0,0,0,.int 0) := rfl
theorem fd_Mo_told_16 : am_fd mt_Mo_told.1 16 = (.putfield 141,3,0,0,12,12,.retAddr 0) := rfl
theorem fd_Mo_told_19 : am_fd mt_Mo_told.1 19 = (.aload_n 0,1,0,0,0,0,.retAddr 0) := rfl
theorem fd_Mo_told_20 : am_fd mt_Mo_told.1 20 = (.getfield 141,3,0,0,12,12,.retAddr 0) := rfl
theorem fd_Mo_told_23 : am_fd mt_Mo_told.1 23 = (.ifCond .eq 5,3,28,0,0,0,.retAddr 0) := rfl
theorem fd_Mo_told_26 : am_fd mt_Mo_told.1 26 = (.iconst 0,1,0,0,0,0,.int 0) := rfl
theorem fd_Mo_told_27 : am_fd mt_Mo_told.1 27 = (.ireturn,1,0,0,0,0,.retAddr 0) := rfl
theorem fd_Mo_told_28 : am_fd mt_Mo_told.1 28 = (.iload_n 1,1,1,0,0,0,.retAddr 0) := rfl
theorem fd_Mo_told_29 : am_fd mt_Mo_told.1 29 = (.ifCond .ne 19,3,48,0,0,0,.retAddr 0) := rfl
theorem fd_Mo_told_32 : am_fd mt_Mo_told.1 32 = (.aload_n 0,1,0,0,0,0,.retAddr 0) := rfl
theorem fd_Mo_told_33 : am_fd mt_Mo_told.1 33 = (.getfield 161,3,3,0,12,12,.retAddr 0) := rfl
theorem fd_Mo_told_36 : am_fd mt_Mo_told.1 36 = (.ifCond .eq 7,3,43,0,0,0,.retAddr 0) := rfl
theorem fd_Mo_told_39 : am_fd mt_Mo_told.1 39 = (.iconst 0,1,0,0,0,0,.int 0) := rfl
theorem fd_Mo_told_40 : am_fd mt_Mo_told.1 40 = (.goto 7,3,47,0,0,0,.retAddr 0) := rfl
theorem fd_Mo_told_43 : am_fd mt_Mo_told.1 43 = (.aload_n 0,1,0,0,0,0,.retAddr 0) := rfl
theorem fd_Mo_told_44 : am_fd mt_Mo_told.1 44 = (.invokevirtual 208,3,159,1,12,0,.retAddr 0) := rfl
theorem fd_Mo_told_47 : am_fd mt_Mo_told.1 47 = (.ireturn,1,0,0,0,0,.retAddr 0) := rfl
theorem fd_Mo_told_48 : am_fd mt_Mo_told.1 48 = (.iload_n 1,1,1,0,0,0,.retAddr 0) := rfl
theorem fd_Mo_told_49 : am_fd mt_Mo_told.1 49 = (.iconst 5,1,0,0,0,0,.int 5) := rfl
theorem fd_Mo_told_50 : am_fd mt_Mo_told.1 50 = (.if_icmp .ne 38,3,88,0,0,0,.retAddr 0) := rfl
theorem fd_Mo_told_53 : am_fd mt_Mo_told.1 53 = (.iconst 0,1,0,0,0,0,.int 0) := rfl
theorem fd_Mo_told_54 : am_fd mt_Mo_told.1 54 = (.istore_n 2,1,2,0,0,0,.retAddr 0) := rfl
theorem fd_Mo_told_55 : am_fd mt_Mo_told.1 55 = (.iconst 0,1,0,0,0,0,.int 0) := rfl
theorem fd_Mo_told_56 : am_fd mt_Mo_told.1 56 = (.istore_n 3,1,3,0,0,0,.retAddr 0) := rfl
theorem fd_Mo_told_57 : am_fd mt_Mo_told.1 57 = (.iload_n 3,1,3,0,0,0,.retAddr 0) := rfl
theorem fd_Mo_told_58 : am_fd mt_Mo_told.1 58 = (.bipush 8,2,0,0,0,0,.int 8) := rfl
theorem fd_Mo_told_60 : am_fd mt_Mo_told.1 60 = (.if_icmp .ge 26,3,86,0,0,0,.retAddr 0) := rfl
theorem fd_Mo_told_63 : am_fd mt_Mo_told.1 63 = (.iload_n 2,1,2,0,0,0,.retAddr 0) := rfl
theorem fd_Mo_told_64 : am_fd mt_Mo_told.1 64 = (.aload_n 0,1,0,0,0,0,.retAddr 0) := rfl
theorem fd_Mo_told_65 : am_fd mt_Mo_told.1 65 = (.getfield 56,3,26,2,12,12,.retAddr 0) := rfl
theorem fd_Mo_told_68 : am_fd mt_Mo_told.1 68 = (.iload_n 3,1,3,0,0,0,.retAddr 0) := rfl
theorem fd_Mo_told_69 : am_fd mt_Mo_told.1 69 = (.baload,1,0,0,0,0,.retAddr 0) := rfl
theorem fd_Mo_told_70 : am_fd mt_Mo_told.1 70 = (.ifCond .eq 7,3,77,0,0,0,.retAddr 0) := rfl
theorem fd_Mo_told_73 : am_fd mt_Mo_told.1 73 = (.iconst 1,1,0,0,0,0,.int 1) := rfl
theorem fd_Mo_told_74 : am_fd mt_Mo_told.1 74 = (.goto 4,3,78,0,0,0,.retAddr 0) := rfl
theorem fd_Mo_told_77 : am_fd mt_Mo_told.1 77 = (.iconst 0,1,0,0,0,0,.int 0) := rfl
theorem fd_Mo_told_78 : am_fd mt_Mo_told.1 78 = (.iadd,1,0,0,0,0,.retAddr 0) := rfl
theorem fd_Mo_told_79 : am_fd mt_Mo_told.1 79 = (.istore_n 2,1,2,0,0,0,.retAddr 0) := rfl
theorem fd_Mo_told_80 : am_fd mt_Mo_told.1 80 = (.iinc 3 1,3,3,0,0,0,.int 1) := rfl
theorem fd_Mo_told_83 : am_fd mt_Mo_told.1 83 = (.goto (-26),3,57,0,0,0,.retAddr 0) := rfl
theorem fd_Mo_told_86 : am_fd mt_Mo_told.1 86 = (.iload_n 2,1,2,0,0,0,.retAddr 0) := rfl
theorem fd_Mo_told_87 : am_fd mt_Mo_told.1 87 = (.ireturn,1,0,0,0,0,.retAddr 0) := rfl
theorem fd_Mo_told_88 : am_fd mt_Mo_told.1 88 = (.iload_n 1,1,1,0,0,0,.retAddr 0) := rfl
theorem fd_Mo_told_89 : am_fd mt_Mo_told.1 89 = (.iconst 1,1,0,0,0,0,.int 1) := rfl
theorem fd_Mo_told_90 : am_fd mt_Mo_told.1 90 = (.if_icmp .ne 10,3,100,0,0,0,.retAddr 0) := rfl
theorem fd_Mo_told_93 : am_fd mt_Mo_told.1 93 = (.aload_n 0,1,0,0,0,0,.retAddr 0) := rfl
theorem fd_Mo_told_94 : am_fd mt_Mo_told.1 94 = (.getfield 165,3,11,0,12,12,.retAddr 0) := rfl
theorem fd_Mo_told_97 : am_fd mt_Mo_told.1 97 = (.goto 64,3,161,0,0,0,.retAddr 0) := rfl
theorem fd_Mo_told_100 : am_fd mt_Mo_told.1 100 = (.iload_n 1,1,1,0,0,0,.retAddr 0) := rfl
theorem fd_Mo_told_101 : am_fd mt_Mo_told.1 101 = (.iconst 2,1,0,0,0,0,.int 2) := rfl
theorem fd_Mo_told_102 : am_fd mt_Mo_told.1 102 = (.if_icmp .ne 10,3,112,0,0,0,.retAddr 0) := rfl
theorem fd_Mo_told_105 : am_fd mt_Mo_told.1 105 = (.aload_n 0,1,0,0,0,0,.retAddr 0) := rfl
theorem fd_Mo_told_106 : am_fd mt_Mo_told.1 106 = (.getfield 275,3,6,0,12,12,.retAddr 0) := rfl
theorem fd_Mo_told_109 : am_fd mt_Mo_told.1 109 = (.goto 52,3,161,0,0,0,.retAddr 0) := rfl
theorem fd_Mo_told_112 : am_fd mt_Mo_told.1 112 = (.iload_n 1,1,1,0,0,0,.retAddr 0) := rfl
theorem fd_Mo_told_113 : am_fd mt_Mo_told.1 113 = (.iconst 3,1,0,0,0,0,.int 3) := rfl
theorem fd_Mo_told_114 : am_fd mt_Mo_told.1 114 = (.if_icmp .ne 10,3,124,0,0,0,.retAddr 0) := rfl
theorem fd_Mo_told_117 : am_fd mt_Mo_told.1 117 = (.aload_n 0,1,0,0,0,0,.retAddr 0) := rfl
theorem fd_Mo_told_118 : am_fd mt_Mo_told.1 118 = (.getfield 138,3,7,0,12,12,.retAddr 0) := rfl
theorem fd_Mo_told_121 : am_fd mt_Mo_told.1 121 = (.goto 40,3,161,0,0,0,.retAddr 0) := rfl
theorem fd_Mo_told_124 : am_fd mt_Mo_told.1 124 = (.iload_n 1,1,1,0,0,0,.retAddr 0) := rfl
theorem fd_Mo_told_125 : am_fd mt_Mo_told.1 125 = (.iconst 4,1,0,0,0,0,.int 4) := rfl
theorem fd_Mo_told_126 : am_fd mt_Mo_told.1 126 = (.if_icmp .ne 10,3,136,0,0,0,.retAddr 0) := rfl
theorem fd_Mo_told_129 : am_fd mt_Mo_told.1 129 = (.aload_n 0,1,0,0,0,0,.retAddr 0) := rfl
theorem fd_Mo_told_130 : am_fd mt_Mo_told.1 130 = (.getfield 168,3,24,0,12,12,.retAddr 0) := rfl
theorem fd_Mo_told_133 : am_fd mt_Mo_told.1 133 = (.goto 28,3,161,0,0,0,.retAddr 0) := rfl
theorem fd_Mo_told_136 : am_fd mt_Mo_told.1 136 = (.iload_n 1,1,1,0,0,0,.retAddr 0) := rfl
theorem fd_Mo_told_137 : am_fd mt_Mo_told.1 137 = (.bipush 6,2,0,0,0,0,.int 6) := rfl
theorem fd_Mo_told_139 : am_fd mt_Mo_told.1 139 = (.if_icmp .ne 10,3,149,0,0,0,.retAddr 0) := rfl
theorem fd_Mo_told_142 : am_fd mt_Mo_told.1 142 = (.aload_n 0,1,0,0,0,0,.retAddr 0) := rfl
theorem fd_Mo_told_143 : am_fd mt_Mo_told.1 143 = (.getfield 125,3,4,0,12,12,.retAddr 0) := rfl
theorem fd_Mo_told_146 : am_fd mt_Mo_told.1 146 = (.goto 15,3,161,0,0,0,.retAddr 0) := rfl
theorem fd_Mo_told_149 : am_fd mt_Mo_told.1 149 = (.aload_n 0,1,0,0,0,0,.retAddr 0) := rfl
theorem fd_Mo_told_150 : am_fd mt_Mo_told.1 150 = (.getfield 161,3,3,0,12,12,.retAddr 0) := rfl
theorem fd_Mo_told_153 : am_fd mt_Mo_told.1 153 = (.ifCond .eq 7,3,160,0,0,0,.retAddr 0) := rfl
theorem fd_Mo_told_156 : am_fd mt_Mo_told.1 156 = (.iconst 1,1,0,0,0,0,.int 1) := rfl
theorem fd_Mo_told_157 : am_fd mt_Mo_told.1 157 = (.goto 4,3,161,0,0,0,.retAddr 0) := rfl
theorem fd_Mo_told_160 : am_fd mt_Mo_told.1 160 = (.iconst 0,1,0,0,0,0,.int 0) := rfl
theorem fd_Mo_told_161 : am_fd mt_Mo_told.1 161 = (.ireturn,1,0,0,0,0,.retAddr 0) := rfl
theorem fd_La_put_0 : am_fd mt_La_put.1 0 = (.aload 5,2,5,0,0,0,.retAddr 0) := rfl
theorem fd_La_put_2 : am_fd mt_La_put.1 2 = (.iconst 0,1,0,0,0,0,.int 0) := rfl
theorem fd_La_put_3 : am_fd mt_La_put.1 3 = (.aload_n 0,1,0,0,0,0,.retAddr 0) := rfl
theorem fd_La_put_4 : am_fd mt_La_put.1 4 = (.lload_n 1,1,1,0,0,0,.retAddr 0) := rfl
theorem fd_La_put_5 : am_fd mt_La_put.1 5 = (.lload_n 3,1,3,0,0,0,.retAddr 0) := rfl
theorem fd_La_put_6 : am_fd mt_La_put.1 6 = (.invokevirtual 7,3,32,3,1,0,.retAddr 0) := rfl
theorem fd_La_put_9 : am_fd mt_La_put.1 9 = (.i2l,1,0,0,0,0,.retAddr 0) := rfl
theorem fd_La_put_10 : am_fd mt_La_put.1 10 = (.lastore,1,0,0,0,0,.retAddr 0) := rfl
theorem fd_La_put_11 : am_fd mt_La_put.1 11 = (.goto 7,3,18,0,0,0,.retAddr 0) := rfl
theorem fd_La_put_14 : am_fd mt_La_put.1 14 = (.astore 6,2,6,0,0,0,.retAddr 0) := rfl
theorem fd_La_put_16 : am_fd mt_La_put.1 16 = (.iconst 1,1,0,0,0,0,.int 1) := rfl
theorem fd_La_put_17 : am_fd mt_La_put.1 17 = (.ireturn,1,0,0,0,0,.retAddr 0) := rfl
theorem fd_La_put_18 : am_fd mt_La_put.1 18 = (.iconst 0,1,0,0,0,0,.int 0) := rfl
theorem fd_La_put_19 : am_fd mt_La_put.1 19 = (.ireturn,1,0,0,0,0,.retAddr 0) := rfl
theorem fd_La_remove_0 : am_fd mt_La_remove.1 0 = (.aload_n 3,1,3,0,0,0,.retAddr 0) := rfl
theorem fd_La_remove_1 : am_fd mt_La_remove.1 1 = (.iconst 0,1,0,0,0,0,.int 0) := rfl
theorem fd_La_remove_2 : am_fd mt_La_remove.1 2 = (.aload_n 0,1,0,0,0,0,.retAddr 0) := rfl
theorem fd_La_remove_3 : am_fd mt_La_remove.1 3 = (.lload_n 1,1,1,0,0,0,.retAddr 0) := rfl
theorem fd_La_remove_4 : am_fd mt_La_remove.1 4 = (.invokevirtual 15,3,42,2,1,0,.retAddr 0) := rfl
theorem fd_La_remove_7 : am_fd mt_La_remove.1 7 = (.i2l,1,0,0,0,0,.retAddr 0) := rfl
theorem fd_La_remove_8 : am_fd mt_La_remove.1 8 = (.lastore,1,0,0,0,0,.retAddr 0) := rfl
theorem fd_La_remove_9 : am_fd mt_La_remove.1 9 = (.goto 7,3,16,0,0,0,.retAddr 0) := rfl
theorem fd_La_remove_12 : am_fd mt_La_remove.1 12 = (.astore 4,2,4,0,0,0,.retAddr 0) := rfl
theorem fd_La_remove_14 : am_fd mt_La_remove.1 14 = (.iconst 1,1,0,0,0,0,.int 1) := rfl
theorem fd_La_remove_15 : am_fd mt_La_remove.1 15 = (.ireturn,1,0,0,0,0,.retAddr 0) := rfl
theorem fd_La_remove_16 : am_fd mt_La_remove.1 16 = (.iconst 0,1,0,0,0,0,.int 0) := rfl
theorem fd_La_remove_17 : am_fd mt_La_remove.1 17 = (.ireturn,1,0,0,0,0,.retAddr 0) := rfl
theorem fd_La_fold_0 : am_fd mt_La_fold.1 0 = (.aload 5,2,5,0,0,0,.retAddr 0) := rfl
theorem fd_La_fold_2 : am_fd mt_La_fold.1 2 = (.iconst 0,1,0,0,0,0,.int 0) := rfl
theorem fd_La_fold_3 : am_fd mt_La_fold.1 3 = (.aload_n 0,1,0,0,0,0,.retAddr 0) := rfl
theorem fd_La_fold_4 : am_fd mt_La_fold.1 4 = (.lload_n 1,1,1,0,0,0,.retAddr 0) := rfl
theorem fd_La_fold_5 : am_fd mt_La_fold.1 5 = (.lload_n 3,1,3,0,0,0,.retAddr 0) := rfl
theorem fd_La_fold_6 : am_fd mt_La_fold.1 6 = (.invokevirtual 19,3,43,3,1,0,.retAddr 0) := rfl
theorem fd_La_fold_9 : am_fd mt_La_fold.1 9 = (.i2l,1,0,0,0,0,.retAddr 0) := rfl
theorem fd_La_fold_10 : am_fd mt_La_fold.1 10 = (.lastore,1,0,0,0,0,.retAddr 0) := rfl
theorem fd_La_fold_11 : am_fd mt_La_fold.1 11 = (.goto 7,3,18,0,0,0,.retAddr 0) := rfl
theorem fd_La_fold_14 : am_fd mt_La_fold.1 14 = (.astore 6,2,6,0,0,0,.retAddr 0) := rfl
theorem fd_La_fold_16 : am_fd mt_La_fold.1 16 = (.iconst 1,1,0,0,0,0,.int 1) := rfl
theorem fd_La_fold_17 : am_fd mt_La_fold.1 17 = (.ireturn,1,0,0,0,0,.retAddr 0) := rfl
theorem fd_La_fold_18 : am_fd mt_La_fold.1 18 = (.iconst 0,1,0,0,0,0,.int 0) := rfl
theorem fd_La_fold_19 : am_fd mt_La_fold.1 19 = (.ireturn,1,0,0,0,0,.retAddr 0) := rfl
theorem fd_La_many_0 : am_fd mt_La_many.1 0 = (.aload 7,2,7,0,0,0,.retAddr 0) := rfl
theorem fd_La_many_2 : am_fd mt_La_many.1 2 = (.iconst 0,1,0,0,0,0,.int 0) := rfl
theorem fd_La_many_3 : am_fd mt_La_many.1 3 = (.aload_n 0,1,0,0,0,0,.retAddr 0) := rfl
theorem fd_La_many_4 : am_fd mt_La_many.1 4 = (.iload_n 1,1,1,0,0,0,.retAddr 0) := rfl
theorem fd_La_many_5 : am_fd mt_La_many.1 5 = (.iload_n 2,1,2,0,0,0,.retAddr 0) := rfl
theorem fd_La_many_6 : am_fd mt_La_many.1 6 = (.lload_n 3,1,3,0,0,0,.retAddr 0) := rfl
theorem fd_La_many_7 : am_fd mt_La_many.1 7 = (.lload 5,2,5,0,0,0,.retAddr 0) := rfl
theorem fd_La_many_9 : am_fd mt_La_many.1 9 = (.invokevirtual 22,3,44,5,1,0,.retAddr 0) := rfl
theorem fd_La_many_12 : am_fd mt_La_many.1 12 = (.i2l,1,0,0,0,0,.retAddr 0) := rfl
theorem fd_La_many_13 : am_fd mt_La_many.1 13 = (.lastore,1,0,0,0,0,.retAddr 0) := rfl
theorem fd_La_many_14 : am_fd mt_La_many.1 14 = (.goto 11,3,25,0,0,0,.retAddr 0) := rfl
theorem fd_La_many_17 : am_fd mt_La_many.1 17 = (.astore 8,2,8,0,0,0,.retAddr 0) := rfl
theorem fd_La_many_19 : am_fd mt_La_many.1 19 = (.iconst 1,1,0,0,0,0,.int 1) := rfl
theorem fd_La_many_20 : am_fd mt_La_many.1 20 = (.ireturn,1,0,0,0,0,.retAddr 0) := rfl
theorem fd_La_many_21 : am_fd mt_La_many.1 21 = (.astore 8,2,8,0,0,0,.retAddr 0) := rfl
theorem fd_La_many_23 : am_fd mt_La_many.1 23 = (.iconst 2,1,0,0,0,0,.int 2) := rfl
theorem fd_La_many_24 : am_fd mt_La_many.1 24 = (.ireturn,1,0,0,0,0,.retAddr 0) := rfl
theorem fd_La_many_25 : am_fd mt_La_many.1 25 = (.iconst 0,1,0,0,0,0,.int 0) := rfl
theorem fd_La_many_26 : am_fd mt_La_many.1 26 = (.ireturn,1,0,0,0,0,.retAddr 0) := rfl
theorem fd_La_flush_0 : am_fd mt_La_flush.1 0 = (.aload_n 1,1,1,0,0,0,.retAddr 0) := rfl
theorem fd_La_flush_1 : am_fd mt_La_flush.1 1 = (.iconst 0,1,0,0,0,0,.int 0) := rfl
theorem fd_La_flush_2 : am_fd mt_La_flush.1 2 = (.aload_n 0,1,0,0,0,0,.retAddr 0) := rfl
theorem fd_La_flush_3 : am_fd mt_La_flush.1 3 = (.invokevirtual 28,3,92,1,1,0,.retAddr 0) := rfl
theorem fd_La_flush_6 : am_fd mt_La_flush.1 6 = (.i2l,1,0,0,0,0,.retAddr 0) := rfl
theorem fd_La_flush_7 : am_fd mt_La_flush.1 7 = (.lastore,1,0,0,0,0,.retAddr 0) := rfl
theorem fd_La_flush_8 : am_fd mt_La_flush.1 8 = (.goto 6,3,14,0,0,0,.retAddr 0) := rfl
theorem fd_La_flush_11 : am_fd mt_La_flush.1 11 = (.astore_n 2,1,2,0,0,0,.retAddr 0) := rfl
theorem fd_La_flush_12 : am_fd mt_La_flush.1 12 = (.iconst 1,1,0,0,0,0,.int 1) := rfl
theorem fd_La_flush_13 : am_fd mt_La_flush.1 13 = (.ireturn,1,0,0,0,0,.retAddr 0) := rfl
theorem fd_La_flush_14 : am_fd mt_La_flush.1 14 = (.iconst 0,1,0,0,0,0,.int 0) := rfl
theorem fd_La_flush_15 : am_fd mt_La_flush.1 15 = (.ireturn,1,0,0,0,0,.retAddr 0) := rfl
theorem fd_La_merge_0 : am_fd mt_La_merge.1 0 = (.aload_n 1,1,1,0,0,0,.retAddr 0) := rfl
theorem fd_La_merge_1 : am_fd mt_La_merge.1 1 = (.iconst 0,1,0,0,0,0,.int 0) := rfl
theorem fd_La_merge_2 : am_fd mt_La_merge.1 2 = (.aload_n 0,1,0,0,0,0,.retAddr 0) := rfl
theorem fd_La_merge_3 : am_fd mt_La_merge.1 3 = (.invokevirtual 32,3,93,1,1,0,.retAddr 0) := rfl
theorem fd_La_merge_6 : am_fd mt_La_merge.1 6 = (.i2l,1,0,0,0,0,.retAddr 0) := rfl
theorem fd_La_merge_7 : am_fd mt_La_merge.1 7 = (.lastore,1,0,0,0,0,.retAddr 0) := rfl
theorem fd_La_merge_8 : am_fd mt_La_merge.1 8 = (.goto 6,3,14,0,0,0,.retAddr 0) := rfl
theorem fd_La_merge_11 : am_fd mt_La_merge.1 11 = (.astore_n 2,1,2,0,0,0,.retAddr 0) := rfl
theorem fd_La_merge_12 : am_fd mt_La_merge.1 12 = (.iconst 1,1,0,0,0,0,.int 1) := rfl
theorem fd_La_merge_13 : am_fd mt_La_merge.1 13 = (.ireturn,1,0,0,0,0,.retAddr 0) := rfl
theorem fd_La_merge_14 : am_fd mt_La_merge.1 14 = (.iconst 0,1,0,0,0,0,.int 0) := rfl
theorem fd_La_merge_15 : am_fd mt_La_merge.1 15 = (.ireturn,1,0,0,0,0,.retAddr 0) := rfl
theorem fd_La_mark_0 : am_fd mt_La_mark.1 0 = (.aload_n 1,1,1,0,0,0,.retAddr 0) := rfl
theorem fd_La_mark_1 : am_fd mt_La_mark.1 1 = (.iconst 0,1,0,0,0,0,.int 0) := rfl
theorem fd_La_mark_2 : am_fd mt_La_mark.1 2 = (.aload_n 0,1,0,0,0,0,.retAddr 0) := rfl
theorem fd_La_mark_3 : am_fd mt_La_mark.1 3 = (.invokevirtual 35,3,94,1,1,0,.retAddr 0) := rfl
theorem fd_La_mark_6 : am_fd mt_La_mark.1 6 = (.i2l,1,0,0,0,0,.retAddr 0) := rfl
theorem fd_La_mark_7 : am_fd mt_La_mark.1 7 = (.lastore,1,0,0,0,0,.retAddr 0) := rfl
theorem fd_La_mark_8 : am_fd mt_La_mark.1 8 = (.goto 6,3,14,0,0,0,.retAddr 0) := rfl
theorem fd_La_mark_11 : am_fd mt_La_mark.1 11 = (.astore_n 2,1,2,0,0,0,.retAddr 0) := rfl
theorem fd_La_mark_12 : am_fd mt_La_mark.1 12 = (.iconst 1,1,0,0,0,0,.int 1) := rfl
theorem fd_La_mark_13 : am_fd mt_La_mark.1 13 = (.ireturn,1,0,0,0,0,.retAddr 0) := rfl
theorem fd_La_mark_14 : am_fd mt_La_mark.1 14 = (.iconst 0,1,0,0,0,0,.int 0) := rfl
theorem fd_La_mark_15 : am_fd mt_La_mark.1 15 = (.ireturn,1,0,0,0,0,.retAddr 0) := rfl
theorem fd_La_release_0 : am_fd mt_La_release.1 0 = (.aload_n 2,1,2,0,0,0,.retAddr 0) := rfl
theorem fd_La_release_1 : am_fd mt_La_release.1 1 = (.iconst 0,1,0,0,0,0,.int 0) := rfl
theorem fd_La_release_2 : am_fd mt_La_release.1 2 = (.aload_n 0,1,0,0,0,0,.retAddr 0) := rfl
theorem fd_La_release_3 : am_fd mt_La_release.1 3 = (.iload_n 1,1,1,0,0,0,.retAddr 0) := rfl
theorem fd_La_release_4 : am_fd mt_La_release.1 4 = (.invokevirtual 38,3,98,2,1,0,.retAddr 0) := rfl
theorem fd_La_release_7 : am_fd mt_La_release.1 7 = (.i2l,1,0,0,0,0,.retAddr 0) := rfl
theorem fd_La_release_8 : am_fd mt_La_release.1 8 = (.lastore,1,0,0,0,0,.retAddr 0) := rfl
theorem fd_La_release_9 : am_fd mt_La_release.1 9 = (.goto 9,3,18,0,0,0,.retAddr 0) := rfl
theorem fd_La_release_12 : am_fd mt_La_release.1 12 = (.astore_n 3,1,3,0,0,0,.retAddr 0) := rfl
theorem fd_La_release_13 : am_fd mt_La_release.1 13 = (.iconst 1,1,0,0,0,0,.int 1) := rfl
theorem fd_La_release_14 : am_fd mt_La_release.1 14 = (.ireturn,1,0,0,0,0,.retAddr 0) := rfl
theorem fd_La_release_15 : am_fd mt_La_release.1 15 = (.astore_n 3,1,3,0,0,0,.retAddr 0) := rfl
theorem fd_La_release_16 : am_fd mt_La_release.1 16 = (.iconst 2,1,0,0,0,0,.int 2) := rfl
theorem fd_La_release_17 : am_fd mt_La_release.1 17 = (.ireturn,1,0,0,0,0,.retAddr 0) := rfl
theorem fd_La_release_18 : am_fd mt_La_release.1 18 = (.iconst 0,1,0,0,0,0,.int 0) := rfl
theorem fd_La_release_19 : am_fd mt_La_release.1 19 = (.ireturn,1,0,0,0,0,.retAddr 0) := rfl
theorem fd_La_get_0 : am_fd mt_La_get.1 0 = (.aload 4,2,4,0,0,0,.retAddr 0) := rfl
theorem fd_La_get_2 : am_fd mt_La_get.1 2 = (.iconst 0,1,0,0,0,0,.int 0) := rfl
theorem fd_La_get_3 : am_fd mt_La_get.1 3 = (.aload_n 0,1,0,0,0,0,.retAddr 0) := rfl
theorem fd_La_get_4 : am_fd mt_La_get.1 4 = (.iload_n 1,1,1,0,0,0,.retAddr 0) := rfl
theorem fd_La_get_5 : am_fd mt_La_get.1 5 = (.lload_n 2,1,2,0,0,0,.retAddr 0) := rfl
theorem fd_La_get_6 : am_fd mt_La_get.1 6 = (.invokevirtual 44,3,100,3,1,0,.retAddr 0) := rfl
theorem fd_La_get_9 : am_fd mt_La_get.1 9 = (.lastore,1,0,0,0,0,.retAddr 0) := rfl
theorem fd_La_get_10 : am_fd mt_La_get.1 10 = (.goto 11,3,21,0,0,0,.retAddr 0) := rfl
theorem fd_La_get_13 : am_fd mt_La_get.1 13 = (.astore 5,2,5,0,0,0,.retAddr 0) := rfl
theorem fd_La_get_15 : am_fd mt_La_get.1 15 = (.iconst 1,1,0,0,0,0,.int 1) := rfl
theorem fd_La_get_16 : am_fd mt_La_get.1 16 = (.ireturn,1,0,0,0,0,.retAddr 0) := rfl
theorem fd_La_get_17 : am_fd mt_La_get.1 17 = (.astore 5,2,5,0,0,0,.retAddr 0) := rfl
theorem fd_La_get_19 : am_fd mt_La_get.1 19 = (.iconst 2,1,0,0,0,0,.int 2) := rfl
theorem fd_La_get_20 : am_fd mt_La_get.1 20 = (.ireturn,1,0,0,0,0,.retAddr 0) := rfl
theorem fd_La_get_21 : am_fd mt_La_get.1 21 = (.iconst 0,1,0,0,0,0,.int 0) := rfl
theorem fd_La_get_22 : am_fd mt_La_get.1 22 = (.ireturn,1,0,0,0,0,.retAddr 0) := rfl
theorem fd_La_range_0 : am_fd mt_La_range.1 0 = (.aload 6,2,6,0,0,0,.retAddr 0) := rfl
theorem fd_La_range_2 : am_fd mt_La_range.1 2 = (.iconst 0,1,0,0,0,0,.int 0) := rfl
theorem fd_La_range_3 : am_fd mt_La_range.1 3 = (.aload_n 0,1,0,0,0,0,.retAddr 0) := rfl
theorem fd_La_range_4 : am_fd mt_La_range.1 4 = (.iload_n 1,1,1,0,0,0,.retAddr 0) := rfl
theorem fd_La_range_5 : am_fd mt_La_range.1 5 = (.lload_n 2,1,2,0,0,0,.retAddr 0) := rfl
theorem fd_La_range_6 : am_fd mt_La_range.1 6 = (.lload 4,2,4,0,0,0,.retAddr 0) := rfl
theorem fd_La_range_8 : am_fd mt_La_range.1 8 = (.invokevirtual 48,3,110,4,1,0,.retAddr 0) := rfl
theorem fd_La_range_11 : am_fd mt_La_range.1 11 = (.i2l,1,0,0,0,0,.retAddr 0) := rfl
theorem fd_La_range_12 : am_fd mt_La_range.1 12 = (.lastore,1,0,0,0,0,.retAddr 0) := rfl
theorem fd_La_range_13 : am_fd mt_La_range.1 13 = (.goto 15,3,28,0,0,0,.retAddr 0) := rfl
theorem fd_La_range_16 : am_fd mt_La_range.1 16 = (.astore 7,2,7,0,0,0,.retAddr 0) := rfl
theorem fd_La_range_18 : am_fd mt_La_range.1 18 = (.iconst 1,1,0,0,0,0,.int 1) := rfl
theorem fd_La_range_19 : am_fd mt_La_range.1 19 = (.ireturn,1,0,0,0,0,.retAddr 0) := rfl
theorem fd_La_range_20 : am_fd mt_La_range.1 20 = (.astore 7,2,7,0,0,0,.retAddr 0) := rfl
theorem fd_La_range_22 : am_fd mt_La_range.1 22 = (.iconst 2,1,0,0,0,0,.int 2) := rfl
theorem fd_La_range_23 : am_fd mt_La_range.1 23 = (.ireturn,1,0,0,0,0,.retAddr 0) := rfl
theorem fd_La_range_24 : am_fd mt_La_range.1 24 = (.astore 7,2,7,0,0,0,.retAddr 0) := rfl
theorem fd_La_range_26 : am_fd mt_La_range.1 26 = (.iconst 3,1,0,0,0,0,.int 3) := rfl
theorem fd_La_range_27 : am_fd mt_La_range.1 27 = (.ireturn,1,0,0,0,0,.retAddr 0) := rfl
theorem fd_La_range_28 : am_fd mt_La_range.1 28 = (.iconst 0,1,0,0,0,0,.int 0) := rfl
theorem fd_La_range_29 : am_fd mt_La_range.1 29 = (.ireturn,1,0,0,0,0,.retAddr 0) := rfl
theorem fd_La_at_0 : am_fd mt_La_at.1 0 = (.aload_n 3,1,3,0,0,0,.retAddr 0) := rfl
theorem fd_La_at_1 : am_fd mt_La_at.1 1 = (.iconst 0,1,0,0,0,0,.int 0) := rfl
theorem fd_La_at_2 : am_fd mt_La_at.1 2 = (.aload_n 0,1,0,0,0,0,.retAddr 0) := rfl
theorem fd_La_at_3 : am_fd mt_La_at.1 3 = (.iload_n 1,1,1,0,0,0,.retAddr 0) := rfl
theorem fd_La_at_4 : am_fd mt_La_at.1 4 = (.iload_n 2,1,2,0,0,0,.retAddr 0) := rfl
theorem fd_La_at_5 : am_fd mt_La_at.1 5 = (.invokevirtual 52,3,113,3,1,0,.retAddr 0) := rfl
theorem fd_La_at_8 : am_fd mt_La_at.1 8 = (.lastore,1,0,0,0,0,.retAddr 0) := rfl
theorem fd_La_at_9 : am_fd mt_La_at.1 9 = (.goto 7,3,16,0,0,0,.retAddr 0) := rfl
theorem fd_La_at_12 : am_fd mt_La_at.1 12 = (.astore 4,2,4,0,0,0,.retAddr 0) := rfl
theorem fd_La_at_14 : am_fd mt_La_at.1 14 = (.iconst 1,1,0,0,0,0,.int 1) := rfl
theorem fd_La_at_15 : am_fd mt_La_at.1 15 = (.ireturn,1,0,0,0,0,.retAddr 0) := rfl
theorem fd_La_at_16 : am_fd mt_La_at.1 16 = (.iconst 0,1,0,0,0,0,.int 0) := rfl
theorem fd_La_at_17 : am_fd mt_La_at.1 17 = (.ireturn,1,0,0,0,0,.retAddr 0) := rfl
theorem fd_La_run_0 : am_fd mt_La_run.1 0 = (.aload_n 3,1,3,0,0,0,.retAddr 0) := rfl
theorem fd_La_run_1 : am_fd mt_La_run.1 1 = (.iconst 0,1,0,0,0,0,.int 0) := rfl
theorem fd_La_run_2 : am_fd mt_La_run.1 2 = (.aload_n 0,1,0,0,0,0,.retAddr 0) := rfl
theorem fd_La_run_3 : am_fd mt_La_run.1 3 = (.iload_n 1,1,1,0,0,0,.retAddr 0) := rfl
theorem fd_La_run_4 : am_fd mt_La_run.1 4 = (.iload_n 2,1,2,0,0,0,.retAddr 0) := rfl
theorem fd_La_run_5 : am_fd mt_La_run.1 5 = (.invokevirtual 56,3,114,3,1,0,.retAddr 0) := rfl
theorem fd_La_run_8 : am_fd mt_La_run.1 8 = (.i2l,1,0,0,0,0,.retAddr 0) := rfl
theorem fd_La_run_9 : am_fd mt_La_run.1 9 = (.lastore,1,0,0,0,0,.retAddr 0) := rfl
theorem fd_La_run_10 : am_fd mt_La_run.1 10 = (.goto 7,3,17,0,0,0,.retAddr 0) := rfl
theorem fd_La_run_13 : am_fd mt_La_run.1 13 = (.astore 4,2,4,0,0,0,.retAddr 0) := rfl
theorem fd_La_run_15 : am_fd mt_La_run.1 15 = (.iconst 1,1,0,0,0,0,.int 1) := rfl
theorem fd_La_run_16 : am_fd mt_La_run.1 16 = (.ireturn,1,0,0,0,0,.retAddr 0) := rfl
theorem fd_La_run_17 : am_fd mt_La_run.1 17 = (.iconst 0,1,0,0,0,0,.int 0) := rfl
theorem fd_La_run_18 : am_fd mt_La_run.1 18 = (.ireturn,1,0,0,0,0,.retAddr 0) := rfl
theorem fd_La_hidden_0 : am_fd mt_La_hidden.1 0 = (.aload_n 3,1,3,0,0,0,.retAddr 0) := rfl
theorem fd_La_hidden_1 : am_fd mt_La_hidden.1 1 = (.iconst 0,1,0,0,0,0,.int 0) := rfl
theorem fd_La_hidden_2 : am_fd mt_La_hidden.1 2 = (.aload_n 0,1,0,0,0,0,.retAddr 0) := rfl
theorem fd_La_hidden_3 : am_fd mt_La_hidden.1 3 = (.lload_n 1,1,1,0,0,0,.retAddr 0) := rfl
theorem fd_La_hidden_4 : am_fd mt_La_hidden.1 4 = (.invokevirtual 60,3,115,2,1,0,.retAddr 0) := rfl
theorem fd_La_hidden_7 : am_fd mt_La_hidden.1 7 = (.ifCond .eq 7,3,14,0,0,0,.retAddr 0) := rfl
theorem fd_La_hidden_10 : am_fd mt_La_hidden.1 10 = (.lconst 1,1,0,0,0,0,.long 1) := rfl
theorem fd_La_hidden_11 : am_fd mt_La_hidden.1 11 = (.goto 4,3,15,0,0,0,.retAddr 0) := rfl
theorem fd_La_hidden_14 : am_fd mt_La_hidden.1 14 = (.lconst 0,1,0,0,0,0,.long 0) := rfl
theorem fd_La_hidden_15 : am_fd mt_La_hidden.1 15 = (.lastore,1,0,0,0,0,.retAddr 0) := rfl
theorem fd_La_hidden_16 : am_fd mt_La_hidden.1 16 = (.goto 7,3,23,0,0,0,.retAddr 0) := rfl
theorem fd_La_hidden_19 : am_fd mt_La_hidden.1 19 = (.astore 4,2,4,0,0,0,.retAddr 0) := rfl
theorem fd_La_hidden_21 : am_fd mt_La_hidden.1 21 = (.iconst 1,1,0,0,0,0,.int 1) := rfl
theorem fd_La_hidden_22 : am_fd mt_La_hidden.1 22 = (.ireturn,1,0,0,0,0,.retAddr 0) := rfl
theorem fd_La_hidden_23 : am_fd mt_La_hidden.1 23 = (.iconst 0,1,0,0,0,0,.int 0) := rfl
theorem fd_La_hidden_24 : am_fd mt_La_hidden.1 24 = (.ireturn,1,0,0,0,0,.retAddr 0) := rfl
theorem fd_La_octet_0 : am_fd mt_La_octet.1 0 = (.aload_n 3,1,3,0,0,0,.retAddr 0) := rfl
theorem fd_La_octet_1 : am_fd mt_La_octet.1 1 = (.iconst 0,1,0,0,0,0,.int 0) := rfl
theorem fd_La_octet_2 : am_fd mt_La_octet.1 2 = (.aload_n 0,1,0,0,0,0,.retAddr 0) := rfl
theorem fd_La_octet_3 : am_fd mt_La_octet.1 3 = (.iload_n 1,1,1,0,0,0,.retAddr 0) := rfl
theorem fd_La_octet_4 : am_fd mt_La_octet.1 4 = (.iload_n 2,1,2,0,0,0,.retAddr 0) := rfl
theorem fd_La_octet_5 : am_fd mt_La_octet.1 5 = (.invokevirtual 64,3,116,3,1,0,.retAddr 0) := rfl
theorem fd_La_octet_8 : am_fd mt_La_octet.1 8 = (.i2l,1,0,0,0,0,.retAddr 0) := rfl
theorem fd_La_octet_9 : am_fd mt_La_octet.1 9 = (.lastore,1,0,0,0,0,.retAddr 0) := rfl
theorem fd_La_octet_10 : am_fd mt_La_octet.1 10 = (.goto 7,3,17,0,0,0,.retAddr 0) := rfl
theorem fd_La_octet_13 : am_fd mt_La_octet.1 13 = (.astore 4,2,4,0,0,0,.retAddr 0) := rfl
theorem fd_La_octet_15 : am_fd mt_La_octet.1 15 = (.iconst 1,1,0,0,0,0,.int 1) := rfl
theorem fd_La_octet_16 : am_fd mt_La_octet.1 16 = (.ireturn,1,0,0,0,0,.retAddr 0) := rfl
theorem fd_La_octet_17 : am_fd mt_La_octet.1 17 = (.iconst 0,1,0,0,0,0,.int 0) := rfl
theorem fd_La_octet_18 : am_fd mt_La_octet.1 18 = (.ireturn,1,0,0,0,0,.retAddr 0) := rfl
theorem fd_La_poke_0 : am_fd mt_La_poke.1 0 = (.aload_n 0,1,0,0,0,0,.retAddr 0) := rfl
theorem fd_La_poke_1 : am_fd mt_La_poke.1 1 = (.iload_n 1,1,1,0,0,0,.retAddr 0) := rfl
theorem fd_La_poke_2 : am_fd mt_La_poke.1 2 = (.iload_n 2,1,2,0,0,0,.retAddr 0) := rfl
theorem fd_La_poke_3 : am_fd mt_La_poke.1 3 = (.iload_n 3,1,3,0,0,0,.retAddr 0) := rfl
theorem fd_La_poke_4 : am_fd mt_La_poke.1 4 = (.invokevirtual 67,3,118,4,1,0,.retAddr 0) := rfl
theorem fd_La_poke_7 : am_fd mt_La_poke.1 7 = (.goto 15,3,22,0,0,0,.retAddr 0) := rfl
theorem fd_La_poke_10 : am_fd mt_La_poke.1 10 = (.astore 4,2,4,0,0,0,.retAddr 0) := rfl
theorem fd_La_poke_12 : am_fd mt_La_poke.1 12 = (.iconst 1,1,0,0,0,0,.int 1) := rfl
theorem fd_La_poke_13 : am_fd mt_La_poke.1 13 = (.ireturn,1,0,0,0,0,.retAddr 0) := rfl
theorem fd_La_poke_14 : am_fd mt_La_poke.1 14 = (.astore 4,2,4,0,0,0,.retAddr 0) := rfl
theorem fd_La_poke_16 : am_fd mt_La_poke.1 16 = (.iconst 2,1,0,0,0,0,.int 2) := rfl
theorem fd_La_poke_17 : am_fd mt_La_poke.1 17 = (.ireturn,1,0,0,0,0,.retAddr 0) := rfl
theorem fd_La_poke_18 : am_fd mt_La_poke.1 18 = (.astore 4,2,4,0,0,0,.retAddr 0) := rfl
theorem fd_La_poke_20 : am_fd mt_La_poke.1 20 = (.iconst 3,1,0,0,0,0,.int 3) := rfl
theorem fd_La_poke_21 : am_fd mt_La_poke.1 21 = (.ireturn,1,0,0,0,0,.retAddr 0) := rfl
theorem fd_La_poke_22 : am_fd mt_La_poke.1 22 = (.iconst 0,1,0,0,0,0,.int 0) := rfl
theorem fd_La_poke_23 : am_fd mt_La_poke.1 23 = (.ireturn,1,0,0,0,0,.retAddr 0) := rfl
theorem fd_La_cut_0 : am_fd mt_La_cut.1 0 = (.aload_n 0,1,0,0,0,0,.retAddr 0) := rfl
theorem fd_La_cut_1 : am_fd mt_La_cut.1 1 = (.iload_n 1,1,1,0,0,0,.retAddr 0) := rfl
theorem fd_La_cut_2 : am_fd mt_La_cut.1 2 = (.iload_n 2,1,2,0,0,0,.retAddr 0) := rfl
theorem fd_La_cut_3 : am_fd mt_La_cut.1 3 = (.invokevirtual 71,3,120,3,1,0,.retAddr 0) := rfl
theorem fd_La_cut_6 : am_fd mt_La_cut.1 6 = (.goto 6,3,12,0,0,0,.retAddr 0) := rfl
theorem fd_La_cut_9 : am_fd mt_La_cut.1 9 = (.astore_n 3,1,3,0,0,0,.retAddr 0) := rfl
theorem fd_La_cut_10 : am_fd mt_La_cut.1 10 = (.iconst 1,1,0,0,0,0,.int 1) := rfl
theorem fd_La_cut_11 : am_fd mt_La_cut.1 11 = (.ireturn,1,0,0,0,0,.retAddr 0) := rfl
theorem fd_La_cut_12 : am_fd mt_La_cut.1 12 = (.iconst 0,1,0,0,0,0,.int 0) := rfl
theorem fd_La_cut_13 : am_fd mt_La_cut.1 13 = (.ireturn,1,0,0,0,0,.retAddr 0) := rfl
theorem fd_La_open_0 : am_fd mt_La_open.1 0 = (.aload_n 1,1,1,0,0,0,.retAddr 0) := rfl
theorem fd_La_open_1 : am_fd mt_La_open.1 1 = (.iconst 0,1,0,0,0,0,.int 0) := rfl
theorem fd_La_open_2 : am_fd mt_La_open.1 2 = (.aload_n 0,1,0,0,0,0,.retAddr 0) := rfl
theorem fd_La_open_3 : am_fd mt_La_open.1 3 = (.invokevirtual 75,3,121,1,1,0,.retAddr 0) := rfl
theorem fd_La_open_6 : am_fd mt_La_open.1 6 = (.i2l,1,0,0,0,0,.retAddr 0) := rfl
theorem fd_La_open_7 : am_fd mt_La_open.1 7 = (.lastore,1,0,0,0,0,.retAddr 0) := rfl
theorem fd_La_open_8 : am_fd mt_La_open.1 8 = (.goto 6,3,14,0,0,0,.retAddr 0) := rfl
theorem fd_La_open_11 : am_fd mt_La_open.1 11 = (.astore_n 2,1,2,0,0,0,.retAddr 0) := rfl
theorem fd_La_open_12 : am_fd mt_La_open.1 12 = (.iconst 1,1,0,0,0,0,.int 1) := rfl
theorem fd_La_open_13 : am_fd mt_La_open.1 13 = (.ireturn,1,0,0,0,0,.retAddr 0) := rfl
theorem fd_La_open_14 : am_fd mt_La_open.1 14 = (.iconst 0,1,0,0,0,0,.int 0) := rfl
theorem fd_La_open_15 : am_fd mt_La_open.1 15 = (.ireturn,1,0,0,0,0,.retAddr 0) := rfl
theorem fd_La_told_0 : am_fd mt_La_told.1 0 = (.aload_n 2,1,2,0,0,0,.retAddr 0) := rfl
theorem fd_La_told_1 : am_fd mt_La_told.1 1 = (.iconst 0,1,0,0,0,0,.int 0) := rfl
theorem fd_La_told_2 : am_fd mt_La_told.1 2 = (.aload_n 0,1,0,0,0,0,.retAddr 0) := rfl
theorem fd_La_told_3 : am_fd mt_La_told.1 3 = (.iload_n 1,1,1,0,0,0,.retAddr 0) := rfl
theorem fd_La_told_4 : am_fd mt_La_told.1 4 = (.invokevirtual 78,3,129,2,1,0,.retAddr 0) := rfl
theorem fd_La_told_7 : am_fd mt_La_told.1 7 = (.i2l,1,0,0,0,0,.retAddr 0) := rfl
theorem fd_La_told_8 : am_fd mt_La_told.1 8 = (.lastore,1,0,0,0,0,.retAddr 0) := rfl
theorem fd_La_told_9 : am_fd mt_La_told.1 9 = (.goto 6,3,15,0,0,0,.retAddr 0) := rfl
theorem fd_La_told_12 : am_fd mt_La_told.1 12 = (.astore_n 3,1,3,0,0,0,.retAddr 0) := rfl
theorem fd_La_told_13 : am_fd mt_La_told.1 13 = (.iconst 1,1,0,0,0,0,.int 1) := rfl
theorem fd_La_told_14 : am_fd mt_La_told.1 14 = (.ireturn,1,0,0,0,0,.retAddr 0) := rfl
theorem fd_La_told_15 : am_fd mt_La_told.1 15 = (.iconst 0,1,0,0,0,0,.int 0) := rfl
theorem fd_La_told_16 : am_fd mt_La_told.1 16 = (.ireturn,1,0,0,0,0,.retAddr 0) := rfl
theorem fd_La_law_0 : am_fd mt_La_law.1 0 = (.new 8,3,1,0,16,0,.retAddr 0) := rfl
theorem fd_La_law_3 : am_fd mt_La_law.1 3 = (.dup,1,0,0,0,0,.retAddr 0) := rfl
theorem fd_La_law_4 : am_fd mt_La_law.1 4 = (.aload_n 0,1,0,0,0,0,.retAddr 0) := rfl
theorem fd_La_law_5 : am_fd mt_La_law.1 5 = (.iconst 0,1,0,0,0,0,.int 0) := rfl
theorem fd_La_law_6 : am_fd mt_La_law.1 6 = (.invokestatic 81,3,31,2,0,0,.retAddr 0) := rfl
theorem fd_La_law_9 : am_fd mt_La_law.1 9 = (.invokespecial 87,3,0,2,1,0,.retAddr 0) := rfl
theorem fd_La_law_12 : am_fd mt_La_law.1 12 = (.astore_n 1,1,1,0,0,0,.retAddr 0) := rfl
theorem fd_La_law_13 : am_fd mt_La_law.1 13 = (.new 90,3,12,0,51,0,.retAddr 0) := rfl
theorem fd_La_law_16 : am_fd mt_La_law.1 16 = (.dup,1,0,0,0,0,.retAddr 0) := rfl
theorem fd_La_law_17 : am_fd mt_La_law.1 17 = (.aload_n 0,1,0,0,0,0,.retAddr 0) := rfl
theorem fd_La_law_18 : am_fd mt_La_law.1 18 = (.iconst 0,1,0,0,0,0,.int 0) := rfl
theorem fd_La_law_19 : am_fd mt_La_law.1 19 = (.invokestatic 81,3,31,2,0,0,.retAddr 0) := rfl
theorem fd_La_law_22 : am_fd mt_La_law.1 22 = (.invokespecial 92,3,131,2,12,0,.retAddr 0) := rfl
theorem fd_La_law_25 : am_fd mt_La_law.1 25 = (.astore_n 2,1,2,0,0,0,.retAddr 0) := rfl
theorem fd_La_law_26 : am_fd mt_La_law.1 26 = (.iconst 1,1,0,0,0,0,.int 1) := rfl
theorem fd_La_law_27 : am_fd mt_La_law.1 27 = (.newarray .long,2,101,0,0,0,.retAddr 0) := rfl
theorem fd_La_law_29 : am_fd mt_La_law.1 29 = (.astore_n 3,1,3,0,0,0,.retAddr 0) := rfl
theorem fd_La_law_30 : am_fd mt_La_law.1 30 = (.iconst 1,1,0,0,0,0,.int 1) := rfl
theorem fd_La_law_31 : am_fd mt_La_law.1 31 = (.istore 4,2,4,0,0,0,.retAddr 0) := rfl
theorem fd_La_law_33 : am_fd mt_La_law.1 33 = (.iload 4,2,4,0,0,0,.retAddr 0) := rfl
theorem fd_La_law_35 : am_fd mt_La_law.1 35 = (.aload_n 0,1,0,0,0,0,.retAddr 0) := rfl
theorem fd_La_law_36 : am_fd mt_La_law.1 36 = (.arraylength,1,0,0,0,0,.retAddr 0) := rfl
theorem fd_La_law_37 : am_fd mt_La_law.1 37 = (.bipush 7,2,0,0,0,0,.int 7) := rfl
theorem fd_La_law_39 : am_fd mt_La_law.1 39 = (.isub,1,0,0,0,0,.retAddr 0) := rfl
theorem fd_La_law_40 : am_fd mt_La_law.1 40 = (.if_icmp .gt 1136,3,1176,0,0,0,.retAddr 0) := rfl
theorem fd_La_law_43 : am_fd mt_La_law.1 43 = (.aload_n 0,1,0,0,0,0,.retAddr 0) := rfl
theorem fd_La_law_44 : am_fd mt_La_law.1 44 = (.iload 4,2,4,0,0,0,.retAddr 0) := rfl
theorem fd_La_law_46 : am_fd mt_La_law.1 46 = (.iaload,1,0,0,0,0,.retAddr 0) := rfl
theorem fd_La_law_47 : am_fd mt_La_law.1 47 = (.bipush 31,2,0,0,0,0,.int 31) := rfl
theorem fd_La_law_49 : am_fd mt_La_law.1 49 = (.iand,1,0,0,0,0,.retAddr 0) := rfl
theorem fd_La_law_50 : am_fd mt_La_law.1 50 = (.tableswitch 1120 0 20 #[98, 202, 262, 366, 496, 512, 528, 544, 572, 644, 657, 773, 813, 853, 913, 953, 1002, 1015, 1063, 1076, 1092],98,1170,0,0,0,.int 0) := rfl
theorem fd_La_law_148 : am_fd mt_La_law.1 148 = (.aload_n 1,1,1,0,0,0,.retAddr 0) := rfl
theorem fd_La_law_149 : am_fd mt_La_law.1 149 = (.aload_n 0,1,0,0,0,0,.retAddr 0) := rfl
theorem fd_La_law_150 : am_fd mt_La_law.1 150 = (.iload 4,2,4,0,0,0,.retAddr 0) := rfl
theorem fd_La_law_152 : am_fd mt_La_law.1 152 = (.iconst 1,1,0,0,0,0,.int 1) := rfl
theorem fd_La_law_153 : am_fd mt_La_law.1 153 = (.iadd,1,0,0,0,0,.retAddr 0) := rfl
theorem fd_La_law_154 : am_fd mt_La_law.1 154 = (.iaload,1,0,0,0,0,.retAddr 0) := rfl
theorem fd_La_law_155 : am_fd mt_La_law.1 155 = (.i2l,1,0,0,0,0,.retAddr 0) := rfl
theorem fd_La_law_156 : am_fd mt_La_law.1 156 = (.bipush 32,2,0,0,0,0,.int 32) := rfl
theorem fd_La_law_158 : am_fd mt_La_law.1 158 = (.lshl,1,0,0,0,0,.retAddr 0) := rfl
theorem fd_La_law_159 : am_fd mt_La_law.1 159 = (.aload_n 0,1,0,0,0,0,.retAddr 0) := rfl
theorem fd_La_law_160 : am_fd mt_La_law.1 160 = (.iload 4,2,4,0,0,0,.retAddr 0) := rfl
theorem fd_La_law_162 : am_fd mt_La_law.1 162 = (.iconst 2,1,0,0,0,0,.int 2) := rfl
theorem fd_La_law_163 : am_fd mt_La_law.1 163 = (.iadd,1,0,0,0,0,.retAddr 0) := rfl
theorem fd_La_law_164 : am_fd mt_La_law.1 164 = (.iaload,1,0,0,0,0,.retAddr 0) := rfl
theorem fd_La_law_165 : am_fd mt_La_law.1 165 = (.i2l,1,0,0,0,0,.retAddr 0) := rfl
theorem fd_La_law_166 : am_fd mt_La_law.1 166 = (.ldc2_w 93,3,0,0,0,0,.long 4294967295) := rfl
theorem fd_La_law_169 : am_fd mt_La_law.1 169 = (.land,1,0,0,0,0,.retAddr 0) := rfl
theorem fd_La_law_170 : am_fd mt_La_law.1 170 = (.lor,1,0,0,0,0,.retAddr 0) := rfl
theorem fd_La_law_171 : am_fd mt_La_law.1 171 = (.aload_n 0,1,0,0,0,0,.retAddr 0) := rfl
theorem fd_La_law_172 : am_fd mt_La_law.1 172 = (.iload 4,2,4,0,0,0,.retAddr 0) := rfl
theorem fd_La_law_174 : am_fd mt_La_law.1 174 = (.iconst 3,1,0,0,0,0,.int 3) := rfl
theorem fd_La_law_175 : am_fd mt_La_law.1 175 = (.iadd,1,0,0,0,0,.retAddr 0) := rfl
theorem fd_La_law_176 : am_fd mt_La_law.1 176 = (.iaload,1,0,0,0,0,.retAddr 0) := rfl
theorem fd_La_law_177 : am_fd mt_La_law.1 177 = (.i2l,1,0,0,0,0,.retAddr 0) := rfl
theorem fd_La_law_178 : am_fd mt_La_law.1 178 = (.bipush 32,2,0,0,0,0,.int 32) := rfl
theorem fd_La_law_180 : am_fd mt_La_law.1 180 = (.lshl,1,0,0,0,0,.retAddr 0) := rfl
theorem fd_La_law_181 : am_fd mt_La_law.1 181 = (.aload_n 0,1,0,0,0,0,.retAddr 0) := rfl
theorem fd_La_law_182 : am_fd mt_La_law.1 182 = (.iload 4,2,4,0,0,0,.retAddr 0) := rfl
theorem fd_La_law_184 : am_fd mt_La_law.1 184 = (.iconst 4,1,0,0,0,0,.int 4) := rfl
theorem fd_La_law_185 : am_fd mt_La_law.1 185 = (.iadd,1,0,0,0,0,.retAddr 0) := rfl
theorem fd_La_law_186 : am_fd mt_La_law.1 186 = (.iaload,1,0,0,0,0,.retAddr 0) := rfl
theorem fd_La_law_187 : am_fd mt_La_law.1 187 = (.i2l,1,0,0,0,0,.retAddr 0) := rfl
theorem fd_La_law_188 : am_fd mt_La_law.1 188 = (.ldc2_w 93,3,0,0,0,0,.long 4294967295) := rfl
theorem fd_La_law_191 : am_fd mt_La_law.1 191 = (.land,1,0,0,0,0,.retAddr 0) := rfl
theorem fd_La_law_192 : am_fd mt_La_law.1 192 = (.lor,1,0,0,0,0,.retAddr 0) := rfl
theorem fd_La_law_193 : am_fd mt_La_law.1 193 = (.aload_n 3,1,3,0,0,0,.retAddr 0) := rfl
theorem fd_La_law_194 : am_fd mt_La_law.1 194 = (.invokestatic 95,3,196,4,0,0,.retAddr 0) := rfl
theorem fd_La_law_197 : am_fd mt_La_law.1 197 = (.istore 5,2,5,0,0,0,.retAddr 0) := rfl
theorem fd_La_law_199 : am_fd mt_La_law.1 199 = (.aload_n 2,1,2,0,0,0,.retAddr 0) := rfl
theorem fd_La_law_200 : am_fd mt_La_law.1 200 = (.aload_n 0,1,0,0,0,0,.retAddr 0) := rfl
theorem fd_La_law_201 : am_fd mt_La_law.1 201 = (.iload 4,2,4,0,0,0,.retAddr 0) := rfl
theorem fd_La_law_203 : am_fd mt_La_law.1 203 = (.iconst 1,1,0,0,0,0,.int 1) := rfl
theorem fd_La_law_204 : am_fd mt_La_law.1 204 = (.iadd,1,0,0,0,0,.retAddr 0) := rfl
theorem fd_La_law_205 : am_fd mt_La_law.1 205 = (.iaload,1,0,0,0,0,.retAddr 0) := rfl
theorem fd_La_law_206 : am_fd mt_La_law.1 206 = (.i2l,1,0,0,0,0,.retAddr 0) := rfl
theorem fd_La_law_207 : am_fd mt_La_law.1 207 = (.bipush 32,2,0,0,0,0,.int 32) := rfl
theorem fd_La_law_209 : am_fd mt_La_law.1 209 = (.lshl,1,0,0,0,0,.retAddr 0) := rfl
theorem fd_La_law_210 : am_fd mt_La_law.1 210 = (.aload_n 0,1,0,0,0,0,.retAddr 0) := rfl
theorem fd_La_law_211 : am_fd mt_La_law.1 211 = (.iload 4,2,4,0,0,0,.retAddr 0) := rfl
theorem fd_La_law_213 : am_fd mt_La_law.1 213 = (.iconst 2,1,0,0,0,0,.int 2) := rfl
theorem fd_La_law_214 : am_fd mt_La_law.1 214 = (.iadd,1,0,0,0,0,.retAddr 0) := rfl
theorem fd_La_law_215 : am_fd mt_La_law.1 215 = (.iaload,1,0,0,0,0,.retAddr 0) := rfl
theorem fd_La_law_216 : am_fd mt_La_law.1 216 = (.i2l,1,0,0,0,0,.retAddr 0) := rfl
theorem fd_La_law_217 : am_fd mt_La_law.1 217 = (.ldc2_w 93,3,0,0,0,0,.long 4294967295) := rfl
theorem fd_La_law_220 : am_fd mt_La_law.1 220 = (.land,1,0,0,0,0,.retAddr 0) := rfl
theorem fd_La_law_221 : am_fd mt_La_law.1 221 = (.lor,1,0,0,0,0,.retAddr 0) := rfl
theorem fd_La_law_222 : am_fd mt_La_law.1 222 = (.aload_n 0,1,0,0,0,0,.retAddr 0) := rfl
theorem fd_La_law_223 : am_fd mt_La_law.1 223 = (.iload 4,2,4,0,0,0,.retAddr 0) := rfl
theorem fd_La_law_225 : am_fd mt_La_law.1 225 = (.iconst 3,1,0,0,0,0,.int 3) := rfl
theorem fd_La_law_226 : am_fd mt_La_law.1 226 = (.iadd,1,0,0,0,0,.retAddr 0) := rfl
theorem fd_La_law_227 : am_fd mt_La_law.1 227 = (.iaload,1,0,0,0,0,.retAddr 0) := rfl
theorem fd_La_law_228 : am_fd mt_La_law.1 228 = (.i2l,1,0,0,0,0,.retAddr 0) := rfl
theorem fd_La_law_229 : am_fd mt_La_law.1 229 = (.bipush 32,2,0,0,0,0,.int 32) := rfl
theorem fd_La_law_231 : am_fd mt_La_law.1 231 = (.lshl,1,0,0,0,0,.retAddr 0) := rfl
theorem fd_La_law_232 : am_fd mt_La_law.1 232 = (.aload_n 0,1,0,0,0,0,.retAddr 0) := rfl
theorem fd_La_law_233 : am_fd mt_La_law.1 233 = (.iload 4,2,4,0,0,0,.retAddr 0) := rfl
theorem fd_La_law_235 : am_fd mt_La_law.1 235 = (.iconst 4,1,0,0,0,0,.int 4) := rfl
theorem fd_La_law_236 : am_fd mt_La_law.1 236 = (.iadd,1,0,0,0,0,.retAddr 0) := rfl
theorem fd_La_law_237 : am_fd mt_La_law.1 237 = (.iaload,1,0,0,0,0,.retAddr 0) := rfl
theorem fd_La_law_238 : am_fd mt_La_law.1 238 = (.i2l,1,0,0,0,0,.retAddr 0) := rfl
theorem fd_La_law_239 : am_fd mt_La_law.1 239 = (.ldc2_w 93,3,0,0,0,0,.long 4294967295) := rfl
theorem fd_La_law_242 : am_fd mt_La_law.1 242 = (.land,1,0,0,0,0,.retAddr 0) := rfl
theorem fd_La_law_243 : am_fd mt_La_law.1 243 = (.lor,1,0,0,0,0,.retAddr 0) := rfl
theorem fd_La_law_244 : am_fd mt_La_law.1 244 = (.invokevirtual 98,3,139,3,12,0,.retAddr 0) := rfl
theorem fd_La_law_247 : am_fd mt_La_law.1 247 = (.istore 6,2,6,0,0,0,.retAddr 0) := rfl
theorem fd_La_law_249 : am_fd mt_La_law.1 249 = (.goto 921,3,1170,0,0,0,.retAddr 0) := rfl
theorem fd_La_law_252 : am_fd mt_La_law.1 252 = (.aload_n 1,1,1,0,0,0,.retAddr 0) := rfl
theorem fd_La_law_253 : am_fd mt_La_law.1 253 = (.aload_n 0,1,0,0,0,0,.retAddr 0) := rfl
theorem fd_La_law_254 : am_fd mt_La_law.1 254 = (.iload 4,2,4,0,0,0,.retAddr 0) := rfl
theorem fd_La_law_256 : am_fd mt_La_law.1 256 = (.iconst 1,1,0,0,0,0,.int 1) := rfl
theorem fd_La_law_257 : am_fd mt_La_law.1 257 = (.iadd,1,0,0,0,0,.retAddr 0) := rfl
theorem fd_La_law_258 : am_fd mt_La_law.1 258 = (.iaload,1,0,0,0,0,.retAddr 0) := rfl
theorem fd_La_law_259 : am_fd mt_La_law.1 259 = (.i2l,1,0,0,0,0,.retAddr 0) := rfl
theorem fd_La_law_260 : am_fd mt_La_law.1 260 = (.bipush 32,2,0,0,0,0,.int 32) := rfl
theorem fd_La_law_262 : am_fd mt_La_law.1 262 = (.lshl,1,0,0,0,0,.retAddr 0) := rfl
theorem fd_La_law_263 : am_fd mt_La_law.1 263 = (.aload_n 0,1,0,0,0,0,.retAddr 0) := rfl
theorem fd_La_law_264 : am_fd mt_La_law.1 264 = (.iload 4,2,4,0,0,0,.retAddr 0) := rfl
theorem fd_La_law_266 : am_fd mt_La_law.1 266 = (.iconst 2,1,0,0,0,0,.int 2) := rfl
theorem fd_La_law_267 : am_fd mt_La_law.1 267 = (.iadd,1,0,0,0,0,.retAddr 0) := rfl
theorem fd_La_law_268 : am_fd mt_La_law.1 268 = (.iaload,1,0,0,0,0,.retAddr 0) := rfl
theorem fd_La_law_269 : am_fd mt_La_law.1 269 = (.i2l,1,0,0,0,0,.retAddr 0) := rfl
theorem fd_La_law_270 : am_fd mt_La_law.1 270 = (.ldc2_w 93,3,0,0,0,0,.long 4294967295) := rfl
theorem fd_La_law_273 : am_fd mt_La_law.1 273 = (.land,1,0,0,0,0,.retAddr 0) := rfl
theorem fd_La_law_274 : am_fd mt_La_law.1 274 = (.lor,1,0,0,0,0,.retAddr 0) := rfl
theorem fd_La_law_275 : am_fd mt_La_law.1 275 = (.aload_n 3,1,3,0,0,0,.retAddr 0) := rfl
theorem fd_La_law_276 : am_fd mt_La_law.1 276 = (.invokestatic 99,3,197,3,0,0,.retAddr 0) := rfl
theorem fd_La_law_279 : am_fd mt_La_law.1 279 = (.istore 5,2,5,0,0,0,.retAddr 0) := rfl
theorem fd_La_law_281 : am_fd mt_La_law.1 281 = (.aload_n 2,1,2,0,0,0,.retAddr 0) := rfl
theorem fd_La_law_282 : am_fd mt_La_law.1 282 = (.aload_n 0,1,0,0,0,0,.retAddr 0) := rfl
theorem fd_La_law_283 : am_fd mt_La_law.1 283 = (.iload 4,2,4,0,0,0,.retAddr 0) := rfl
theorem fd_La_law_285 : am_fd mt_La_law.1 285 = (.iconst 1,1,0,0,0,0,.int 1) := rfl
theorem fd_La_law_286 : am_fd mt_La_law.1 286 = (.iadd,1,0,0,0,0,.retAddr 0) := rfl
theorem fd_La_law_287 : am_fd mt_La_law.1 287 = (.iaload,1,0,0,0,0,.retAddr 0) := rfl
theorem fd_La_law_288 : am_fd mt_La_law.1 288 = (.i2l,1,0,0,0,0,.retAddr 0) := rfl
theorem fd_La_law_289 : am_fd mt_La_law.1 289 = (.bipush 32,2,0,0,0,0,.int 32) := rfl
theorem fd_La_law_291 : am_fd mt_La_law.1 291 = (.lshl,1,0,0,0,0,.retAddr 0) := rfl
theorem fd_La_law_292 : am_fd mt_La_law.1 292 = (.aload_n 0,1,0,0,0,0,.retAddr 0) := rfl
theorem fd_La_law_293 : am_fd mt_La_law.1 293 = (.iload 4,2,4,0,0,0,.retAddr 0) := rfl
theorem fd_La_law_295 : am_fd mt_La_law.1 295 = (.iconst 2,1,0,0,0,0,.int 2) := rfl
theorem fd_La_law_296 : am_fd mt_La_law.1 296 = (.iadd,1,0,0,0,0,.retAddr 0) := rfl
theorem fd_La_law_297 : am_fd mt_La_law.1 297 = (.iaload,1,0,0,0,0,.retAddr 0) := rfl
theorem fd_La_law_298 : am_fd mt_La_law.1 298 = (.i2l,1,0,0,0,0,.retAddr 0) := rfl
theorem fd_La_law_299 : am_fd mt_La_law.1 299 = (.ldc2_w 93,3,0,0,0,0,.long 4294967295) := rfl
theorem fd_La_law_302 : am_fd mt_La_law.1 302 = (.land,1,0,0,0,0,.retAddr 0) := rfl
theorem fd_La_law_303 : am_fd mt_La_law.1 303 = (.lor,1,0,0,0,0,.retAddr 0) := rfl
theorem fd_La_law_304 : am_fd mt_La_law.1 304 = (.invokevirtual 102,3,144,2,12,0,.retAddr 0) := rfl
theorem fd_La_law_307 : am_fd mt_La_law.1 307 = (.istore 6,2,6,0,0,0,.retAddr 0) := rfl
theorem fd_La_law_309 : am_fd mt_La_law.1 309 = (.goto 861,3,1170,0,0,0,.retAddr 0) := rfl
theorem fd_La_law_312 : am_fd mt_La_law.1 312 = (.aload_n 1,1,1,0,0,0,.retAddr 0) := rfl
theorem fd_La_law_313 : am_fd mt_La_law.1 313 = (.aload_n 0,1,0,0,0,0,.retAddr 0) := rfl
theorem fd_La_law_314 : am_fd mt_La_law.1 314 = (.iload 4,2,4,0,0,0,.retAddr 0) := rfl
theorem fd_La_law_316 : am_fd mt_La_law.1 316 = (.iconst 1,1,0,0,0,0,.int 1) := rfl
theorem fd_La_law_317 : am_fd mt_La_law.1 317 = (.iadd,1,0,0,0,0,.retAddr 0) := rfl
theorem fd_La_law_318 : am_fd mt_La_law.1 318 = (.iaload,1,0,0,0,0,.retAddr 0) := rfl
theorem fd_La_law_319 : am_fd mt_La_law.1 319 = (.i2l,1,0,0,0,0,.retAddr 0) := rfl
theorem fd_La_law_320 : am_fd mt_La_law.1 320 = (.bipush 32,2,0,0,0,0,.int 32) := rfl
theorem fd_La_law_322 : am_fd mt_La_law.1 322 = (.lshl,1,0,0,0,0,.retAddr 0) := rfl
theorem fd_La_law_323 : am_fd mt_La_law.1 323 = (.aload_n 0,1,0,0,0,0,.retAddr 0) := rfl
theorem fd_La_law_324 : am_fd mt_La_law.1 324 = (.iload 4,2,4,0,0,0,.retAddr 0) := rfl
theorem fd_La_law_326 : am_fd mt_La_law.1 326 = (.iconst 2,1,0,0,0,0,.int 2) := rfl
theorem fd_La_law_327 : am_fd mt_La_law.1 327 = (.iadd,1,0,0,0,0,.retAddr 0) := rfl
theorem fd_La_law_328 : am_fd mt_La_law.1 328 = (.iaload,1,0,0,0,0,.retAddr 0) := rfl
theorem fd_La_law_329 : am_fd mt_La_law.1 329 = (.i2l,1,0,0,0,0,.retAddr 0) := rfl
theorem fd_La_law_330 : am_fd mt_La_law.1 330 = (.ldc2_w 93,3,0,0,0,0,.long 4294967295) := rfl
theorem fd_La_law_333 : am_fd mt_La_law.1 333 = (.land,1,0,0,0,0,.retAddr 0) := rfl
theorem fd_La_law_334 : am_fd mt_La_law.1 334 = (.lor,1,0,0,0,0,.retAddr 0) := rfl
theorem fd_La_law_335 : am_fd mt_La_law.1 335 = (.aload_n 0,1,0,0,0,0,.retAddr 0) := rfl
theorem fd_La_law_336 : am_fd mt_La_law.1 336 = (.iload 4,2,4,0,0,0,.retAddr 0) := rfl
theorem fd_La_law_338 : am_fd mt_La_law.1 338 = (.iconst 3,1,0,0,0,0,.int 3) := rfl
theorem fd_La_law_339 : am_fd mt_La_law.1 339 = (.iadd,1,0,0,0,0,.retAddr 0) := rfl
theorem fd_La_law_340 : am_fd mt_La_law.1 340 = (.iaload,1,0,0,0,0,.retAddr 0) := rfl
theorem fd_La_law_341 : am_fd mt_La_law.1 341 = (.i2l,1,0,0,0,0,.retAddr 0) := rfl
theorem fd_La_law_342 : am_fd mt_La_law.1 342 = (.bipush 32,2,0,0,0,0,.int 32) := rfl
theorem fd_La_law_344 : am_fd mt_La_law.1 344 = (.lshl,1,0,0,0,0,.retAddr 0) := rfl
theorem fd_La_law_345 : am_fd mt_La_law.1 345 = (.aload_n 0,1,0,0,0,0,.retAddr 0) := rfl
theorem fd_La_law_346 : am_fd mt_La_law.1 346 = (.iload 4,2,4,0,0,0,.retAddr 0) := rfl
theorem fd_La_law_348 : am_fd mt_La_law.1 348 = (.iconst 4,1,0,0,0,0,.int 4) := rfl
theorem fd_La_law_349 : am_fd mt_La_law.1 349 = (.iadd,1,0,0,0,0,.retAddr 0) := rfl
theorem fd_La_law_350 : am_fd mt_La_law.1 350 = (.iaload,1,0,0,0,0,.retAddr 0) := rfl
theorem fd_La_law_351 : am_fd mt_La_law.1 351 = (.i2l,1,0,0,0,0,.retAddr 0) := rfl
theorem fd_La_law_352 : am_fd mt_La_law.1 352 = (.ldc2_w 93,3,0,0,0,0,.long 4294967295) := rfl
theorem fd_La_law_355 : am_fd mt_La_law.1 355 = (.land,1,0,0,0,0,.retAddr 0) := rfl
theorem fd_La_law_356 : am_fd mt_La_law.1 356 = (.lor,1,0,0,0,0,.retAddr 0) := rfl
theorem fd_La_law_357 : am_fd mt_La_law.1 357 = (.aload_n 3,1,3,0,0,0,.retAddr 0) := rfl
theorem fd_La_law_358 : am_fd mt_La_law.1 358 = (.invokestatic 103,3,198,4,0,0,.retAddr 0) := rfl
theorem fd_La_law_361 : am_fd mt_La_law.1 361 = (.istore 5,2,5,0,0,0,.retAddr 0) := rfl
theorem fd_La_law_363 : am_fd mt_La_law.1 363 = (.aload_n 2,1,2,0,0,0,.retAddr 0) := rfl
theorem fd_La_law_364 : am_fd mt_La_law.1 364 = (.aload_n 0,1,0,0,0,0,.retAddr 0) := rfl
theorem fd_La_law_365 : am_fd mt_La_law.1 365 = (.iload 4,2,4,0,0,0,.retAddr 0) := rfl
theorem fd_La_law_367 : am_fd mt_La_law.1 367 = (.iconst 1,1,0,0,0,0,.int 1) := rfl
theorem fd_La_law_368 : am_fd mt_La_law.1 368 = (.iadd,1,0,0,0,0,.retAddr 0) := rfl
theorem fd_La_law_369 : am_fd mt_La_law.1 369 = (.iaload,1,0,0,0,0,.retAddr 0) := rfl
theorem fd_La_law_370 : am_fd mt_La_law.1 370 = (.i2l,1,0,0,0,0,.retAddr 0) := rfl
theorem fd_La_law_371 : am_fd mt_La_law.1 371 = (.bipush 32,2,0,0,0,0,.int 32) := rfl
theorem fd_La_law_373 : am_fd mt_La_law.1 373 = (.lshl,1,0,0,0,0,.retAddr 0) := rfl
theorem fd_La_law_374 : am_fd mt_La_law.1 374 = (.aload_n 0,1,0,0,0,0,.retAddr 0) := rfl
theorem fd_La_law_375 : am_fd mt_La_law.1 375 = (.iload 4,2,4,0,0,0,.retAddr 0) := rfl
theorem fd_La_law_377 : am_fd mt_La_law.1 377 = (.iconst 2,1,0,0,0,0,.int 2) := rfl
theorem fd_La_law_378 : am_fd mt_La_law.1 378 = (.iadd,1,0,0,0,0,.retAddr 0) := rfl
theorem fd_La_law_379 : am_fd mt_La_law.1 379 = (.iaload,1,0,0,0,0,.retAddr 0) := rfl
theorem fd_La_law_380 : am_fd mt_La_law.1 380 = (.i2l,1,0,0,0,0,.retAddr 0) := rfl
theorem fd_La_law_381 : am_fd mt_La_law.1 381 = (.ldc2_w 93,3,0,0,0,0,.long 4294967295) := rfl
theorem fd_La_law_384 : am_fd mt_La_law.1 384 = (.land,1,0,0,0,0,.retAddr 0) := rfl
theorem fd_La_law_385 : am_fd mt_La_law.1 385 = (.lor,1,0,0,0,0,.retAddr 0) := rfl
theorem fd_La_law_386 : am_fd mt_La_law.1 386 = (.aload_n 0,1,0,0,0,0,.retAddr 0) := rfl
theorem fd_La_law_387 : am_fd mt_La_law.1 387 = (.iload 4,2,4,0,0,0,.retAddr 0) := rfl
theorem fd_La_law_389 : am_fd mt_La_law.1 389 = (.iconst 3,1,0,0,0,0,.int 3) := rfl
theorem fd_La_law_390 : am_fd mt_La_law.1 390 = (.iadd,1,0,0,0,0,.retAddr 0) := rfl
theorem fd_La_law_391 : am_fd mt_La_law.1 391 = (.iaload,1,0,0,0,0,.retAddr 0) := rfl
theorem fd_La_law_392 : am_fd mt_La_law.1 392 = (.i2l,1,0,0,0,0,.retAddr 0) := rfl
theorem fd_La_law_393 : am_fd mt_La_law.1 393 = (.bipush 32,2,0,0,0,0,.int 32) := rfl
theorem fd_La_law_395 : am_fd mt_La_law.1 395 = (.lshl,1,0,0,0,0,.retAddr 0) := rfl
theorem fd_La_law_396 : am_fd mt_La_law.1 396 = (.aload_n 0,1,0,0,0,0,.retAddr 0) := rfl
theorem fd_La_law_397 : am_fd mt_La_law.1 397 = (.iload 4,2,4,0,0,0,.retAddr 0) := rfl
theorem fd_La_law_399 : am_fd mt_La_law.1 399 = (.iconst 4,1,0,0,0,0,.int 4) := rfl
theorem fd_La_law_400 : am_fd mt_La_law.1 400 = (.iadd,1,0,0,0,0,.retAddr 0) := rfl
theorem fd_La_law_401 : am_fd mt_La_law.1 401 = (.iaload,1,0,0,0,0,.retAddr 0) := rfl
theorem fd_La_law_402 : am_fd mt_La_law.1 402 = (.i2l,1,0,0,0,0,.retAddr 0) := rfl
theorem fd_La_law_403 : am_fd mt_La_law.1 403 = (.ldc2_w 93,3,0,0,0,0,.long 4294967295) := rfl
theorem fd_La_law_406 : am_fd mt_La_law.1 406 = (.land,1,0,0,0,0,.retAddr 0) := rfl
theorem fd_La_law_407 : am_fd mt_La_law.1 407 = (.lor,1,0,0,0,0,.retAddr 0) := rfl
theorem fd_La_law_408 : am_fd mt_La_law.1 408 = (.invokevirtual 105,3,145,3,12,0,.retAddr 0) := rfl
theorem fd_La_law_411 : am_fd mt_La_law.1 411 = (.istore 6,2,6,0,0,0,.retAddr 0) := rfl
theorem fd_La_law_413 : am_fd mt_La_law.1 413 = (.goto 757,3,1170,0,0,0,.retAddr 0) := rfl
theorem fd_La_law_416 : am_fd mt_La_law.1 416 = (.aload_n 1,1,1,0,0,0,.retAddr 0) := rfl
theorem fd_La_law_417 : am_fd mt_La_law.1 417 = (.aload_n 0,1,0,0,0,0,.retAddr 0) := rfl
theorem fd_La_law_418 : am_fd mt_La_law.1 418 = (.iload 4,2,4,0,0,0,.retAddr 0) := rfl
theorem fd_La_law_420 : am_fd mt_La_law.1 420 = (.iconst 1,1,0,0,0,0,.int 1) := rfl
theorem fd_La_law_421 : am_fd mt_La_law.1 421 = (.iadd,1,0,0,0,0,.retAddr 0) := rfl
theorem fd_La_law_422 : am_fd mt_La_law.1 422 = (.iaload,1,0,0,0,0,.retAddr 0) := rfl
theorem fd_La_law_423 : am_fd mt_La_law.1 423 = (.aload_n 0,1,0,0,0,0,.retAddr 0) := rfl
theorem fd_La_law_424 : am_fd mt_La_law.1 424 = (.iload 4,2,4,0,0,0,.retAddr 0) := rfl
theorem fd_La_law_426 : am_fd mt_La_law.1 426 = (.iconst 2,1,0,0,0,0,.int 2) := rfl
theorem fd_La_law_427 : am_fd mt_La_law.1 427 = (.iadd,1,0,0,0,0,.retAddr 0) := rfl
theorem fd_La_law_428 : am_fd mt_La_law.1 428 = (.iaload,1,0,0,0,0,.retAddr 0) := rfl
theorem fd_La_law_429 : am_fd mt_La_law.1 429 = (.aload_n 0,1,0,0,0,0,.retAddr 0) := rfl
theorem fd_La_law_430 : am_fd mt_La_law.1 430 = (.iload 4,2,4,0,0,0,.retAddr 0) := rfl
theorem fd_La_law_432 : am_fd mt_La_law.1 432 = (.iconst 3,1,0,0,0,0,.int 3) := rfl
theorem fd_La_law_433 : am_fd mt_La_law.1 433 = (.iadd,1,0,0,0,0,.retAddr 0) := rfl
theorem fd_La_law_434 : am_fd mt_La_law.1 434 = (.iaload,1,0,0,0,0,.retAddr 0) := rfl
theorem fd_La_law_435 : am_fd mt_La_law.1 435 = (.i2l,1,0,0,0,0,.retAddr 0) := rfl
theorem fd_La_law_436 : am_fd mt_La_law.1 436 = (.bipush 32,2,0,0,0,0,.int 32) := rfl
theorem fd_La_law_438 : am_fd mt_La_law.1 438 = (.lshl,1,0,0,0,0,.retAddr 0) := rfl
theorem fd_La_law_439 : am_fd mt_La_law.1 439 = (.aload_n 0,1,0,0,0,0,.retAddr 0) := rfl
theorem fd_La_law_440 : am_fd mt_La_law.1 440 = (.iload 4,2,4,0,0,0,.retAddr 0) := rfl
theorem fd_La_law_442 : am_fd mt_La_law.1 442 = (.iconst 4,1,0,0,0,0,.int 4) := rfl
theorem fd_La_law_443 : am_fd mt_La_law.1 443 = (.iadd,1,0,0,0,0,.retAddr 0) := rfl
theorem fd_La_law_444 : am_fd mt_La_law.1 444 = (.iaload,1,0,0,0,0,.retAddr 0) := rfl
theorem fd_La_law_445 : am_fd mt_La_law.1 445 = (.i2l,1,0,0,0,0,.retAddr 0) := rfl
theorem fd_La_law_446 : am_fd mt_La_law.1 446 = (.ldc2_w 93,3,0,0,0,0,.long 4294967295) := rfl
theorem fd_La_law_449 : am_fd mt_La_law.1 449 = (.land,1,0,0,0,0,.retAddr 0) := rfl
theorem fd_La_law_450 : am_fd mt_La_law.1 450 = (.lor,1,0,0,0,0,.retAddr 0) := rfl
theorem fd_La_law_451 : am_fd mt_La_law.1 451 = (.aload_n 0,1,0,0,0,0,.retAddr 0) := rfl
theorem fd_La_law_452 : am_fd mt_La_law.1 452 = (.iload 4,2,4,0,0,0,.retAddr 0) := rfl
theorem fd_La_law_454 : am_fd mt_La_law.1 454 = (.iconst 5,1,0,0,0,0,.int 5) := rfl
theorem fd_La_law_455 : am_fd mt_La_law.1 455 = (.iadd,1,0,0,0,0,.retAddr 0) := rfl
theorem fd_La_law_456 : am_fd mt_La_law.1 456 = (.iaload,1,0,0,0,0,.retAddr 0) := rfl
theorem fd_La_law_457 : am_fd mt_La_law.1 457 = (.i2l,1,0,0,0,0,.retAddr 0) := rfl
theorem fd_La_law_458 : am_fd mt_La_law.1 458 = (.bipush 32,2,0,0,0,0,.int 32) := rfl
theorem fd_La_law_460 : am_fd mt_La_law.1 460 = (.lshl,1,0,0,0,0,.retAddr 0) := rfl
theorem fd_La_law_461 : am_fd mt_La_law.1 461 = (.aload_n 0,1,0,0,0,0,.retAddr 0) := rfl
theorem fd_La_law_462 : am_fd mt_La_law.1 462 = (.iload 4,2,4,0,0,0,.retAddr 0) := rfl
theorem fd_La_law_464 : am_fd mt_La_law.1 464 = (.bipush 6,2,0,0,0,0,.int 6) := rfl
theorem fd_La_law_466 : am_fd mt_La_law.1 466 = (.iadd,1,0,0,0,0,.retAddr 0) := rfl
theorem fd_La_law_467 : am_fd mt_La_law.1 467 = (.iaload,1,0,0,0,0,.retAddr 0) := rfl
theorem fd_La_law_468 : am_fd mt_La_law.1 468 = (.i2l,1,0,0,0,0,.retAddr 0) := rfl
theorem fd_La_law_469 : am_fd mt_La_law.1 469 = (.ldc2_w 93,3,0,0,0,0,.long 4294967295) := rfl
theorem fd_La_law_472 : am_fd mt_La_law.1 472 = (.land,1,0,0,0,0,.retAddr 0) := rfl
theorem fd_La_law_473 : am_fd mt_La_law.1 473 = (.lor,1,0,0,0,0,.retAddr 0) := rfl
theorem fd_La_law_474 : am_fd mt_La_law.1 474 = (.aload_n 3,1,3,0,0,0,.retAddr 0) := rfl
theorem fd_La_law_475 : am_fd mt_La_law.1 475 = (.invokestatic 106,3,199,6,0,0,.retAddr 0) := rfl
theorem fd_La_law_478 : am_fd mt_La_law.1 478 = (.istore 5,2,5,0,0,0,.retAddr 0) := rfl
theorem fd_La_law_480 : am_fd mt_La_law.1 480 = (.aload_n 2,1,2,0,0,0,.retAddr 0) := rfl
theorem fd_La_law_481 : am_fd mt_La_law.1 481 = (.aload_n 0,1,0,0,0,0,.retAddr 0) := rfl
theorem fd_La_law_482 : am_fd mt_La_law.1 482 = (.iload 4,2,4,0,0,0,.retAddr 0) := rfl
theorem fd_La_law_484 : am_fd mt_La_law.1 484 = (.iconst 1,1,0,0,0,0,.int 1) := rfl
theorem fd_La_law_485 : am_fd mt_La_law.1 485 = (.iadd,1,0,0,0,0,.retAddr 0) := rfl
theorem fd_La_law_486 : am_fd mt_La_law.1 486 = (.iaload,1,0,0,0,0,.retAddr 0) := rfl
theorem fd_La_law_487 : am_fd mt_La_law.1 487 = (.aload_n 0,1,0,0,0,0,.retAddr 0) := rfl
theorem fd_La_law_488 : am_fd mt_La_law.1 488 = (.iload 4,2,4,0,0,0,.retAddr 0) := rfl
theorem fd_La_law_490 : am_fd mt_La_law.1 490 = (.iconst 2,1,0,0,0,0,.int 2) := rfl
theorem fd_La_law_491 : am_fd mt_La_law.1 491 = (.iadd,1,0,0,0,0,.retAddr 0) := rfl
theorem fd_La_law_492 : am_fd mt_La_law.1 492 = (.iaload,1,0,0,0,0,.retAddr 0) := rfl
theorem fd_La_law_493 : am_fd mt_La_law.1 493 = (.aload_n 0,1,0,0,0,0,.retAddr 0) := rfl
theorem fd_La_law_494 : am_fd mt_La_law.1 494 = (.iload 4,2,4,0,0,0,.retAddr 0) := rfl
theorem fd_La_law_496 : am_fd mt_La_law.1 496 = (.iconst 3,1,0,0,0,0,.int 3) := rfl
theorem fd_La_law_497 : am_fd mt_La_law.1 497 = (.iadd,1,0,0,0,0,.retAddr 0) := rfl
theorem fd_La_law_498 : am_fd mt_La_law.1 498 = (.iaload,1,0,0,0,0,.retAddr 0) := rfl
theorem fd_La_law_499 : am_fd mt_La_law.1 499 = (.i2l,1,0,0,0,0,.retAddr 0) := rfl
theorem fd_La_law_500 : am_fd mt_La_law.1 500 = (.bipush 32,2,0,0,0,0,.int 32) := rfl
theorem fd_La_law_502 : am_fd mt_La_law.1 502 = (.lshl,1,0,0,0,0,.retAddr 0) := rfl
theorem fd_La_law_503 : am_fd mt_La_law.1 503 = (.aload_n 0,1,0,0,0,0,.retAddr 0) := rfl
theorem fd_La_law_504 : am_fd mt_La_law.1 504 = (.iload 4,2,4,0,0,0,.retAddr 0) := rfl
theorem fd_La_law_506 : am_fd mt_La_law.1 506 = (.iconst 4,1,0,0,0,0,.int 4) := rfl
theorem fd_La_law_507 : am_fd mt_La_law.1 507 = (.iadd,1,0,0,0,0,.retAddr 0) := rfl
theorem fd_La_law_508 : am_fd mt_La_law.1 508 = (.iaload,1,0,0,0,0,.retAddr 0) := rfl
theorem fd_La_law_509 : am_fd mt_La_law.1 509 = (.i2l,1,0,0,0,0,.retAddr 0) := rfl
theorem fd_La_law_510 : am_fd mt_La_law.1 510 = (.ldc2_w 93,3,0,0,0,0,.long 4294967295) := rfl
theorem fd_La_law_513 : am_fd mt_La_law.1 513 = (.land,1,0,0,0,0,.retAddr 0) := rfl
theorem fd_La_law_514 : am_fd mt_La_law.1 514 = (.lor,1,0,0,0,0,.retAddr 0) := rfl
theorem fd_La_law_515 : am_fd mt_La_law.1 515 = (.aload_n 0,1,0,0,0,0,.retAddr 0) := rfl
theorem fd_La_law_516 : am_fd mt_La_law.1 516 = (.iload 4,2,4,0,0,0,.retAddr 0) := rfl
theorem fd_La_law_518 : am_fd mt_La_law.1 518 = (.iconst 5,1,0,0,0,0,.int 5) := rfl
theorem fd_La_law_519 : am_fd mt_La_law.1 519 = (.iadd,1,0,0,0,0,.retAddr 0) := rfl
theorem fd_La_law_520 : am_fd mt_La_law.1 520 = (.iaload,1,0,0,0,0,.retAddr 0) := rfl
theorem fd_La_law_521 : am_fd mt_La_law.1 521 = (.i2l,1,0,0,0,0,.retAddr 0) := rfl
theorem fd_La_law_522 : am_fd mt_La_law.1 522 = (.bipush 32,2,0,0,0,0,.int 32) := rfl
theorem fd_La_law_524 : am_fd mt_La_law.1 524 = (.lshl,1,0,0,0,0,.retAddr 0) := rfl
theorem fd_La_law_525 : am_fd mt_La_law.1 525 = (.aload_n 0,1,0,0,0,0,.retAddr 0) := rfl
theorem fd_La_law_526 : am_fd mt_La_law.1 526 = (.iload 4,2,4,0,0,0,.retAddr 0) := rfl
theorem fd_La_law_528 : am_fd mt_La_law.1 528 = (.bipush 6,2,0,0,0,0,.int 6) := rfl
theorem fd_La_law_530 : am_fd mt_La_law.1 530 = (.iadd,1,0,0,0,0,.retAddr 0) := rfl
theorem fd_La_law_531 : am_fd mt_La_law.1 531 = (.iaload,1,0,0,0,0,.retAddr 0) := rfl
theorem fd_La_law_532 : am_fd mt_La_law.1 532 = (.i2l,1,0,0,0,0,.retAddr 0) := rfl
theorem fd_La_law_533 : am_fd mt_La_law.1 533 = (.ldc2_w 93,3,0,0,0,0,.long 4294967295) := rfl
theorem fd_La_law_536 : am_fd mt_La_law.1 536 = (.land,1,0,0,0,0,.retAddr 0) := rfl
theorem fd_La_law_537 : am_fd mt_La_law.1 537 = (.lor,1,0,0,0,0,.retAddr 0) := rfl
theorem fd_La_law_538 : am_fd mt_La_law.1 538 = (.invokevirtual 109,3,146,5,12,0,.retAddr 0) := rfl
theorem fd_La_law_541 : am_fd mt_La_law.1 541 = (.istore 6,2,6,0,0,0,.retAddr 0) := rfl
theorem fd_La_law_543 : am_fd mt_La_law.1 543 = (.goto 627,3,1170,0,0,0,.retAddr 0) := rfl
theorem fd_La_law_546 : am_fd mt_La_law.1 546 = (.aload_n 1,1,1,0,0,0,.retAddr 0) := rfl
theorem fd_La_law_547 : am_fd mt_La_law.1 547 = (.aload_n 3,1,3,0,0,0,.retAddr 0) := rfl
theorem fd_La_law_548 : am_fd mt_La_law.1 548 = (.invokestatic 110,3,200,2,0,0,.retAddr 0) := rfl
theorem fd_La_law_551 : am_fd mt_La_law.1 551 = (.istore 5,2,5,0,0,0,.retAddr 0) := rfl
theorem fd_La_law_553 : am_fd mt_La_law.1 553 = (.aload_n 2,1,2,0,0,0,.retAddr 0) := rfl
theorem fd_La_law_554 : am_fd mt_La_law.1 554 = (.invokevirtual 113,3,169,1,12,0,.retAddr 0) := rfl
theorem fd_La_law_557 : am_fd mt_La_law.1 557 = (.istore 6,2,6,0,0,0,.retAddr 0) := rfl
theorem fd_La_law_559 : am_fd mt_La_law.1 559 = (.goto 611,3,1170,0,0,0,.retAddr 0) := rfl
theorem fd_La_law_562 : am_fd mt_La_law.1 562 = (.aload_n 1,1,1,0,0,0,.retAddr 0) := rfl
theorem fd_La_law_563 : am_fd mt_La_law.1 563 = (.aload_n 3,1,3,0,0,0,.retAddr 0) := rfl
theorem fd_La_law_564 : am_fd mt_La_law.1 564 = (.invokestatic 114,3,201,2,0,0,.retAddr 0) := rfl
theorem fd_La_law_567 : am_fd mt_La_law.1 567 = (.istore 5,2,5,0,0,0,.retAddr 0) := rfl
theorem fd_La_law_569 : am_fd mt_La_law.1 569 = (.aload_n 2,1,2,0,0,0,.retAddr 0) := rfl
theorem fd_La_law_570 : am_fd mt_La_law.1 570 = (.invokevirtual 116,3,170,1,12,0,.retAddr 0) := rfl
theorem fd_La_law_573 : am_fd mt_La_law.1 573 = (.istore 6,2,6,0,0,0,.retAddr 0) := rfl
theorem fd_La_law_575 : am_fd mt_La_law.1 575 = (.goto 595,3,1170,0,0,0,.retAddr 0) := rfl
theorem fd_La_law_578 : am_fd mt_La_law.1 578 = (.aload_n 1,1,1,0,0,0,.retAddr 0) := rfl
theorem fd_La_law_579 : am_fd mt_La_law.1 579 = (.aload_n 3,1,3,0,0,0,.retAddr 0) := rfl
theorem fd_La_law_580 : am_fd mt_La_law.1 580 = (.invokestatic 117,3,202,2,0,0,.retAddr 0) := rfl
theorem fd_La_law_583 : am_fd mt_La_law.1 583 = (.istore 5,2,5,0,0,0,.retAddr 0) := rfl
theorem fd_La_law_585 : am_fd mt_La_law.1 585 = (.aload_n 2,1,2,0,0,0,.retAddr 0) := rfl
theorem fd_La_law_586 : am_fd mt_La_law.1 586 = (.invokevirtual 119,3,171,1,12,0,.retAddr 0) := rfl
theorem fd_La_law_589 : am_fd mt_La_law.1 589 = (.istore 6,2,6,0,0,0,.retAddr 0) := rfl
theorem fd_La_law_591 : am_fd mt_La_law.1 591 = (.goto 579,3,1170,0,0,0,.retAddr 0) := rfl
theorem fd_La_law_594 : am_fd mt_La_law.1 594 = (.aload_n 1,1,1,0,0,0,.retAddr 0) := rfl
theorem fd_La_law_595 : am_fd mt_La_law.1 595 = (.aload_n 0,1,0,0,0,0,.retAddr 0) := rfl
theorem fd_La_law_596 : am_fd mt_La_law.1 596 = (.iload 4,2,4,0,0,0,.retAddr 0) := rfl
theorem fd_La_law_598 : am_fd mt_La_law.1 598 = (.iconst 1,1,0,0,0,0,.int 1) := rfl
theorem fd_La_law_599 : am_fd mt_La_law.1 599 = (.iadd,1,0,0,0,0,.retAddr 0) := rfl
theorem fd_La_law_600 : am_fd mt_La_law.1 600 = (.iaload,1,0,0,0,0,.retAddr 0) := rfl
theorem fd_La_law_601 : am_fd mt_La_law.1 601 = (.aload_n 3,1,3,0,0,0,.retAddr 0) := rfl
theorem fd_La_law_602 : am_fd mt_La_law.1 602 = (.invokestatic 120,3,203,3,0,0,.retAddr 0) := rfl
theorem fd_La_law_605 : am_fd mt_La_law.1 605 = (.istore 5,2,5,0,0,0,.retAddr 0) := rfl
theorem fd_La_law_607 : am_fd mt_La_law.1 607 = (.aload_n 2,1,2,0,0,0,.retAddr 0) := rfl
theorem fd_La_law_608 : am_fd mt_La_law.1 608 = (.aload_n 0,1,0,0,0,0,.retAddr 0) := rfl
theorem fd_La_law_609 : am_fd mt_La_law.1 609 = (.iload 4,2,4,0,0,0,.retAddr 0) := rfl
theorem fd_La_law_611 : am_fd mt_La_law.1 611 = (.iconst 1,1,0,0,0,0,.int 1) := rfl
theorem fd_La_law_612 : am_fd mt_La_law.1 612 = (.iadd,1,0,0,0,0,.retAddr 0) := rfl
theorem fd_La_law_613 : am_fd mt_La_law.1 613 = (.iaload,1,0,0,0,0,.retAddr 0) := rfl
theorem fd_La_law_614 : am_fd mt_La_law.1 614 = (.invokevirtual 123,3,172,2,12,0,.retAddr 0) := rfl
theorem fd_La_law_617 : am_fd mt_La_law.1 617 = (.istore 6,2,6,0,0,0,.retAddr 0) := rfl
theorem fd_La_law_619 : am_fd mt_La_law.1 619 = (.goto 551,3,1170,0,0,0,.retAddr 0) := rfl
theorem fd_La_law_622 : am_fd mt_La_law.1 622 = (.aload_n 1,1,1,0,0,0,.retAddr 0) := rfl
theorem fd_La_law_623 : am_fd mt_La_law.1 623 = (.aload_n 0,1,0,0,0,0,.retAddr 0) := rfl
theorem fd_La_law_624 : am_fd mt_La_law.1 624 = (.iload 4,2,4,0,0,0,.retAddr 0) := rfl
theorem fd_La_law_626 : am_fd mt_La_law.1 626 = (.iconst 1,1,0,0,0,0,.int 1) := rfl
theorem fd_La_law_627 : am_fd mt_La_law.1 627 = (.iadd,1,0,0,0,0,.retAddr 0) := rfl
theorem fd_La_law_628 : am_fd mt_La_law.1 628 = (.iaload,1,0,0,0,0,.retAddr 0) := rfl
theorem fd_La_law_629 : am_fd mt_La_law.1 629 = (.aload_n 0,1,0,0,0,0,.retAddr 0) := rfl
theorem fd_La_law_630 : am_fd mt_La_law.1 630 = (.iload 4,2,4,0,0,0,.retAddr 0) := rfl
theorem fd_La_law_632 : am_fd mt_La_law.1 632 = (.iconst 2,1,0,0,0,0,.int 2) := rfl
theorem fd_La_law_633 : am_fd mt_La_law.1 633 = (.iadd,1,0,0,0,0,.retAddr 0) := rfl
theorem fd_La_law_634 : am_fd mt_La_law.1 634 = (.iaload,1,0,0,0,0,.retAddr 0) := rfl
theorem fd_La_law_635 : am_fd mt_La_law.1 635 = (.i2l,1,0,0,0,0,.retAddr 0) := rfl
theorem fd_La_law_636 : am_fd mt_La_law.1 636 = (.bipush 32,2,0,0,0,0,.int 32) := rfl
theorem fd_La_law_638 : am_fd mt_La_law.1 638 = (.lshl,1,0,0,0,0,.retAddr 0) := rfl
theorem fd_La_law_639 : am_fd mt_La_law.1 639 = (.aload_n 0,1,0,0,0,0,.retAddr 0) := rfl
theorem fd_La_law_640 : am_fd mt_La_law.1 640 = (.iload 4,2,4,0,0,0,.retAddr 0) := rfl
theorem fd_La_law_642 : am_fd mt_La_law.1 642 = (.iconst 3,1,0,0,0,0,.int 3) := rfl
theorem fd_La_law_643 : am_fd mt_La_law.1 643 = (.iadd,1,0,0,0,0,.retAddr 0) := rfl
theorem fd_La_law_644 : am_fd mt_La_law.1 644 = (.iaload,1,0,0,0,0,.retAddr 0) := rfl
theorem fd_La_law_645 : am_fd mt_La_law.1 645 = (.i2l,1,0,0,0,0,.retAddr 0) := rfl
theorem fd_La_law_646 : am_fd mt_La_law.1 646 = (.ldc2_w 93,3,0,0,0,0,.long 4294967295) := rfl
theorem fd_La_law_649 : am_fd mt_La_law.1 649 = (.land,1,0,0,0,0,.retAddr 0) := rfl
theorem fd_La_law_650 : am_fd mt_La_law.1 650 = (.lor,1,0,0,0,0,.retAddr 0) := rfl
theorem fd_La_law_651 : am_fd mt_La_law.1 651 = (.aload_n 3,1,3,0,0,0,.retAddr 0) := rfl
theorem fd_La_law_652 : am_fd mt_La_law.1 652 = (.invokestatic 124,3,204,4,0,0,.retAddr 0) := rfl
theorem fd_La_law_655 : am_fd mt_La_law.1 655 = (.istore 5,2,5,0,0,0,.retAddr 0) := rfl
theorem fd_La_law_657 : am_fd mt_La_law.1 657 = (.aload_n 2,1,2,0,0,0,.retAddr 0) := rfl
theorem fd_La_law_658 : am_fd mt_La_law.1 658 = (.aload_n 0,1,0,0,0,0,.retAddr 0) := rfl
theorem fd_La_law_659 : am_fd mt_La_law.1 659 = (.iload 4,2,4,0,0,0,.retAddr 0) := rfl
theorem fd_La_law_661 : am_fd mt_La_law.1 661 = (.iconst 1,1,0,0,0,0,.int 1) := rfl
theorem fd_La_law_662 : am_fd mt_La_law.1 662 = (.iadd,1,0,0,0,0,.retAddr 0) := rfl
theorem fd_La_law_663 : am_fd mt_La_law.1 663 = (.iaload,1,0,0,0,0,.retAddr 0) := rfl
theorem fd_La_law_664 : am_fd mt_La_law.1 664 = (.aload_n 0,1,0,0,0,0,.retAddr 0) := rfl
theorem fd_La_law_665 : am_fd mt_La_law.1 665 = (.iload 4,2,4,0,0,0,.retAddr 0) := rfl
theorem fd_La_law_667 : am_fd mt_La_law.1 667 = (.iconst 2,1,0,0,0,0,.int 2) := rfl
theorem fd_La_law_668 : am_fd mt_La_law.1 668 = (.iadd,1,0,0,0,0,.retAddr 0) := rfl
theorem fd_La_law_669 : am_fd mt_La_law.1 669 = (.iaload,1,0,0,0,0,.retAddr 0) := rfl
theorem fd_La_law_670 : am_fd mt_La_law.1 670 = (.i2l,1,0,0,0,0,.retAddr 0) := rfl
theorem fd_La_law_671 : am_fd mt_La_law.1 671 = (.bipush 32,2,0,0,0,0,.int 32) := rfl
theorem fd_La_law_673 : am_fd mt_La_law.1 673 = (.lshl,1,0,0,0,0,.retAddr 0) := rfl
theorem fd_La_law_674 : am_fd mt_La_law.1 674 = (.aload_n 0,1,0,0,0,0,.retAddr 0) := rfl
theorem fd_La_law_675 : am_fd mt_La_law.1 675 = (.iload 4,2,4,0,0,0,.retAddr 0) := rfl
theorem fd_La_law_677 : am_fd mt_La_law.1 677 = (.iconst 3,1,0,0,0,0,.int 3) := rfl
theorem fd_La_law_678 : am_fd mt_La_law.1 678 = (.iadd,1,0,0,0,0,.retAddr 0) := rfl
theorem fd_La_law_679 : am_fd mt_La_law.1 679 = (.iaload,1,0,0,0,0,.retAddr 0) := rfl
theorem fd_La_law_680 : am_fd mt_La_law.1 680 = (.i2l,1,0,0,0,0,.retAddr 0) := rfl
theorem fd_La_law_681 : am_fd mt_La_law.1 681 = (.ldc2_w 93,3,0,0,0,0,.long 4294967295) := rfl
theorem fd_La_law_684 : am_fd mt_La_law.1 684 = (.land,1,0,0,0,0,.retAddr 0) := rfl
theorem fd_La_law_685 : am_fd mt_La_law.1 685 = (.lor,1,0,0,0,0,.retAddr 0) := rfl
theorem fd_La_law_686 : am_fd mt_La_law.1 686 = (.invokevirtual 127,3,173,3,12,0,.retAddr 0) := rfl
theorem fd_La_law_689 : am_fd mt_La_law.1 689 = (.lstore 6,2,6,0,0,0,.retAddr 0) := rfl
theorem fd_La_law_691 : am_fd mt_La_law.1 691 = (.goto 479,3,1170,0,0,0,.retAddr 0) := rfl
theorem fd_La_law_694 : am_fd mt_La_law.1 694 = (.aload_n 1,1,1,0,0,0,.retAddr 0) := rfl
theorem fd_La_law_695 : am_fd mt_La_law.1 695 = (.invokevirtual 128,3,21,1,1,0,.retAddr 0) := rfl
theorem fd_La_law_698 : am_fd mt_La_law.1 698 = (.pop,1,0,0,0,0,.retAddr 0) := rfl
theorem fd_La_law_699 : am_fd mt_La_law.1 699 = (.aload_n 2,1,2,0,0,0,.retAddr 0) := rfl
theorem fd_La_law_700 : am_fd mt_La_law.1 700 = (.invokevirtual 131,3,178,1,12,0,.retAddr 0) := rfl
theorem fd_La_law_703 : am_fd mt_La_law.1 703 = (.pop,1,0,0,0,0,.retAddr 0) := rfl
theorem fd_La_law_704 : am_fd mt_La_law.1 704 = (.goto 466,3,1170,0,0,0,.retAddr 0) := rfl
theorem fd_La_law_707 : am_fd mt_La_law.1 707 = (.aload_n 1,1,1,0,0,0,.retAddr 0) := rfl
theorem fd_La_law_708 : am_fd mt_La_law.1 708 = (.aload_n 0,1,0,0,0,0,.retAddr 0) := rfl
theorem fd_La_law_709 : am_fd mt_La_law.1 709 = (.iload 4,2,4,0,0,0,.retAddr 0) := rfl
theorem fd_La_law_711 : am_fd mt_La_law.1 711 = (.iconst 1,1,0,0,0,0,.int 1) := rfl
theorem fd_La_law_712 : am_fd mt_La_law.1 712 = (.iadd,1,0,0,0,0,.retAddr 0) := rfl
theorem fd_La_law_713 : am_fd mt_La_law.1 713 = (.iaload,1,0,0,0,0,.retAddr 0) := rfl
theorem fd_La_law_714 : am_fd mt_La_law.1 714 = (.aload_n 0,1,0,0,0,0,.retAddr 0) := rfl
theorem fd_La_law_715 : am_fd mt_La_law.1 715 = (.iload 4,2,4,0,0,0,.retAddr 0) := rfl
theorem fd_La_law_717 : am_fd mt_La_law.1 717 = (.iconst 2,1,0,0,0,0,.int 2) := rfl
theorem fd_La_law_718 : am_fd mt_La_law.1 718 = (.iadd,1,0,0,0,0,.retAddr 0) := rfl
theorem fd_La_law_719 : am_fd mt_La_law.1 719 = (.iaload,1,0,0,0,0,.retAddr 0) := rfl
theorem fd_La_law_720 : am_fd mt_La_law.1 720 = (.i2l,1,0,0,0,0,.retAddr 0) := rfl
theorem fd_La_law_721 : am_fd mt_La_law.1 721 = (.bipush 32,2,0,0,0,0,.int 32) := rfl
theorem fd_La_law_723 : am_fd mt_La_law.1 723 = (.lshl,1,0,0,0,0,.retAddr 0) := rfl
theorem fd_La_law_724 : am_fd mt_La_law.1 724 = (.aload_n 0,1,0,0,0,0,.retAddr 0) := rfl
theorem fd_La_law_725 : am_fd mt_La_law.1 725 = (.iload 4,2,4,0,0,0,.retAddr 0) := rfl
theorem fd_La_law_727 : am_fd mt_La_law.1 727 = (.iconst 3,1,0,0,0,0,.int 3) := rfl
theorem fd_La_law_728 : am_fd mt_La_law.1 728 = (.iadd,1,0,0,0,0,.retAddr 0) := rfl
theorem fd_La_law_729 : am_fd mt_La_law.1 729 = (.iaload,1,0,0,0,0,.retAddr 0) := rfl
theorem fd_La_law_730 : am_fd mt_La_law.1 730 = (.i2l,1,0,0,0,0,.retAddr 0) := rfl
theorem fd_La_law_731 : am_fd mt_La_law.1 731 = (.ldc2_w 93,3,0,0,0,0,.long 4294967295) := rfl
theorem fd_La_law_734 : am_fd mt_La_law.1 734 = (.land,1,0,0,0,0,.retAddr 0) := rfl
theorem fd_La_law_735 : am_fd mt_La_law.1 735 = (.lor,1,0,0,0,0,.retAddr 0) := rfl
theorem fd_La_law_736 : am_fd mt_La_law.1 736 = (.aload_n 0,1,0,0,0,0,.retAddr 0) := rfl
theorem fd_La_law_737 : am_fd mt_La_law.1 737 = (.iload 4,2,4,0,0,0,.retAddr 0) := rfl
theorem fd_La_law_739 : am_fd mt_La_law.1 739 = (.iconst 4,1,0,0,0,0,.int 4) := rfl
theorem fd_La_law_740 : am_fd mt_La_law.1 740 = (.iadd,1,0,0,0,0,.retAddr 0) := rfl
theorem fd_La_law_741 : am_fd mt_La_law.1 741 = (.iaload,1,0,0,0,0,.retAddr 0) := rfl
theorem fd_La_law_742 : am_fd mt_La_law.1 742 = (.i2l,1,0,0,0,0,.retAddr 0) := rfl
theorem fd_La_law_743 : am_fd mt_La_law.1 743 = (.bipush 32,2,0,0,0,0,.int 32) := rfl
theorem fd_La_law_745 : am_fd mt_La_law.1 745 = (.lshl,1,0,0,0,0,.retAddr 0) := rfl
theorem fd_La_law_746 : am_fd mt_La_law.1 746 = (.aload_n 0,1,0,0,0,0,.retAddr 0) := rfl
theorem fd_La_law_747 : am_fd mt_La_law.1 747 = (.iload 4,2,4,0,0,0,.retAddr 0) := rfl
theorem fd_La_law_749 : am_fd mt_La_law.1 749 = (.iconst 5,1,0,0,0,0,.int 5) := rfl
theorem fd_La_law_750 : am_fd mt_La_law.1 750 = (.iadd,1,0,0,0,0,.retAddr 0) := rfl
theorem fd_La_law_751 : am_fd mt_La_law.1 751 = (.iaload,1,0,0,0,0,.retAddr 0) := rfl
theorem fd_La_law_752 : am_fd mt_La_law.1 752 = (.i2l,1,0,0,0,0,.retAddr 0) := rfl
theorem fd_La_law_753 : am_fd mt_La_law.1 753 = (.ldc2_w 93,3,0,0,0,0,.long 4294967295) := rfl
theorem fd_La_law_756 : am_fd mt_La_law.1 756 = (.land,1,0,0,0,0,.retAddr 0) := rfl
theorem fd_La_law_757 : am_fd mt_La_law.1 757 = (.lor,1,0,0,0,0,.retAddr 0) := rfl
theorem fd_La_law_758 : am_fd mt_La_law.1 758 = (.aload_n 3,1,3,0,0,0,.retAddr 0) := rfl
theorem fd_La_law_759 : am_fd mt_La_law.1 759 = (.invokestatic 132,3,205,5,0,0,.retAddr 0) := rfl
theorem fd_La_law_762 : am_fd mt_La_law.1 762 = (.istore 5,2,5,0,0,0,.retAddr 0) := rfl
theorem fd_La_law_764 : am_fd mt_La_law.1 764 = (.aload_n 2,1,2,0,0,0,.retAddr 0) := rfl
theorem fd_La_law_765 : am_fd mt_La_law.1 765 = (.aload_n 0,1,0,0,0,0,.retAddr 0) := rfl
theorem fd_La_law_766 : am_fd mt_La_law.1 766 = (.iload 4,2,4,0,0,0,.retAddr 0) := rfl
theorem fd_La_law_768 : am_fd mt_La_law.1 768 = (.iconst 1,1,0,0,0,0,.int 1) := rfl
theorem fd_La_law_769 : am_fd mt_La_law.1 769 = (.iadd,1,0,0,0,0,.retAddr 0) := rfl
theorem fd_La_law_770 : am_fd mt_La_law.1 770 = (.iaload,1,0,0,0,0,.retAddr 0) := rfl
theorem fd_La_law_771 : am_fd mt_La_law.1 771 = (.aload_n 0,1,0,0,0,0,.retAddr 0) := rfl
theorem fd_La_law_772 : am_fd mt_La_law.1 772 = (.iload 4,2,4,0,0,0,.retAddr 0) := rfl
theorem fd_La_law_774 : am_fd mt_La_law.1 774 = (.iconst 2,1,0,0,0,0,.int 2) := rfl
theorem fd_La_law_775 : am_fd mt_La_law.1 775 = (.iadd,1,0,0,0,0,.retAddr 0) := rfl
theorem fd_La_law_776 : am_fd mt_La_law.1 776 = (.iaload,1,0,0,0,0,.retAddr 0) := rfl
theorem fd_La_law_777 : am_fd mt_La_law.1 777 = (.i2l,1,0,0,0,0,.retAddr 0) := rfl
theorem fd_La_law_778 : am_fd mt_La_law.1 778 = (.bipush 32,2,0,0,0,0,.int 32) := rfl
theorem fd_La_law_780 : am_fd mt_La_law.1 780 = (.lshl,1,0,0,0,0,.retAddr 0) := rfl
theorem fd_La_law_781 : am_fd mt_La_law.1 781 = (.aload_n 0,1,0,0,0,0,.retAddr 0) := rfl
theorem fd_La_law_782 : am_fd mt_La_law.1 782 = (.iload 4,2,4,0,0,0,.retAddr 0) := rfl
theorem fd_La_law_784 : am_fd mt_La_law.1 784 = (.iconst 3,1,0,0,0,0,.int 3) := rfl
theorem fd_La_law_785 : am_fd mt_La_law.1 785 = (.iadd,1,0,0,0,0,.retAddr 0) := rfl
theorem fd_La_law_786 : am_fd mt_La_law.1 786 = (.iaload,1,0,0,0,0,.retAddr 0) := rfl
theorem fd_La_law_787 : am_fd mt_La_law.1 787 = (.i2l,1,0,0,0,0,.retAddr 0) := rfl
theorem fd_La_law_788 : am_fd mt_La_law.1 788 = (.ldc2_w 93,3,0,0,0,0,.long 4294967295) := rfl
theorem fd_La_law_791 : am_fd mt_La_law.1 791 = (.land,1,0,0,0,0,.retAddr 0) := rfl
theorem fd_La_law_792 : am_fd mt_La_law.1 792 = (.lor,1,0,0,0,0,.retAddr 0) := rfl
theorem fd_La_law_793 : am_fd mt_La_law.1 793 = (.aload_n 0,1,0,0,0,0,.retAddr 0) := rfl
theorem fd_La_law_794 : am_fd mt_La_law.1 794 = (.iload 4,2,4,0,0,0,.retAddr 0) := rfl
theorem fd_La_law_796 : am_fd mt_La_law.1 796 = (.iconst 4,1,0,0,0,0,.int 4) := rfl
theorem fd_La_law_797 : am_fd mt_La_law.1 797 = (.iadd,1,0,0,0,0,.retAddr 0) := rfl
theorem fd_La_law_798 : am_fd mt_La_law.1 798 = (.iaload,1,0,0,0,0,.retAddr 0) := rfl
theorem fd_La_law_799 : am_fd mt_La_law.1 799 = (.i2l,1,0,0,0,0,.retAddr 0) := rfl
theorem fd_La_law_800 : am_fd mt_La_law.1 800 = (.bipush 32,2,0,0,0,0,.int 32) := rfl
theorem fd_La_law_802 : am_fd mt_La_law.1 802 = (.lshl,1,0,0,0,0,.retAddr 0) := rfl
theorem fd_La_law_803 : am_fd mt_La_law.1 803 = (.aload_n 0,1,0,0,0,0,.retAddr 0) := rfl
theorem fd_La_law_804 : am_fd mt_La_law.1 804 = (.iload 4,2,4,0,0,0,.retAddr 0) := rfl
theorem fd_La_law_806 : am_fd mt_La_law.1 806 = (.iconst 5,1,0,0,0,0,.int 5) := rfl
theorem fd_La_law_807 : am_fd mt_La_law.1 807 = (.iadd,1,0,0,0,0,.retAddr 0) := rfl
theorem fd_La_law_808 : am_fd mt_La_law.1 808 = (.iaload,1,0,0,0,0,.retAddr 0) := rfl
theorem fd_La_law_809 : am_fd mt_La_law.1 809 = (.i2l,1,0,0,0,0,.retAddr 0) := rfl
theorem fd_La_law_810 : am_fd mt_La_law.1 810 = (.ldc2_w 93,3,0,0,0,0,.long 4294967295) := rfl
theorem fd_La_law_813 : am_fd mt_La_law.1 813 = (.land,1,0,0,0,0,.retAddr 0) := rfl
theorem fd_La_law_814 : am_fd mt_La_law.1 814 = (.lor,1,0,0,0,0,.retAddr 0) := rfl
theorem fd_La_law_815 : am_fd mt_La_law.1 815 = (.invokevirtual 135,3,179,4,12,0,.retAddr 0) := rfl
theorem fd_La_law_818 : am_fd mt_La_law.1 818 = (.istore 6,2,6,0,0,0,.retAddr 0) := rfl
theorem fd_La_law_820 : am_fd mt_La_law.1 820 = (.goto 350,3,1170,0,0,0,.retAddr 0) := rfl
theorem fd_La_law_823 : am_fd mt_La_law.1 823 = (.aload_n 1,1,1,0,0,0,.retAddr 0) := rfl
theorem fd_La_law_824 : am_fd mt_La_law.1 824 = (.aload_n 0,1,0,0,0,0,.retAddr 0) := rfl
theorem fd_La_law_825 : am_fd mt_La_law.1 825 = (.iload 4,2,4,0,0,0,.retAddr 0) := rfl
theorem fd_La_law_827 : am_fd mt_La_law.1 827 = (.iconst 1,1,0,0,0,0,.int 1) := rfl
theorem fd_La_law_828 : am_fd mt_La_law.1 828 = (.iadd,1,0,0,0,0,.retAddr 0) := rfl
theorem fd_La_law_829 : am_fd mt_La_law.1 829 = (.iaload,1,0,0,0,0,.retAddr 0) := rfl
theorem fd_La_law_830 : am_fd mt_La_law.1 830 = (.aload_n 0,1,0,0,0,0,.retAddr 0) := rfl
theorem fd_La_law_831 : am_fd mt_La_law.1 831 = (.iload 4,2,4,0,0,0,.retAddr 0) := rfl
theorem fd_La_law_833 : am_fd mt_La_law.1 833 = (.iconst 2,1,0,0,0,0,.int 2) := rfl
theorem fd_La_law_834 : am_fd mt_La_law.1 834 = (.iadd,1,0,0,0,0,.retAddr 0) := rfl
theorem fd_La_law_835 : am_fd mt_La_law.1 835 = (.iaload,1,0,0,0,0,.retAddr 0) := rfl
theorem fd_La_law_836 : am_fd mt_La_law.1 836 = (.aload_n 3,1,3,0,0,0,.retAddr 0) := rfl
theorem fd_La_law_837 : am_fd mt_La_law.1 837 = (.invokestatic 136,3,206,4,0,0,.retAddr 0) := rfl
theorem fd_La_law_840 : am_fd mt_La_law.1 840 = (.istore 5,2,5,0,0,0,.retAddr 0) := rfl
theorem fd_La_law_842 : am_fd mt_La_law.1 842 = (.aload_n 2,1,2,0,0,0,.retAddr 0) := rfl
theorem fd_La_law_843 : am_fd mt_La_law.1 843 = (.aload_n 0,1,0,0,0,0,.retAddr 0) := rfl
theorem fd_La_law_844 : am_fd mt_La_law.1 844 = (.iload 4,2,4,0,0,0,.retAddr 0) := rfl
theorem fd_La_law_846 : am_fd mt_La_law.1 846 = (.iconst 1,1,0,0,0,0,.int 1) := rfl
theorem fd_La_law_847 : am_fd mt_La_law.1 847 = (.iadd,1,0,0,0,0,.retAddr 0) := rfl
theorem fd_La_law_848 : am_fd mt_La_law.1 848 = (.iaload,1,0,0,0,0,.retAddr 0) := rfl
theorem fd_La_law_849 : am_fd mt_La_law.1 849 = (.aload_n 0,1,0,0,0,0,.retAddr 0) := rfl
theorem fd_La_law_850 : am_fd mt_La_law.1 850 = (.iload 4,2,4,0,0,0,.retAddr 0) := rfl
theorem fd_La_law_852 : am_fd mt_La_law.1 852 = (.iconst 2,1,0,0,0,0,.int 2) := rfl
theorem fd_La_law_853 : am_fd mt_La_law.1 853 = (.iadd,1,0,0,0,0,.retAddr 0) := rfl
theorem fd_La_law_854 : am_fd mt_La_law.1 854 = (.iaload,1,0,0,0,0,.retAddr 0) := rfl
theorem fd_La_law_855 : am_fd mt_La_law.1 855 = (.invokevirtual 139,3,180,3,12,0,.retAddr 0) := rfl
theorem fd_La_law_858 : am_fd mt_La_law.1 858 = (.lstore 6,2,6,0,0,0,.retAddr 0) := rfl
theorem fd_La_law_860 : am_fd mt_La_law.1 860 = (.goto 310,3,1170,0,0,0,.retAddr 0) := rfl
theorem fd_La_law_863 : am_fd mt_La_law.1 863 = (.aload_n 1,1,1,0,0,0,.retAddr 0) := rfl
theorem fd_La_law_864 : am_fd mt_La_law.1 864 = (.aload_n 0,1,0,0,0,0,.retAddr 0) := rfl
theorem fd_La_law_865 : am_fd mt_La_law.1 865 = (.iload 4,2,4,0,0,0,.retAddr 0) := rfl
theorem fd_La_law_867 : am_fd mt_La_law.1 867 = (.iconst 1,1,0,0,0,0,.int 1) := rfl
theorem fd_La_law_868 : am_fd mt_La_law.1 868 = (.iadd,1,0,0,0,0,.retAddr 0) := rfl
theorem fd_La_law_869 : am_fd mt_La_law.1 869 = (.iaload,1,0,0,0,0,.retAddr 0) := rfl
theorem fd_La_law_870 : am_fd mt_La_law.1 870 = (.aload_n 0,1,0,0,0,0,.retAddr 0) := rfl
theorem fd_La_law_871 : am_fd mt_La_law.1 871 = (.iload 4,2,4,0,0,0,.retAddr 0) := rfl
theorem fd_La_law_873 : am_fd mt_La_law.1 873 = (.iconst 2,1,0,0,0,0,.int 2) := rfl
theorem fd_La_law_874 : am_fd mt_La_law.1 874 = (.iadd,1,0,0,0,0,.retAddr 0) := rfl
theorem fd_La_law_875 : am_fd mt_La_law.1 875 = (.iaload,1,0,0,0,0,.retAddr 0) := rfl
theorem fd_La_law_876 : am_fd mt_La_law.1 876 = (.aload_n 3,1,3,0,0,0,.retAddr 0) := rfl
theorem fd_La_law_877 : am_fd mt_La_law.1 877 = (.invokestatic 140,3,207,4,0,0,.retAddr 0) := rfl
theorem fd_La_law_880 : am_fd mt_La_law.1 880 = (.istore 5,2,5,0,0,0,.retAddr 0) := rfl
theorem fd_La_law_882 : am_fd mt_La_law.1 882 = (.aload_n 2,1,2,0,0,0,.retAddr 0) := rfl
theorem fd_La_law_883 : am_fd mt_La_law.1 883 = (.aload_n 0,1,0,0,0,0,.retAddr 0) := rfl
theorem fd_La_law_884 : am_fd mt_La_law.1 884 = (.iload 4,2,4,0,0,0,.retAddr 0) := rfl
theorem fd_La_law_886 : am_fd mt_La_law.1 886 = (.iconst 1,1,0,0,0,0,.int 1) := rfl
theorem fd_La_law_887 : am_fd mt_La_law.1 887 = (.iadd,1,0,0,0,0,.retAddr 0) := rfl
theorem fd_La_law_888 : am_fd mt_La_law.1 888 = (.iaload,1,0,0,0,0,.retAddr 0) := rfl
theorem fd_La_law_889 : am_fd mt_La_law.1 889 = (.aload_n 0,1,0,0,0,0,.retAddr 0) := rfl
theorem fd_La_law_890 : am_fd mt_La_law.1 890 = (.iload 4,2,4,0,0,0,.retAddr 0) := rfl
theorem fd_La_law_892 : am_fd mt_La_law.1 892 = (.iconst 2,1,0,0,0,0,.int 2) := rfl
theorem fd_La_law_893 : am_fd mt_La_law.1 893 = (.iadd,1,0,0,0,0,.retAddr 0) := rfl
theorem fd_La_law_894 : am_fd mt_La_law.1 894 = (.iaload,1,0,0,0,0,.retAddr 0) := rfl
theorem fd_La_law_895 : am_fd mt_La_law.1 895 = (.invokevirtual 142,3,181,3,12,0,.retAddr 0) := rfl
theorem fd_La_law_898 : am_fd mt_La_law.1 898 = (.istore 6,2,6,0,0,0,.retAddr 0) := rfl
theorem fd_La_law_900 : am_fd mt_La_law.1 900 = (.goto 270,3,1170,0,0,0,.retAddr 0) := rfl
theorem fd_La_law_903 : am_fd mt_La_law.1 903 = (.aload_n 1,1,1,0,0,0,.retAddr 0) := rfl
theorem fd_La_law_904 : am_fd mt_La_law.1 904 = (.aload_n 0,1,0,0,0,0,.retAddr 0) := rfl
theorem fd_La_law_905 : am_fd mt_La_law.1 905 = (.iload 4,2,4,0,0,0,.retAddr 0) := rfl
theorem fd_La_law_907 : am_fd mt_La_law.1 907 = (.iconst 1,1,0,0,0,0,.int 1) := rfl
theorem fd_La_law_908 : am_fd mt_La_law.1 908 = (.iadd,1,0,0,0,0,.retAddr 0) := rfl
theorem fd_La_law_909 : am_fd mt_La_law.1 909 = (.iaload,1,0,0,0,0,.retAddr 0) := rfl
theorem fd_La_law_910 : am_fd mt_La_law.1 910 = (.i2l,1,0,0,0,0,.retAddr 0) := rfl
theorem fd_La_law_911 : am_fd mt_La_law.1 911 = (.bipush 32,2,0,0,0,0,.int 32) := rfl
theorem fd_La_law_913 : am_fd mt_La_law.1 913 = (.lshl,1,0,0,0,0,.retAddr 0) := rfl
theorem fd_La_law_914 : am_fd mt_La_law.1 914 = (.aload_n 0,1,0,0,0,0,.retAddr 0) := rfl
theorem fd_La_law_915 : am_fd mt_La_law.1 915 = (.iload 4,2,4,0,0,0,.retAddr 0) := rfl
theorem fd_La_law_917 : am_fd mt_La_law.1 917 = (.iconst 2,1,0,0,0,0,.int 2) := rfl
theorem fd_La_law_918 : am_fd mt_La_law.1 918 = (.iadd,1,0,0,0,0,.retAddr 0) := rfl
theorem fd_La_law_919 : am_fd mt_La_law.1 919 = (.iaload,1,0,0,0,0,.retAddr 0) := rfl
theorem fd_La_law_920 : am_fd mt_La_law.1 920 = (.i2l,1,0,0,0,0,.retAddr 0) := rfl
theorem fd_La_law_921 : am_fd mt_La_law.1 921 = (.ldc2_w 93,3,0,0,0,0,.long 4294967295) := rfl
theorem fd_La_law_924 : am_fd mt_La_law.1 924 = (.land,1,0,0,0,0,.retAddr 0) := rfl
theorem fd_La_law_925 : am_fd mt_La_law.1 925 = (.lor,1,0,0,0,0,.retAddr 0) := rfl
theorem fd_La_law_926 : am_fd mt_La_law.1 926 = (.aload_n 3,1,3,0,0,0,.retAddr 0) := rfl
theorem fd_La_law_927 : am_fd mt_La_law.1 927 = (.invokestatic 143,3,208,3,0,0,.retAddr 0) := rfl
theorem fd_La_law_930 : am_fd mt_La_law.1 930 = (.istore 5,2,5,0,0,0,.retAddr 0) := rfl
theorem fd_La_law_932 : am_fd mt_La_law.1 932 = (.aload_n 2,1,2,0,0,0,.retAddr 0) := rfl
theorem fd_La_law_933 : am_fd mt_La_law.1 933 = (.aload_n 0,1,0,0,0,0,.retAddr 0) := rfl
theorem fd_La_law_934 : am_fd mt_La_law.1 934 = (.iload 4,2,4,0,0,0,.retAddr 0) := rfl
theorem fd_La_law_936 : am_fd mt_La_law.1 936 = (.iconst 1,1,0,0,0,0,.int 1) := rfl
theorem fd_La_law_937 : am_fd mt_La_law.1 937 = (.iadd,1,0,0,0,0,.retAddr 0) := rfl
theorem fd_La_law_938 : am_fd mt_La_law.1 938 = (.iaload,1,0,0,0,0,.retAddr 0) := rfl
theorem fd_La_law_939 : am_fd mt_La_law.1 939 = (.i2l,1,0,0,0,0,.retAddr 0) := rfl
theorem fd_La_law_940 : am_fd mt_La_law.1 940 = (.bipush 32,2,0,0,0,0,.int 32) := rfl
theorem fd_La_law_942 : am_fd mt_La_law.1 942 = (.lshl,1,0,0,0,0,.retAddr 0) := rfl
theorem fd_La_law_943 : am_fd mt_La_law.1 943 = (.aload_n 0,1,0,0,0,0,.retAddr 0) := rfl
theorem fd_La_law_944 : am_fd mt_La_law.1 944 = (.iload 4,2,4,0,0,0,.retAddr 0) := rfl
theorem fd_La_law_946 : am_fd mt_La_law.1 946 = (.iconst 2,1,0,0,0,0,.int 2) := rfl
theorem fd_La_law_947 : am_fd mt_La_law.1 947 = (.iadd,1,0,0,0,0,.retAddr 0) := rfl
theorem fd_La_law_948 : am_fd mt_La_law.1 948 = (.iaload,1,0,0,0,0,.retAddr 0) := rfl
theorem fd_La_law_949 : am_fd mt_La_law.1 949 = (.i2l,1,0,0,0,0,.retAddr 0) := rfl
theorem fd_La_law_950 : am_fd mt_La_law.1 950 = (.ldc2_w 93,3,0,0,0,0,.long 4294967295) := rfl
theorem fd_La_law_953 : am_fd mt_La_law.1 953 = (.land,1,0,0,0,0,.retAddr 0) := rfl
theorem fd_La_law_954 : am_fd mt_La_law.1 954 = (.lor,1,0,0,0,0,.retAddr 0) := rfl
theorem fd_La_law_955 : am_fd mt_La_law.1 955 = (.invokevirtual 145,3,182,2,12,0,.retAddr 0) := rfl
theorem fd_La_law_958 : am_fd mt_La_law.1 958 = (.istore 6,2,6,0,0,0,.retAddr 0) := rfl
theorem fd_La_law_960 : am_fd mt_La_law.1 960 = (.goto 210,3,1170,0,0,0,.retAddr 0) := rfl
theorem fd_La_law_963 : am_fd mt_La_law.1 963 = (.aload_n 1,1,1,0,0,0,.retAddr 0) := rfl
theorem fd_La_law_964 : am_fd mt_La_law.1 964 = (.aload_n 0,1,0,0,0,0,.retAddr 0) := rfl
theorem fd_La_law_965 : am_fd mt_La_law.1 965 = (.iload 4,2,4,0,0,0,.retAddr 0) := rfl
theorem fd_La_law_967 : am_fd mt_La_law.1 967 = (.iconst 1,1,0,0,0,0,.int 1) := rfl
theorem fd_La_law_968 : am_fd mt_La_law.1 968 = (.iadd,1,0,0,0,0,.retAddr 0) := rfl
theorem fd_La_law_969 : am_fd mt_La_law.1 969 = (.iaload,1,0,0,0,0,.retAddr 0) := rfl
theorem fd_La_law_970 : am_fd mt_La_law.1 970 = (.aload_n 0,1,0,0,0,0,.retAddr 0) := rfl
theorem fd_La_law_971 : am_fd mt_La_law.1 971 = (.iload 4,2,4,0,0,0,.retAddr 0) := rfl
theorem fd_La_law_973 : am_fd mt_La_law.1 973 = (.iconst 2,1,0,0,0,0,.int 2) := rfl
theorem fd_La_law_974 : am_fd mt_La_law.1 974 = (.iadd,1,0,0,0,0,.retAddr 0) := rfl
theorem fd_La_law_975 : am_fd mt_La_law.1 975 = (.iaload,1,0,0,0,0,.retAddr 0) := rfl
theorem fd_La_law_976 : am_fd mt_La_law.1 976 = (.aload_n 3,1,3,0,0,0,.retAddr 0) := rfl
theorem fd_La_law_977 : am_fd mt_La_law.1 977 = (.invokestatic 146,3,209,4,0,0,.retAddr 0) := rfl
theorem fd_La_law_980 : am_fd mt_La_law.1 980 = (.istore 5,2,5,0,0,0,.retAddr 0) := rfl
theorem fd_La_law_982 : am_fd mt_La_law.1 982 = (.aload_n 2,1,2,0,0,0,.retAddr 0) := rfl
theorem fd_La_law_983 : am_fd mt_La_law.1 983 = (.aload_n 0,1,0,0,0,0,.retAddr 0) := rfl
theorem fd_La_law_984 : am_fd mt_La_law.1 984 = (.iload 4,2,4,0,0,0,.retAddr 0) := rfl
theorem fd_La_law_986 : am_fd mt_La_law.1 986 = (.iconst 1,1,0,0,0,0,.int 1) := rfl
theorem fd_La_law_987 : am_fd mt_La_law.1 987 = (.iadd,1,0,0,0,0,.retAddr 0) := rfl
theorem fd_La_law_988 : am_fd mt_La_law.1 988 = (.iaload,1,0,0,0,0,.retAddr 0) := rfl
theorem fd_La_law_989 : am_fd mt_La_law.1 989 = (.aload_n 0,1,0,0,0,0,.retAddr 0) := rfl
theorem fd_La_law_990 : am_fd mt_La_law.1 990 = (.iload 4,2,4,0,0,0,.retAddr 0) := rfl
theorem fd_La_law_992 : am_fd mt_La_law.1 992 = (.iconst 2,1,0,0,0,0,.int 2) := rfl
theorem fd_La_law_993 : am_fd mt_La_law.1 993 = (.iadd,1,0,0,0,0,.retAddr 0) := rfl
theorem fd_La_law_994 : am_fd mt_La_law.1 994 = (.iaload,1,0,0,0,0,.retAddr 0) := rfl
theorem fd_La_law_995 : am_fd mt_La_law.1 995 = (.invokevirtual 148,3,183,3,12,0,.retAddr 0) := rfl
theorem fd_La_law_998 : am_fd mt_La_law.1 998 = (.istore 6,2,6,0,0,0,.retAddr 0) := rfl
theorem fd_La_law_1000 : am_fd mt_La_law.1 1000 = (.goto 170,3,1170,0,0,0,.retAddr 0) := rfl
theorem fd_La_law_1003 : am_fd mt_La_law.1 1003 = (.aload_n 1,1,1,0,0,0,.retAddr 0) := rfl
theorem fd_La_law_1004 : am_fd mt_La_law.1 1004 = (.aload_n 0,1,0,0,0,0,.retAddr 0) := rfl
theorem fd_La_law_1005 : am_fd mt_La_law.1 1005 = (.iload 4,2,4,0,0,0,.retAddr 0) := rfl
theorem fd_La_law_1007 : am_fd mt_La_law.1 1007 = (.iconst 1,1,0,0,0,0,.int 1) := rfl
theorem fd_La_law_1008 : am_fd mt_La_law.1 1008 = (.iadd,1,0,0,0,0,.retAddr 0) := rfl
theorem fd_La_law_1009 : am_fd mt_La_law.1 1009 = (.iaload,1,0,0,0,0,.retAddr 0) := rfl
theorem fd_La_law_1010 : am_fd mt_La_law.1 1010 = (.aload_n 0,1,0,0,0,0,.retAddr 0) := rfl
theorem fd_La_law_1011 : am_fd mt_La_law.1 1011 = (.iload 4,2,4,0,0,0,.retAddr 0) := rfl
theorem fd_La_law_1013 : am_fd mt_La_law.1 1013 = (.iconst 2,1,0,0,0,0,.int 2) := rfl
theorem fd_La_law_1014 : am_fd mt_La_law.1 1014 = (.iadd,1,0,0,0,0,.retAddr 0) := rfl
theorem fd_La_law_1015 : am_fd mt_La_law.1 1015 = (.iaload,1,0,0,0,0,.retAddr 0) := rfl
theorem fd_La_law_1016 : am_fd mt_La_law.1 1016 = (.aload_n 0,1,0,0,0,0,.retAddr 0) := rfl
theorem fd_La_law_1017 : am_fd mt_La_law.1 1017 = (.iload 4,2,4,0,0,0,.retAddr 0) := rfl
theorem fd_La_law_1019 : am_fd mt_La_law.1 1019 = (.iconst 3,1,0,0,0,0,.int 3) := rfl
theorem fd_La_law_1020 : am_fd mt_La_law.1 1020 = (.iadd,1,0,0,0,0,.retAddr 0) := rfl
theorem fd_La_law_1021 : am_fd mt_La_law.1 1021 = (.iaload,1,0,0,0,0,.retAddr 0) := rfl
theorem fd_La_law_1022 : am_fd mt_La_law.1 1022 = (.invokestatic 149,3,210,4,0,0,.retAddr 0) := rfl
theorem fd_La_law_1025 : am_fd mt_La_law.1 1025 = (.istore 5,2,5,0,0,0,.retAddr 0) := rfl
theorem fd_La_law_1027 : am_fd mt_La_law.1 1027 = (.aload_n 2,1,2,0,0,0,.retAddr 0) := rfl
theorem fd_La_law_1028 : am_fd mt_La_law.1 1028 = (.aload_n 0,1,0,0,0,0,.retAddr 0) := rfl
theorem fd_La_law_1029 : am_fd mt_La_law.1 1029 = (.iload 4,2,4,0,0,0,.retAddr 0) := rfl
theorem fd_La_law_1031 : am_fd mt_La_law.1 1031 = (.iconst 1,1,0,0,0,0,.int 1) := rfl
theorem fd_La_law_1032 : am_fd mt_La_law.1 1032 = (.iadd,1,0,0,0,0,.retAddr 0) := rfl
theorem fd_La_law_1033 : am_fd mt_La_law.1 1033 = (.iaload,1,0,0,0,0,.retAddr 0) := rfl
theorem fd_La_law_1034 : am_fd mt_La_law.1 1034 = (.aload_n 0,1,0,0,0,0,.retAddr 0) := rfl
theorem fd_La_law_1035 : am_fd mt_La_law.1 1035 = (.iload 4,2,4,0,0,0,.retAddr 0) := rfl
theorem fd_La_law_1037 : am_fd mt_La_law.1 1037 = (.iconst 2,1,0,0,0,0,.int 2) := rfl
theorem fd_La_law_1038 : am_fd mt_La_law.1 1038 = (.iadd,1,0,0,0,0,.retAddr 0) := rfl
theorem fd_La_law_1039 : am_fd mt_La_law.1 1039 = (.iaload,1,0,0,0,0,.retAddr 0) := rfl
theorem fd_La_law_1040 : am_fd mt_La_law.1 1040 = (.aload_n 0,1,0,0,0,0,.retAddr 0) := rfl
theorem fd_La_law_1041 : am_fd mt_La_law.1 1041 = (.iload 4,2,4,0,0,0,.retAddr 0) := rfl
theorem fd_La_law_1043 : am_fd mt_La_law.1 1043 = (.iconst 3,1,0,0,0,0,.int 3) := rfl
theorem fd_La_law_1044 : am_fd mt_La_law.1 1044 = (.iadd,1,0,0,0,0,.retAddr 0) := rfl
theorem fd_La_law_1045 : am_fd mt_La_law.1 1045 = (.iaload,1,0,0,0,0,.retAddr 0) := rfl
theorem fd_La_law_1046 : am_fd mt_La_law.1 1046 = (.invokevirtual 152,3,185,4,12,0,.retAddr 0) := rfl
theorem fd_La_law_1049 : am_fd mt_La_law.1 1049 = (.goto 121,3,1170,0,0,0,.retAddr 0) := rfl
theorem fd_La_law_1052 : am_fd mt_La_law.1 1052 = (.aload_n 1,1,1,0,0,0,.retAddr 0) := rfl
theorem fd_La_law_1053 : am_fd mt_La_law.1 1053 = (.invokevirtual 153,3,22,1,1,0,.retAddr 0) := rfl
theorem fd_La_law_1056 : am_fd mt_La_law.1 1056 = (.pop,1,0,0,0,0,.retAddr 0) := rfl
theorem fd_La_law_1057 : am_fd mt_La_law.1 1057 = (.aload_n 2,1,2,0,0,0,.retAddr 0) := rfl
theorem fd_La_law_1058 : am_fd mt_La_law.1 1058 = (.invokevirtual 156,3,186,1,12,0,.retAddr 0) := rfl
theorem fd_La_law_1061 : am_fd mt_La_law.1 1061 = (.pop,1,0,0,0,0,.retAddr 0) := rfl
theorem fd_La_law_1062 : am_fd mt_La_law.1 1062 = (.goto 108,3,1170,0,0,0,.retAddr 0) := rfl
theorem fd_La_law_1065 : am_fd mt_La_law.1 1065 = (.aload_n 1,1,1,0,0,0,.retAddr 0) := rfl
theorem fd_La_law_1066 : am_fd mt_La_law.1 1066 = (.aload_n 0,1,0,0,0,0,.retAddr 0) := rfl
theorem fd_La_law_1067 : am_fd mt_La_law.1 1067 = (.iload 4,2,4,0,0,0,.retAddr 0) := rfl
theorem fd_La_law_1069 : am_fd mt_La_law.1 1069 = (.iconst 1,1,0,0,0,0,.int 1) := rfl
theorem fd_La_law_1070 : am_fd mt_La_law.1 1070 = (.iadd,1,0,0,0,0,.retAddr 0) := rfl
theorem fd_La_law_1071 : am_fd mt_La_law.1 1071 = (.iaload,1,0,0,0,0,.retAddr 0) := rfl
theorem fd_La_law_1072 : am_fd mt_La_law.1 1072 = (.aload_n 0,1,0,0,0,0,.retAddr 0) := rfl
theorem fd_La_law_1073 : am_fd mt_La_law.1 1073 = (.iload 4,2,4,0,0,0,.retAddr 0) := rfl
theorem fd_La_law_1075 : am_fd mt_La_law.1 1075 = (.iconst 2,1,0,0,0,0,.int 2) := rfl
theorem fd_La_law_1076 : am_fd mt_La_law.1 1076 = (.iadd,1,0,0,0,0,.retAddr 0) := rfl
theorem fd_La_law_1077 : am_fd mt_La_law.1 1077 = (.iaload,1,0,0,0,0,.retAddr 0) := rfl
theorem fd_La_law_1078 : am_fd mt_La_law.1 1078 = (.invokestatic 157,3,211,3,0,0,.retAddr 0) := rfl
theorem fd_La_law_1081 : am_fd mt_La_law.1 1081 = (.istore 5,2,5,0,0,0,.retAddr 0) := rfl
theorem fd_La_law_1083 : am_fd mt_La_law.1 1083 = (.aload_n 2,1,2,0,0,0,.retAddr 0) := rfl
theorem fd_La_law_1084 : am_fd mt_La_law.1 1084 = (.aload_n 0,1,0,0,0,0,.retAddr 0) := rfl
theorem fd_La_law_1085 : am_fd mt_La_law.1 1085 = (.iload 4,2,4,0,0,0,.retAddr 0) := rfl
theorem fd_La_law_1087 : am_fd mt_La_law.1 1087 = (.iconst 1,1,0,0,0,0,.int 1) := rfl
theorem fd_La_law_1088 : am_fd mt_La_law.1 1088 = (.iadd,1,0,0,0,0,.retAddr 0) := rfl
theorem fd_La_law_1089 : am_fd mt_La_law.1 1089 = (.iaload,1,0,0,0,0,.retAddr 0) := rfl
theorem fd_La_law_1090 : am_fd mt_La_law.1 1090 = (.aload_n 0,1,0,0,0,0,.retAddr 0) := rfl
theorem fd_La_law_1091 : am_fd mt_La_law.1 1091 = (.iload 4,2,4,0,0,0,.retAddr 0) := rfl
theorem fd_La_law_1093 : am_fd mt_La_law.1 1093 = (.iconst 2,1,0,0,0,0,.int 2) := rfl
theorem fd_La_law_1094 : am_fd mt_La_law.1 1094 = (.iadd,1,0,0,0,0,.retAddr 0) := rfl
theorem fd_La_law_1095 : am_fd mt_La_law.1 1095 = (.iaload,1,0,0,0,0,.retAddr 0) := rfl
theorem fd_La_law_1096 : am_fd mt_La_law.1 1096 = (.invokevirtual 160,3,187,3,12,0,.retAddr 0) := rfl
theorem fd_La_law_1099 : am_fd mt_La_law.1 1099 = (.aload_n 2,1,2,0,0,0,.retAddr 0) := rfl
theorem fd_La_law_1100 : am_fd mt_La_law.1 1100 = (.invokevirtual 161,3,138,1,12,0,.retAddr 0) := rfl
theorem fd_La_law_1103 : am_fd mt_La_law.1 1103 = (.iload 5,2,5,0,0,0,.retAddr 0) := rfl
theorem fd_La_law_1105 : am_fd mt_La_law.1 1105 = (.if_icmp .eq 5,3,1110,0,0,0,.retAddr 0) := rfl
theorem fd_La_law_1108 : am_fd mt_La_law.1 1108 = (.iconst 0,1,0,0,0,0,.int 0) := rfl
theorem fd_La_law_1109 : am_fd mt_La_law.1 1109 = (.ireturn,1,1,0,0,0,.retAddr 0) := rfl
theorem fd_La_law_1110 : am_fd mt_La_law.1 1110 = (.goto 60,3,1170,0,0,0,.retAddr 0) := rfl
theorem fd_La_law_1113 : am_fd mt_La_law.1 1113 = (.aload_n 1,1,1,0,0,0,.retAddr 0) := rfl
theorem fd_La_law_1114 : am_fd mt_La_law.1 1114 = (.invokevirtual 164,3,27,1,1,0,.retAddr 0) := rfl
theorem fd_La_law_1117 : am_fd mt_La_law.1 1117 = (.pop,1,0,0,0,0,.retAddr 0) := rfl
theorem fd_La_law_1118 : am_fd mt_La_law.1 1118 = (.aload_n 2,1,2,0,0,0,.retAddr 0) := rfl
theorem fd_La_law_1119 : am_fd mt_La_law.1 1119 = (.invokevirtual 168,3,188,1,12,0,.retAddr 0) := rfl
theorem fd_La_law_1122 : am_fd mt_La_law.1 1122 = (.pop,1,0,0,0,0,.retAddr 0) := rfl
theorem fd_La_law_1123 : am_fd mt_La_law.1 1123 = (.goto 47,3,1170,0,0,0,.retAddr 0) := rfl
theorem fd_La_law_1126 : am_fd mt_La_law.1 1126 = (.aload_n 1,1,1,0,0,0,.retAddr 0) := rfl
theorem fd_La_law_1127 : am_fd mt_La_law.1 1127 = (.aload_n 3,1,3,0,0,0,.retAddr 0) := rfl
theorem fd_La_law_1128 : am_fd mt_La_law.1 1128 = (.invokestatic 169,3,212,2,0,0,.retAddr 0) := rfl
theorem fd_La_law_1131 : am_fd mt_La_law.1 1131 = (.istore 5,2,5,0,0,0,.retAddr 0) := rfl
theorem fd_La_law_1133 : am_fd mt_La_law.1 1133 = (.aload_n 2,1,2,0,0,0,.retAddr 0) := rfl
theorem fd_La_law_1134 : am_fd mt_La_law.1 1134 = (.invokevirtual 171,3,189,1,12,0,.retAddr 0) := rfl
theorem fd_La_law_1137 : am_fd mt_La_law.1 1137 = (.istore 6,2,6,0,0,0,.retAddr 0) := rfl
theorem fd_La_law_1139 : am_fd mt_La_law.1 1139 = (.goto 31,3,1170,0,0,0,.retAddr 0) := rfl
theorem fd_La_law_1142 : am_fd mt_La_law.1 1142 = (.aload_n 1,1,1,0,0,0,.retAddr 0) := rfl
theorem fd_La_law_1143 : am_fd mt_La_law.1 1143 = (.aload_n 0,1,0,0,0,0,.retAddr 0) := rfl
theorem fd_La_law_1144 : am_fd mt_La_law.1 1144 = (.iload 4,2,4,0,0,0,.retAddr 0) := rfl
theorem fd_La_law_1146 : am_fd mt_La_law.1 1146 = (.iconst 1,1,0,0,0,0,.int 1) := rfl
theorem fd_La_law_1147 : am_fd mt_La_law.1 1147 = (.iadd,1,0,0,0,0,.retAddr 0) := rfl
theorem fd_La_law_1148 : am_fd mt_La_law.1 1148 = (.iaload,1,0,0,0,0,.retAddr 0) := rfl
theorem fd_La_law_1149 : am_fd mt_La_law.1 1149 = (.aload_n 3,1,3,0,0,0,.retAddr 0) := rfl
theorem fd_La_law_1150 : am_fd mt_La_law.1 1150 = (.invokestatic 172,3,213,3,0,0,.retAddr 0) := rfl
theorem fd_La_law_1153 : am_fd mt_La_law.1 1153 = (.istore 5,2,5,0,0,0,.retAddr 0) := rfl
theorem fd_La_law_1155 : am_fd mt_La_law.1 1155 = (.aload_n 2,1,2,0,0,0,.retAddr 0) := rfl
theorem fd_La_law_1156 : am_fd mt_La_law.1 1156 = (.aload_n 0,1,0,0,0,0,.retAddr 0) := rfl
theorem fd_La_law_1157 : am_fd mt_La_law.1 1157 = (.iload 4,2,4,0,0,0,.retAddr 0) := rfl
theorem fd_La_law_1159 : am_fd mt_La_law.1 1159 = (.iconst 1,1,0,0,0,0,.int 1) := rfl
theorem fd_La_law_1160 : am_fd mt_La_law.1 1160 = (.iadd,1,0,0,0,0,.retAddr 0) := rfl
theorem fd_La_law_1161 : am_fd mt_La_law.1 1161 = (.iaload,1,0,0,0,0,.retAddr 0) := rfl
theorem fd_La_law_1162 : am_fd mt_La_law.1 1162 = (.invokevirtual 174,3,195,2,12,0,.retAddr 0) := rfl
theorem fd_La_law_1165 : am_fd mt_La_law.1 1165 = (.istore 6,2,6,0,0,0,.retAddr 0) := rfl
theorem fd_La_law_1167 : am_fd mt_La_law.1 1167 = (.goto 3,3,1170,0,0,0,.retAddr 0) := rfl
theorem fd_La_law_1170 : am_fd mt_La_law.1 1170 = (.iinc 4 7,3,4,0,0,0,.int 7) := rfl
theorem fd_La_law_1173 : am_fd mt_La_law.1 1173 = (.goto (-1140),3,33,0,0,0,.retAddr 0) := rfl
theorem fd_La_law_1176 : am_fd mt_La_law.1 1176 = (.iconst 1,1,0,0,0,0,.int 1) := rfl
theorem fd_La_law_1177 : am_fd mt_La_law.1 1177 = (.ireturn,1,1,0,0,0,.retAddr 0) := rfl
