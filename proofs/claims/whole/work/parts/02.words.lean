theorem in_L : Cond.initialized RL ∈ wall := wl_mem (tb1 0 rfl) rfl
theorem in_6 : Cond.initialized R6 ∈ wall := wl_mem (tb1 1 rfl) rfl
theorem in_4 : Cond.initialized R4 ∈ wall := wl_mem (tb1 2 rfl) rfl
theorem in_2 : Cond.initialized R2 ∈ wall := wl_mem (tb1 3 rfl) rfl
theorem in_0 : Cond.initialized R0 ∈ wall := wl_mem (tb1 4 rfl) rfl
theorem in_7 : Cond.initialized R7 ∈ wall := wl_mem (tb1 5 rfl) rfl
theorem in_5 : Cond.initialized R5 ∈ wall := wl_mem (tb1 6 rfl) rfl
theorem in_1 : Cond.initialized R1 ∈ wall := wl_mem (tb1 7 rfl) rfl
theorem in_3 : Cond.initialized R3 ∈ wall := wl_mem (tb1 8 rfl) rfl
theorem in_M : Cond.initialized "java/lang/Math" ∈ wall := wl_mem (tb1 9 rfl) rfl
theorem in_Y : Cond.initialized "java/lang/System" ∈ wall := wl_mem (tb1 10 rfl) rfl
theorem cl_L_7 : Cond.classLink RL 7 R6 ∈ wall := wl_mem (tb1 11 rfl) rfl
theorem it_6 : Cond.instantiable R6 15 ∈ wall := wl_mem (tb1 12 rfl) rfl
theorem ml_L_9 : Cond.methodLink RL 9 y6_init ∈ wall := wl_mem (tb1 13 rfl) rfl
theorem im_6_init : Cond.instanceMethod y6_init ∈ wall := wl_mem (tb1 14 rfl) rfl
theorem cd_6_init : Cond.code y6_init b6_init 2 none ∈ wall := wl_mem (tb1 15 rfl) rfl
theorem ml_6_1 : Cond.methodLink R6 1 objectInit ∈ wall := wl_mem (tb1 16 rfl) rfl
theorem im_O_init : Cond.instanceMethod objectInit ∈ wall := wl_mem (tb1 17 rfl) rfl
theorem cd_O_init : Cond.code objectInit ⟨#[0xb1]⟩ 1 none ∈ wall := wl_mem (tb1 18 rfl) rfl
theorem cl_6_9 : Cond.classLink R6 9 R5 ∈ wall := wl_mem (tb1 19 rfl) rfl
theorem ao_5 : Cond.arrayOver (.object R5) ∈ lw_tbl := tb1 20 rfl
theorem cl_6_15 : Cond.classLink R6 15 R1 ∈ wall := wl_mem (tb1 21 rfl) rfl
theorem ao_1 : Cond.arrayOver (.object R1) ∈ lw_tbl := tb1 22 rfl
theorem cl_6_21 : Cond.classLink R6 21 R0 ∈ wall := wl_mem (tb1 23 rfl) rfl
theorem ao_0 : Cond.arrayOver (.object R0) ∈ lw_tbl := tb1 24 rfl
theorem cl_6_27 : Cond.classLink R6 27 R3 ∈ wall := wl_mem (tb1 25 rfl) rfl
theorem ao_3 : Cond.arrayOver (.object R3) ∈ lw_tbl := tb1 26 rfl
theorem cl_6_33 : Cond.classLink R6 33 R4 ∈ wall := wl_mem (tb1 27 rfl) rfl
theorem it_4 : Cond.instantiable R4 7 ∈ wall := wl_mem (tb1 28 rfl) rfl
theorem mn_6_35 : Cond.methodLinkNest R6 35 y4_init "DispenseCabinet" ∈ lw_tbl := tb1 29 rfl
theorem im_4_init : Cond.instanceMethod y4_init ∈ wall := wl_mem (tb1 30 rfl) rfl
theorem cd_4_init : Cond.code y4_init b4_init 1 none ∈ wall := wl_mem (tb1 31 rfl) rfl
theorem ml_4_3 : Cond.methodLink R4 3 objectInit ∈ wall := wl_mem (tb1 32 rfl) rfl
theorem fl_4_9 : Cond.fieldLink R4 9 "DispenseCabinet$Step" "kind" "I" ∈ wall := wl_mem (tb1 33 rfl) rfl
theorem fl_6_188 : Cond.fieldLink R6 188 "DispenseCabinet$Step" "kind" "I" ∈ wall := wl_mem (tb1 34 rfl) rfl
theorem fl_4_15 : Cond.fieldLink R4 15 "DispenseCabinet$Step" "bin" "I" ∈ wall := wl_mem (tb1 35 rfl) rfl
theorem fl_6_165 : Cond.fieldLink R6 165 "DispenseCabinet$Step" "bin" "I" ∈ wall := wl_mem (tb1 36 rfl) rfl
theorem fl_4_18 : Cond.fieldLink R4 18 "DispenseCabinet$Step" "order" "I" ∈ wall := wl_mem (tb1 37 rfl) rfl
theorem fl_6_114 : Cond.fieldLink R6 114 "DispenseCabinet$Step" "order" "I" ∈ wall := wl_mem (tb1 38 rfl) rfl
theorem fl_4_21 : Cond.fieldLink R4 21 "DispenseCabinet$Step" "since" "I" ∈ wall := wl_mem (tb1 39 rfl) rfl
theorem fl_6_212 : Cond.fieldLink R6 212 "DispenseCabinet$Step" "since" "I" ∈ wall := wl_mem (tb1 40 rfl) rfl
theorem fl_4_24 : Cond.fieldLink R4 24 "DispenseCabinet$Step" "mustCount" "Z" ∈ wall := wl_mem (tb1 41 rfl) rfl
theorem fl_6_159 : Cond.fieldLink R6 159 "DispenseCabinet$Step" "mustCount" "Z" ∈ wall := wl_mem (tb1 42 rfl) rfl
theorem fl_4_28 : Cond.fieldLink R4 28 "DispenseCabinet$Step" "counted" "Z" ∈ wall := wl_mem (tb1 43 rfl) rfl
theorem fl_6_171 : Cond.fieldLink R6 171 "DispenseCabinet$Step" "counted" "Z" ∈ wall := wl_mem (tb1 44 rfl) rfl
theorem fl_4_31 : Cond.fieldLink R4 31 "DispenseCabinet$Step" "amountTold" "Z" ∈ wall := wl_mem (tb1 45 rfl) rfl
theorem fl_6_209 : Cond.fieldLink R6 209 "DispenseCabinet$Step" "amountTold" "Z" ∈ wall := wl_mem (tb1 46 rfl) rfl
theorem cl_6_40 : Cond.classLink R6 40 R2 ∈ wall := wl_mem (tb1 62 rfl) rfl
theorem it_2 : Cond.instantiable R2 3 ∈ wall := wl_mem (tb1 63 rfl) rfl
theorem mn_6_42 : Cond.methodLinkNest R6 42 y2_init "DispenseCabinet" ∈ lw_tbl := tb1 64 rfl
theorem im_2_init : Cond.instanceMethod y2_init ∈ wall := wl_mem (tb1 65 rfl) rfl
theorem cd_2_init : Cond.code y2_init b2_init 1 none ∈ wall := wl_mem (tb1 66 rfl) rfl
theorem ml_2_3 : Cond.methodLink R2 3 objectInit ∈ wall := wl_mem (tb1 67 rfl) rfl
theorem cl_2_19 : Cond.classLink R2 19 "[[I" ∈ wall := wl_mem (tb1 68 rfl) rfl
theorem ao_A : Cond.arrayOver (.array .int) ∈ lw_tbl := tb1 69 rfl
theorem fl_2_11 : Cond.fieldLink R2 11 "DispenseCabinet$Ledger" "lost" "[Z" ∈ wall := wl_mem (tb1 70 rfl) rfl
theorem fl_6_261 : Cond.fieldLink R6 261 "DispenseCabinet$Ledger" "lost" "[Z" ∈ wall := wl_mem (tb1 71 rfl) rfl
theorem fl_2_15 : Cond.fieldLink R2 15 "DispenseCabinet$Ledger" "size" "I" ∈ wall := wl_mem (tb1 72 rfl) rfl
theorem fl_6_146 : Cond.fieldLink R6 146 "DispenseCabinet$Ledger" "size" "I" ∈ wall := wl_mem (tb1 73 rfl) rfl
theorem fl_2_21 : Cond.fieldLink R2 21 "DispenseCabinet$Ledger" "copies" "[[I" ∈ wall := wl_mem (tb1 74 rfl) rfl
theorem ac_boolean : Cond.arrayClass .boolean ∈ wall := wl_mem (tb1 82 rfl) rfl
theorem ac_int : Cond.arrayClass .int ∈ wall := wl_mem (tb1 83 rfl) rfl
theorem it_0 : Cond.instantiable R0 6 ∈ wall := wl_mem (tb1 84 rfl) rfl
theorem mn_6_76 : Cond.methodLinkNest R6 76 y0_init "DispenseCabinet" ∈ lw_tbl := tb1 85 rfl
theorem im_0_init : Cond.instanceMethod y0_init ∈ wall := wl_mem (tb1 86 rfl) rfl
theorem cd_0_init : Cond.code y0_init b0_init 1 none ∈ wall := wl_mem (tb1 87 rfl) rfl
theorem ml_0_3 : Cond.methodLink R0 3 objectInit ∈ wall := wl_mem (tb1 88 rfl) rfl
theorem fl_0_9 : Cond.fieldLink R0 9 "DispenseCabinet$Bin" "expiries" "[I" ∈ wall := wl_mem (tb1 89 rfl) rfl
theorem fl_6_233 : Cond.fieldLink R6 233 "DispenseCabinet$Bin" "expiries" "[I" ∈ wall := wl_mem (tb1 90 rfl) rfl
theorem fl_0_15 : Cond.fieldLink R0 15 "DispenseCabinet$Bin" "units" "[I" ∈ wall := wl_mem (tb1 91 rfl) rfl
theorem fl_6_236 : Cond.fieldLink R6 236 "DispenseCabinet$Bin" "units" "[I" ∈ wall := wl_mem (tb1 92 rfl) rfl
theorem fl_0_18 : Cond.fieldLink R0 18 "DispenseCabinet$Bin" "item" "I" ∈ wall := wl_mem (tb1 93 rfl) rfl
theorem fl_6_155 : Cond.fieldLink R6 155 "DispenseCabinet$Bin" "item" "I" ∈ wall := wl_mem (tb1 94 rfl) rfl
theorem fl_0_22 : Cond.fieldLink R0 22 "DispenseCabinet$Bin" "lots" "I" ∈ wall := wl_mem (tb1 95 rfl) rfl
theorem fl_6_149 : Cond.fieldLink R6 149 "DispenseCabinet$Bin" "lots" "I" ∈ wall := wl_mem (tb1 96 rfl) rfl
theorem fl_0_25 : Cond.fieldLink R0 25 "DispenseCabinet$Bin" "doubt" "I" ∈ wall := wl_mem (tb1 97 rfl) rfl
theorem fl_6_174 : Cond.fieldLink R6 174 "DispenseCabinet$Bin" "doubt" "I" ∈ wall := wl_mem (tb1 98 rfl) rfl
theorem fl_0_28 : Cond.fieldLink R0 28 "DispenseCabinet$Bin" "counted" "Z" ∈ wall := wl_mem (tb1 99 rfl) rfl
theorem fl_6_229 : Cond.fieldLink R6 229 "DispenseCabinet$Bin" "counted" "Z" ∈ wall := wl_mem (tb1 100 rfl) rfl
theorem fl_6_11 : Cond.fieldLink R6 11 "DispenseCabinet" "users" "[LDispenseCabinet$User;" ∈ wall := wl_mem (tb1 114 rfl) rfl
theorem fl_6_17 : Cond.fieldLink R6 17 "DispenseCabinet" "items" "[LDispenseCabinet$Item;" ∈ wall := wl_mem (tb1 115 rfl) rfl
theorem fl_6_23 : Cond.fieldLink R6 23 "DispenseCabinet" "bins" "[LDispenseCabinet$Bin;" ∈ wall := wl_mem (tb1 116 rfl) rfl
theorem fl_6_29 : Cond.fieldLink R6 29 "DispenseCabinet" "orders" "[LDispenseCabinet$Order;" ∈ wall := wl_mem (tb1 117 rfl) rfl
theorem fl_6_36 : Cond.fieldLink R6 36 "DispenseCabinet" "step" "LDispenseCabinet$Step;" ∈ wall := wl_mem (tb1 118 rfl) rfl
theorem fl_6_43 : Cond.fieldLink R6 43 "DispenseCabinet" "ledger" "LDispenseCabinet$Ledger;" ∈ wall := wl_mem (tb1 119 rfl) rfl
theorem fl_6_47 : Cond.fieldLink R6 47 "DispenseCabinet" "mismatches" "[I" ∈ wall := wl_mem (tb1 120 rfl) rfl
theorem fl_6_51 : Cond.fieldLink R6 51 "DispenseCabinet" "auditedBooks" "[I" ∈ wall := wl_mem (tb1 121 rfl) rfl
theorem fl_6_54 : Cond.fieldLink R6 54 "DispenseCabinet" "time" "I" ∈ wall := wl_mem (tb1 122 rfl) rfl
theorem fl_6_58 : Cond.fieldLink R6 58 "DispenseCabinet" "userIn" "I" ∈ wall := wl_mem (tb1 123 rfl) rfl
theorem fl_6_61 : Cond.fieldLink R6 61 "DispenseCabinet" "acceptedAt" "I" ∈ wall := wl_mem (tb1 124 rfl) rfl
theorem fl_6_64 : Cond.fieldLink R6 64 "DispenseCabinet" "witnessId" "I" ∈ wall := wl_mem (tb1 125 rfl) rfl
theorem fl_6_67 : Cond.fieldLink R6 67 "DispenseCabinet" "witnessUntil" "I" ∈ wall := wl_mem (tb1 126 rfl) rfl
theorem fl_6_70 : Cond.fieldLink R6 70 "DispenseCabinet" "orderCount" "I" ∈ wall := wl_mem (tb1 127 rfl) rfl
theorem fl_6_73 : Cond.fieldLink R6 73 "DispenseCabinet" "mismatchCount" "I" ∈ wall := wl_mem (tb1 128 rfl) rfl
theorem ml_L_13 : Cond.methodLink RL 13 y6_user ∈ wall := wl_mem (tb1 160 rfl) rfl
theorem im_6_user : Cond.instanceMethod y6_user ∈ wall := wl_mem (tb1 161 rfl) rfl
theorem se_6_user : Cond.selects R6 y6_user y6_user ∈ wall := wl_mem (tb1 162 rfl) rfl
theorem cd_6_user : Cond.code y6_user b6_user 4 (some .int) ∈ wall := wl_mem (tb1 163 rfl) rfl
theorem it_5 : Cond.instantiable R5 4 ∈ wall := wl_mem (tb1 164 rfl) rfl
theorem ml_6_77 : Cond.methodLink R6 77 y5_init ∈ wall := wl_mem (tb1 165 rfl) rfl
theorem im_5_init : Cond.instanceMethod y5_init ∈ wall := wl_mem (tb1 166 rfl) rfl
theorem cd_5_init : Cond.code y5_init b5_init 3 none ∈ wall := wl_mem (tb1 167 rfl) rfl
theorem ml_5_1 : Cond.methodLink R5 1 objectInit ∈ wall := wl_mem (tb1 168 rfl) rfl
theorem fl_5_16 : Cond.fieldLink R5 16 "DispenseCabinet$User" "role" "I" ∈ wall := wl_mem (tb1 169 rfl) rfl
theorem fl_6_275 : Cond.fieldLink R6 275 "DispenseCabinet$User" "role" "I" ∈ wall := wl_mem (tb1 170 rfl) rfl
theorem fl_5_19 : Cond.fieldLink R5 19 "DispenseCabinet$User" "code" "I" ∈ wall := wl_mem (tb1 171 rfl) rfl
theorem fl_6_281 : Cond.fieldLink R6 281 "DispenseCabinet$User" "code" "I" ∈ wall := wl_mem (tb1 172 rfl) rfl
theorem fl_5_7 : Cond.fieldLink R5 7 "DispenseCabinet$User" "wrongCodes" "I" ∈ wall := wl_mem (tb1 173 rfl) rfl
theorem fl_6_284 : Cond.fieldLink R6 284 "DispenseCabinet$User" "wrongCodes" "I" ∈ wall := wl_mem (tb1 174 rfl) rfl
theorem fl_5_13 : Cond.fieldLink R5 13 "DispenseCabinet$User" "lockedUntil" "I" ∈ wall := wl_mem (tb1 175 rfl) rfl
theorem fl_6_287 : Cond.fieldLink R6 287 "DispenseCabinet$User" "lockedUntil" "I" ∈ wall := wl_mem (tb1 176 rfl) rfl
theorem ml_L_18 : Cond.methodLink RL 18 y6_item ∈ wall := wl_mem (tb1 186 rfl) rfl
theorem im_6_item : Cond.instanceMethod y6_item ∈ wall := wl_mem (tb1 187 rfl) rfl
theorem se_6_item : Cond.selects R6 y6_item y6_item ∈ wall := wl_mem (tb1 188 rfl) rfl
theorem cd_6_item : Cond.code y6_item b6_item 4 (some .int) ∈ wall := wl_mem (tb1 189 rfl) rfl
theorem it_1 : Cond.instantiable R1 3 ∈ wall := wl_mem (tb1 190 rfl) rfl
theorem ml_6_80 : Cond.methodLink R6 80 y1_init ∈ wall := wl_mem (tb1 191 rfl) rfl
theorem im_1_init : Cond.instanceMethod y1_init ∈ wall := wl_mem (tb1 192 rfl) rfl
theorem cd_1_init : Cond.code y1_init b1_init 3 none ∈ wall := wl_mem (tb1 193 rfl) rfl
theorem ml_1_1 : Cond.methodLink R1 1 objectInit ∈ wall := wl_mem (tb1 194 rfl) rfl
theorem fl_1_13 : Cond.fieldLink R1 13 "DispenseCabinet$Item" "controlled" "Z" ∈ wall := wl_mem (tb1 195 rfl) rfl
theorem fl_6_272 : Cond.fieldLink R6 272 "DispenseCabinet$Item" "controlled" "Z" ∈ wall := wl_mem (tb1 196 rfl) rfl
theorem fl_1_17 : Cond.fieldLink R1 17 "DispenseCabinet$Item" "par" "I" ∈ wall := wl_mem (tb1 197 rfl) rfl
theorem fl_6_305 : Cond.fieldLink R6 305 "DispenseCabinet$Item" "par" "I" ∈ wall := wl_mem (tb1 198 rfl) rfl
theorem fl_1_7 : Cond.fieldLink R1 7 "DispenseCabinet$Item" "givenBack" "I" ∈ wall := wl_mem (tb1 199 rfl) rfl
theorem fl_6_222 : Cond.fieldLink R6 222 "DispenseCabinet$Item" "givenBack" "I" ∈ wall := wl_mem (tb1 200 rfl) rfl
theorem ml_L_23 : Cond.methodLink RL 23 y6_login ∈ wall := wl_mem (tb1 208 rfl) rfl
theorem im_6_login : Cond.instanceMethod y6_login ∈ wall := wl_mem (tb1 209 rfl) rfl
theorem se_6_login : Cond.selects R6 y6_login y6_login ∈ wall := wl_mem (tb1 210 rfl) rfl
theorem cd_6_login : Cond.code y6_login b6_login 4 (some .int) ∈ wall := wl_mem (tb1 211 rfl) rfl
theorem ml_6_83 : Cond.methodLink R6 83 y6_isUser ∈ wall := wl_mem (tb1 212 rfl) rfl
theorem im_6_isUser : Cond.instanceMethod y6_isUser ∈ wall := wl_mem (tb1 214 rfl) rfl
theorem cd_6_isUser : Cond.code y6_isUser b6_isUser 2 (some .boolean) ∈ wall := wl_mem (tb1 215 rfl) rfl
theorem ml_6_87 : Cond.methodLink R6 87 y4_isOpen ∈ wall := wl_mem (tb1 216 rfl) rfl
theorem im_4_isOpen : Cond.instanceMethod y4_isOpen ∈ wall := wl_mem (tb1 217 rfl) rfl
theorem se_4_isOpen : Cond.selects R4 y4_isOpen y4_isOpen ∈ wall := wl_mem (tb1 218 rfl) rfl
theorem cd_4_isOpen : Cond.code y4_isOpen b4_isOpen 1 (some .boolean) ∈ wall := wl_mem (tb1 219 rfl) rfl
theorem ml_6_91 : Cond.methodLink R6 91 y6_tryCode ∈ wall := wl_mem (tb1 220 rfl) rfl
theorem im_6_tryCode : Cond.instanceMethod y6_tryCode ∈ wall := wl_mem (tb1 222 rfl) rfl
theorem cd_6_tryCode : Cond.code y6_tryCode b6_tryCode 3 (some .int) ∈ wall := wl_mem (tb1 223 rfl) rfl
theorem ml_6_278 : Cond.methodLink R6 278 y5_isLocked ∈ wall := wl_mem (tb1 224 rfl) rfl
theorem im_5_isLocked : Cond.instanceMethod y5_isLocked ∈ wall := wl_mem (tb1 225 rfl) rfl
theorem se_5_isLocked : Cond.selects R5 y5_isLocked y5_isLocked ∈ wall := wl_mem (tb1 226 rfl) rfl
theorem cd_5_isLocked : Cond.code y5_isLocked b5_isLocked 2 (some .boolean) ∈ wall := wl_mem (tb1 227 rfl) rfl
theorem ml_6_95 : Cond.methodLink R6 95 y6_sendOut ∈ wall := wl_mem (tb1 228 rfl) rfl
theorem im_6_sendOut : Cond.instanceMethod y6_sendOut ∈ wall := wl_mem (tb1 230 rfl) rfl
theorem cd_6_sendOut : Cond.code y6_sendOut b6_sendOut 1 none ∈ wall := wl_mem (tb1 231 rfl) rfl
theorem ml_6_98 : Cond.methodLink R6 98 y6_accept ∈ wall := wl_mem (tb1 232 rfl) rfl
theorem im_6_accept : Cond.instanceMethod y6_accept ∈ wall := wl_mem (tb1 234 rfl) rfl
theorem cd_6_accept : Cond.code y6_accept b6_accept 1 none ∈ wall := wl_mem (tb1 235 rfl) rfl
theorem ml_L_28 : Cond.methodLink RL 28 y6_logout ∈ wall := wl_mem (tb1 236 rfl) rfl
theorem im_6_logout : Cond.instanceMethod y6_logout ∈ wall := wl_mem (tb1 237 rfl) rfl
theorem se_6_logout : Cond.selects R6 y6_logout y6_logout ∈ wall := wl_mem (tb1 238 rfl) rfl
theorem cd_6_logout : Cond.code y6_logout b6_logout 2 (some .int) ∈ wall := wl_mem (tb1 239 rfl) rfl
theorem ml_L_33 : Cond.methodLink RL 33 y6_witness ∈ wall := wl_mem (tb2 0 rfl) rfl
theorem im_6_witness : Cond.instanceMethod y6_witness ∈ wall := wl_mem (tb2 1 rfl) rfl
theorem se_6_witness : Cond.selects R6 y6_witness y6_witness ∈ wall := wl_mem (tb2 2 rfl) rfl
theorem cd_6_witness : Cond.code y6_witness b6_witness 4 (some .int) ∈ wall := wl_mem (tb2 3 rfl) rfl
theorem ml_L_37 : Cond.methodLink RL 37 y6_tick ∈ wall := wl_mem (tb2 4 rfl) rfl
theorem im_6_tick : Cond.instanceMethod y6_tick ∈ wall := wl_mem (tb2 5 rfl) rfl
theorem se_6_tick : Cond.selects R6 y6_tick y6_tick ∈ wall := wl_mem (tb2 6 rfl) rfl
theorem cd_6_tick : Cond.code y6_tick b6_tick 2 (some .int) ∈ wall := wl_mem (tb2 7 rfl) rfl
theorem ml_L_42 : Cond.methodLink RL 42 y6_order ∈ wall := wl_mem (tb2 8 rfl) rfl
theorem im_6_order : Cond.instanceMethod y6_order ∈ wall := wl_mem (tb2 9 rfl) rfl
theorem se_6_order : Cond.selects R6 y6_order y6_order ∈ wall := wl_mem (tb2 10 rfl) rfl
theorem cd_6_order : Cond.code y6_order b6_order 6 (some .int) ∈ wall := wl_mem (tb2 11 rfl) rfl
theorem ml_6_101 : Cond.methodLink R6 101 y6_isItem ∈ wall := wl_mem (tb2 12 rfl) rfl
theorem im_6_isItem : Cond.instanceMethod y6_isItem ∈ wall := wl_mem (tb2 14 rfl) rfl
theorem cd_6_isItem : Cond.code y6_isItem b6_isItem 2 (some .boolean) ∈ wall := wl_mem (tb2 15 rfl) rfl
theorem kc_6_104 : Cond.constant R6 104 100000 ∈ wall := wl_mem (tb2 16 rfl) rfl
theorem ml_6_105 : Cond.methodLink R6 105 y6_isPharmacistIn ∈ wall := wl_mem (tb2 17 rfl) rfl
theorem im_6_isPharmacistIn : Cond.instanceMethod y6_isPharmacistIn ∈ wall := wl_mem (tb2 19 rfl) rfl
theorem cd_6_isPharmacistIn : Cond.code y6_isPharmacistIn b6_isPharmacistIn 1 (some .boolean) ∈ wall := wl_mem (tb2 20 rfl) rfl
theorem it_3 : Cond.instantiable R3 7 ∈ wall := wl_mem (tb2 21 rfl) rfl
theorem ml_6_108 : Cond.methodLink R6 108 y3_init ∈ wall := wl_mem (tb2 22 rfl) rfl
theorem im_3_init : Cond.instanceMethod y3_init ∈ wall := wl_mem (tb2 23 rfl) rfl
theorem cd_3_init : Cond.code y3_init b3_init 5 none ∈ wall := wl_mem (tb2 24 rfl) rfl
theorem ml_3_1 : Cond.methodLink R3 1 objectInit ∈ wall := wl_mem (tb2 25 rfl) rfl
theorem fl_3_20 : Cond.fieldLink R3 20 "DispenseCabinet$Order" "item" "I" ∈ wall := wl_mem (tb2 26 rfl) rfl
theorem fl_6_139 : Cond.fieldLink R6 139 "DispenseCabinet$Order" "item" "I" ∈ wall := wl_mem (tb2 27 rfl) rfl
theorem fl_3_26 : Cond.fieldLink R3 26 "DispenseCabinet$Order" "gap" "I" ∈ wall := wl_mem (tb2 28 rfl) rfl
theorem fl_3_29 : Cond.fieldLink R3 29 "DispenseCabinet$Order" "end" "I" ∈ wall := wl_mem (tb2 29 rfl) rfl
theorem fl_3_23 : Cond.fieldLink R3 23 "DispenseCabinet$Order" "left" "I" ∈ wall := wl_mem (tb2 30 rfl) rfl
theorem fl_6_123 : Cond.fieldLink R6 123 "DispenseCabinet$Order" "left" "I" ∈ wall := wl_mem (tb2 31 rfl) rfl
theorem fl_3_7 : Cond.fieldLink R3 7 "DispenseCabinet$Order" "cancelled" "Z" ∈ wall := wl_mem (tb2 32 rfl) rfl
theorem fl_6_119 : Cond.fieldLink R6 119 "DispenseCabinet$Order" "cancelled" "Z" ∈ wall := wl_mem (tb2 33 rfl) rfl
theorem fl_3_13 : Cond.fieldLink R3 13 "DispenseCabinet$Order" "taken" "Z" ∈ wall := wl_mem (tb2 34 rfl) rfl
theorem fl_3_16 : Cond.fieldLink R3 16 "DispenseCabinet$Order" "takenAt" "I" ∈ wall := wl_mem (tb2 35 rfl) rfl
theorem ml_L_47 : Cond.methodLink RL 47 y6_cancel ∈ wall := wl_mem (tb2 51 rfl) rfl
theorem im_6_cancel : Cond.instanceMethod y6_cancel ∈ wall := wl_mem (tb2 52 rfl) rfl
theorem se_6_cancel : Cond.selects R6 y6_cancel y6_cancel ∈ wall := wl_mem (tb2 53 rfl) rfl
theorem cd_6_cancel : Cond.code y6_cancel b6_cancel 3 (some .int) ∈ wall := wl_mem (tb2 54 rfl) rfl
theorem ml_6_111 : Cond.methodLink R6 111 y6_isOrder ∈ wall := wl_mem (tb2 55 rfl) rfl
theorem im_6_isOrder : Cond.instanceMethod y6_isOrder ∈ wall := wl_mem (tb2 57 rfl) rfl
theorem cd_6_isOrder : Cond.code y6_isOrder b6_isOrder 2 (some .boolean) ∈ wall := wl_mem (tb2 58 rfl) rfl
theorem ml_6_117 : Cond.methodLink R6 117 y3_isOpen ∈ wall := wl_mem (tb2 59 rfl) rfl
theorem im_3_isOpen : Cond.instanceMethod y3_isOpen ∈ wall := wl_mem (tb2 60 rfl) rfl
theorem se_3_isOpen : Cond.selects R3 y3_isOpen y3_isOpen ∈ wall := wl_mem (tb2 61 rfl) rfl
theorem cd_3_isOpen : Cond.code y3_isOpen b3_isOpen 2 (some .boolean) ∈ wall := wl_mem (tb2 62 rfl) rfl
theorem ml_L_51 : Cond.methodLink RL 51 y6_begin ∈ wall := wl_mem (tb2 63 rfl) rfl
theorem im_6_begin : Cond.instanceMethod y6_begin ∈ wall := wl_mem (tb2 64 rfl) rfl
theorem se_6_begin : Cond.selects R6 y6_begin y6_begin ∈ wall := wl_mem (tb2 65 rfl) rfl
theorem cd_6_begin : Cond.code y6_begin b6_begin 4 (some .int) ∈ wall := wl_mem (tb2 66 rfl) rfl
theorem ml_6_126 : Cond.methodLink R6 126 y6_isTarget ∈ wall := wl_mem (tb2 67 rfl) rfl
theorem im_6_isTarget : Cond.instanceMethod y6_isTarget ∈ wall := wl_mem (tb2 69 rfl) rfl
theorem cd_6_isTarget : Cond.code y6_isTarget b6_isTarget 3 (some .boolean) ∈ wall := wl_mem (tb2 70 rfl) rfl
theorem ml_6_230 : Cond.methodLink R6 230 y6_isBin ∈ wall := wl_mem (tb2 71 rfl) rfl
theorem im_6_isBin : Cond.instanceMethod y6_isBin ∈ wall := wl_mem (tb2 73 rfl) rfl
theorem cd_6_isBin : Cond.code y6_isBin b6_isBin 2 (some .boolean) ∈ wall := wl_mem (tb2 74 rfl) rfl
theorem ml_6_130 : Cond.methodLink R6 130 y6_isHandlerIn ∈ wall := wl_mem (tb2 75 rfl) rfl
theorem im_6_isHandlerIn : Cond.instanceMethod y6_isHandlerIn ∈ wall := wl_mem (tb2 77 rfl) rfl
theorem cd_6_isHandlerIn : Cond.code y6_isHandlerIn b6_isHandlerIn 1 (some .boolean) ∈ wall := wl_mem (tb2 78 rfl) rfl
theorem ml_6_133 : Cond.methodLink R6 133 y6_wantsWitness ∈ wall := wl_mem (tb2 79 rfl) rfl
theorem im_6_wantsWitness : Cond.instanceMethod y6_wantsWitness ∈ wall := wl_mem (tb2 81 rfl) rfl
theorem cd_6_wantsWitness : Cond.code y6_wantsWitness b6_wantsWitness 3 (some .boolean) ∈ wall := wl_mem (tb2 82 rfl) rfl
theorem ml_6_156 : Cond.methodLink R6 156 y6_isControlled ∈ wall := wl_mem (tb2 83 rfl) rfl
theorem im_6_isControlled : Cond.instanceMethod y6_isControlled ∈ wall := wl_mem (tb2 85 rfl) rfl
theorem cd_6_isControlled : Cond.code y6_isControlled b6_isControlled 2 (some .boolean) ∈ wall := wl_mem (tb2 86 rfl) rfl
theorem ml_6_136 : Cond.methodLink R6 136 y3_mayTake ∈ wall := wl_mem (tb2 87 rfl) rfl
theorem im_3_mayTake : Cond.instanceMethod y3_mayTake ∈ wall := wl_mem (tb2 88 rfl) rfl
theorem se_3_mayTake : Cond.selects R3 y3_mayTake y3_mayTake ∈ wall := wl_mem (tb2 89 rfl) rfl
theorem cd_3_mayTake : Cond.code y3_mayTake b3_mayTake 2 (some .boolean) ∈ wall := wl_mem (tb2 90 rfl) rfl
theorem ml_3_32 : Cond.methodLink R3 32 y3_isOpen ∈ wall := wl_mem (tb2 91 rfl) rfl
theorem ml_6_142 : Cond.methodLink R6 142 y6_binToTakeFrom ∈ wall := wl_mem (tb2 92 rfl) rfl
theorem im_6_binToTakeFrom : Cond.instanceMethod y6_binToTakeFrom ∈ wall := wl_mem (tb2 94 rfl) rfl
theorem cd_6_binToTakeFrom : Cond.code y6_binToTakeFrom b6_binToTakeFrom 7 (some .int) ∈ wall := wl_mem (tb2 95 rfl) rfl
theorem ml_6_290 : Cond.methodLink R6 290 y0_firstGiven ∈ wall := wl_mem (tb2 96 rfl) rfl
theorem im_0_firstGiven : Cond.instanceMethod y0_firstGiven ∈ wall := wl_mem (tb2 97 rfl) rfl
theorem se_0_firstGiven : Cond.selects R0 y0_firstGiven y0_firstGiven ∈ wall := wl_mem (tb2 98 rfl) rfl
theorem cd_0_firstGiven : Cond.code y0_firstGiven b0_firstGiven 3 (some .int) ∈ wall := wl_mem (tb2 99 rfl) rfl
theorem ml_6_152 : Cond.methodLink R6 152 y4_open ∈ wall := wl_mem (tb2 100 rfl) rfl
theorem im_4_open : Cond.instanceMethod y4_open ∈ wall := wl_mem (tb2 101 rfl) rfl
theorem se_4_open : Cond.selects R4 y4_open y4_open ∈ wall := wl_mem (tb2 102 rfl) rfl
theorem cd_4_open : Cond.code y4_open b4_open 5 none ∈ wall := wl_mem (tb2 103 rfl) rfl
theorem ml_L_55 : Cond.methodLink RL 55 y6_count ∈ wall := wl_mem (tb2 104 rfl) rfl
theorem im_6_count : Cond.instanceMethod y6_count ∈ wall := wl_mem (tb2 105 rfl) rfl
theorem se_6_count : Cond.selects R6 y6_count y6_count ∈ wall := wl_mem (tb2 106 rfl) rfl
theorem cd_6_count : Cond.code y6_count b6_count 3 (some .int) ∈ wall := wl_mem (tb2 107 rfl) rfl
theorem ml_6_162 : Cond.methodLink R6 162 y4_takesCount ∈ wall := wl_mem (tb2 108 rfl) rfl
theorem im_4_takesCount : Cond.instanceMethod y4_takesCount ∈ wall := wl_mem (tb2 109 rfl) rfl
theorem se_4_takesCount : Cond.selects R4 y4_takesCount y4_takesCount ∈ wall := wl_mem (tb2 110 rfl) rfl
theorem cd_4_takesCount : Cond.code y4_takesCount b4_takesCount 1 (some .boolean) ∈ wall := wl_mem (tb2 111 rfl) rfl
theorem ml_4_34 : Cond.methodLink R4 34 y4_isOpen ∈ wall := wl_mem (tb2 112 rfl) rfl
theorem ml_6_168 : Cond.methodLink R6 168 y0_correctTo ∈ wall := wl_mem (tb2 113 rfl) rfl
theorem im_0_correctTo : Cond.instanceMethod y0_correctTo ∈ wall := wl_mem (tb2 114 rfl) rfl
theorem se_0_correctTo : Cond.selects R0 y0_correctTo y0_correctTo ∈ wall := wl_mem (tb2 115 rfl) rfl
theorem cd_0_correctTo : Cond.code y0_correctTo b0_correctTo 3 none ∈ wall := wl_mem (tb2 116 rfl) rfl
theorem ml_0_48 : Cond.methodLink R0 48 y0_book ∈ wall := wl_mem (tb2 117 rfl) rfl
theorem im_0_book : Cond.instanceMethod y0_book ∈ wall := wl_mem (tb2 118 rfl) rfl
theorem se_0_book : Cond.selects R0 y0_book y0_book ∈ wall := wl_mem (tb2 119 rfl) rfl
theorem cd_0_book : Cond.code y0_book b0_book 1 (some .int) ∈ wall := wl_mem (tb2 120 rfl) rfl
theorem ml_0_32 : Cond.methodLink R0 32 y0_sumFrom ∈ wall := wl_mem (tb2 121 rfl) rfl
theorem im_0_sumFrom : Cond.instanceMethod y0_sumFrom ∈ wall := wl_mem (tb2 123 rfl) rfl
theorem cd_0_sumFrom : Cond.code y0_sumFrom b0_sumFrom 4 (some .int) ∈ wall := wl_mem (tb2 124 rfl) rfl
theorem ml_0_52 : Cond.methodLink R0 52 y0_remove ∈ wall := wl_mem (tb2 125 rfl) rfl
theorem im_0_remove : Cond.instanceMethod y0_remove ∈ wall := wl_mem (tb2 126 rfl) rfl
theorem se_0_remove : Cond.selects R0 y0_remove y0_remove ∈ wall := wl_mem (tb2 127 rfl) rfl
theorem cd_0_remove : Cond.code y0_remove b0_remove 6 none ∈ wall := wl_mem (tb2 128 rfl) rfl
theorem ml_0_39 : Cond.methodLink R0 39 Lib.Math.min.name ∈ wall := wl_mem (tb2 129 rfl) rfl
theorem st_M_min : Cond.static Lib.Math.min.name ∈ wall := wl_mem (tb2 130 rfl) rfl
theorem cd_M_min : Cond.code Lib.Math.min.name Lib.Math.min.code 2 (some .int) ∈ wall := wl_mem (tb2 131 rfl) rfl
theorem ml_0_45 : Cond.methodLink R0 45 y0_dropEmptyLots ∈ wall := wl_mem (tb2 132 rfl) rfl
theorem im_0_dropEmptyLots : Cond.instanceMethod y0_dropEmptyLots ∈ wall := wl_mem (tb2 134 rfl) rfl
theorem cd_0_dropEmptyLots : Cond.code y0_dropEmptyLots b0_dropEmptyLots 3 none ∈ wall := wl_mem (tb2 135 rfl) rfl
theorem ml_0_56 : Cond.methodLink R0 56 y0_addLot ∈ wall := wl_mem (tb2 136 rfl) rfl
theorem im_0_addLot : Cond.instanceMethod y0_addLot ∈ wall := wl_mem (tb2 137 rfl) rfl
theorem se_0_addLot : Cond.selects R0 y0_addLot y0_addLot ∈ wall := wl_mem (tb2 138 rfl) rfl
theorem cd_0_addLot : Cond.code y0_addLot b0_addLot 4 none ∈ wall := wl_mem (tb2 139 rfl) rfl
theorem ml_6_177 : Cond.methodLink R6 177 y2_write ∈ wall := wl_mem (tb2 140 rfl) rfl
theorem im_2_write : Cond.instanceMethod y2_write ∈ wall := wl_mem (tb2 141 rfl) rfl
theorem se_2_write : Cond.selects R2 y2_write y2_write ∈ wall := wl_mem (tb2 142 rfl) rfl
theorem cd_2_write : Cond.code y2_write b2_write 10 none ∈ wall := wl_mem (tb2 143 rfl) rfl
theorem ml_L_59 : Cond.methodLink RL 59 y6_amount ∈ wall := wl_mem (tb2 144 rfl) rfl
theorem im_6_amount : Cond.instanceMethod y6_amount ∈ wall := wl_mem (tb2 145 rfl) rfl
theorem se_6_amount : Cond.selects R6 y6_amount y6_amount ∈ wall := wl_mem (tb2 146 rfl) rfl
theorem cd_6_amount : Cond.code y6_amount b6_amount 5 (some .int) ∈ wall := wl_mem (tb2 147 rfl) rfl
theorem ml_6_181 : Cond.methodLink R6 181 y6_isAmount ∈ wall := wl_mem (tb2 148 rfl) rfl
theorem im_6_isAmount : Cond.instanceMethod y6_isAmount ∈ wall := wl_mem (tb2 150 rfl) rfl
theorem cd_6_isAmount : Cond.code y6_isAmount b6_isAmount 4 (some .boolean) ∈ wall := wl_mem (tb2 151 rfl) rfl
theorem ml_6_293 : Cond.methodLink R6 293 y0_mayHold ∈ wall := wl_mem (tb2 152 rfl) rfl
theorem im_0_mayHold : Cond.instanceMethod y0_mayHold ∈ wall := wl_mem (tb2 153 rfl) rfl
theorem se_0_mayHold : Cond.selects R0 y0_mayHold y0_mayHold ∈ wall := wl_mem (tb2 154 rfl) rfl
theorem cd_0_mayHold : Cond.code y0_mayHold b0_mayHold 2 (some .boolean) ∈ wall := wl_mem (tb2 155 rfl) rfl
theorem ml_6_185 : Cond.methodLink R6 185 y4_takesAmount ∈ wall := wl_mem (tb2 156 rfl) rfl
theorem im_4_takesAmount : Cond.instanceMethod y4_takesAmount ∈ wall := wl_mem (tb2 157 rfl) rfl
theorem se_4_takesAmount : Cond.selects R4 y4_takesAmount y4_takesAmount ∈ wall := wl_mem (tb2 158 rfl) rfl
theorem cd_4_takesAmount : Cond.code y4_takesAmount b4_takesAmount 1 (some .boolean) ∈ wall := wl_mem (tb2 159 rfl) rfl
theorem ml_6_191 : Cond.methodLink R6 191 y0_given ∈ wall := wl_mem (tb2 160 rfl) rfl
theorem im_0_given : Cond.instanceMethod y0_given ∈ wall := wl_mem (tb2 161 rfl) rfl
theorem se_0_given : Cond.selects R0 y0_given y0_given ∈ wall := wl_mem (tb2 162 rfl) rfl
theorem cd_0_given : Cond.code y0_given b0_given 2 (some .int) ∈ wall := wl_mem (tb2 163 rfl) rfl
theorem ml_0_36 : Cond.methodLink R0 36 y0_firstGiven ∈ wall := wl_mem (tb2 164 rfl) rfl
theorem ml_6_194 : Cond.methodLink R6 194 y0_book ∈ wall := wl_mem (tb2 165 rfl) rfl
theorem ml_6_198 : Cond.methodLink R6 198 y6_letIn ∈ wall := wl_mem (tb2 166 rfl) rfl
theorem im_6_letIn : Cond.instanceMethod y6_letIn ∈ wall := wl_mem (tb2 168 rfl) rfl
theorem cd_6_letIn : Cond.code y6_letIn b6_letIn 5 none ∈ wall := wl_mem (tb2 169 rfl) rfl
theorem ml_6_296 : Cond.methodLink R6 296 y0_addLot ∈ wall := wl_mem (tb2 170 rfl) rfl
theorem ml_6_202 : Cond.methodLink R6 202 y6_takeOut ∈ wall := wl_mem (tb2 171 rfl) rfl
theorem im_6_takeOut : Cond.instanceMethod y6_takeOut ∈ wall := wl_mem (tb2 173 rfl) rfl
theorem cd_6_takeOut : Cond.code y6_takeOut b6_takeOut 3 none ∈ wall := wl_mem (tb2 174 rfl) rfl
theorem ml_6_299 : Cond.methodLink R6 299 y0_remove ∈ wall := wl_mem (tb2 175 rfl) rfl
theorem ml_6_302 : Cond.methodLink R6 302 y3_take ∈ wall := wl_mem (tb2 176 rfl) rfl
theorem im_3_take : Cond.instanceMethod y3_take ∈ wall := wl_mem (tb2 177 rfl) rfl
theorem se_3_take : Cond.selects R3 y3_take y3_take ∈ wall := wl_mem (tb2 178 rfl) rfl
theorem cd_3_take : Cond.code y3_take b3_take 3 none ∈ wall := wl_mem (tb2 179 rfl) rfl
theorem ml_6_206 : Cond.methodLink R6 206 y6_wasteFrom ∈ wall := wl_mem (tb2 180 rfl) rfl
theorem im_6_wasteFrom : Cond.instanceMethod y6_wasteFrom ∈ wall := wl_mem (tb2 182 rfl) rfl
theorem cd_6_wasteFrom : Cond.code y6_wasteFrom b6_wasteFrom 3 none ∈ wall := wl_mem (tb2 183 rfl) rfl
theorem ml_L_63 : Cond.methodLink RL 63 y6_shut ∈ wall := wl_mem (tb2 184 rfl) rfl
theorem im_6_shut : Cond.instanceMethod y6_shut ∈ wall := wl_mem (tb2 185 rfl) rfl
theorem se_6_shut : Cond.selects R6 y6_shut y6_shut ∈ wall := wl_mem (tb2 186 rfl) rfl
theorem cd_6_shut : Cond.code y6_shut b6_shut 2 (some .int) ∈ wall := wl_mem (tb2 187 rfl) rfl
theorem ml_6_215 : Cond.methodLink R6 215 y4_close ∈ wall := wl_mem (tb2 188 rfl) rfl
theorem im_4_close : Cond.instanceMethod y4_close ∈ wall := wl_mem (tb2 189 rfl) rfl
theorem se_4_close : Cond.selects R4 y4_close y4_close ∈ wall := wl_mem (tb2 190 rfl) rfl
theorem cd_4_close : Cond.code y4_close b4_close 1 none ∈ wall := wl_mem (tb2 191 rfl) rfl
theorem ml_L_67 : Cond.methodLink RL 67 y6_giveBack ∈ wall := wl_mem (tb2 192 rfl) rfl
theorem im_6_giveBack : Cond.instanceMethod y6_giveBack ∈ wall := wl_mem (tb2 193 rfl) rfl
theorem se_6_giveBack : Cond.selects R6 y6_giveBack y6_giveBack ∈ wall := wl_mem (tb2 194 rfl) rfl
theorem cd_6_giveBack : Cond.code y6_giveBack b6_giveBack 4 (some .int) ∈ wall := wl_mem (tb2 195 rfl) rfl
theorem ml_6_218 : Cond.methodLink R6 218 y6_refusalWithoutStep ∈ wall := wl_mem (tb2 196 rfl) rfl
theorem im_6_refusalWithoutStep : Cond.instanceMethod y6_refusalWithoutStep ∈ wall := wl_mem (tb2 198 rfl) rfl
theorem cd_6_refusalWithoutStep : Cond.code y6_refusalWithoutStep b6_refusalWithoutStep 2 (some .int) ∈ wall := wl_mem (tb2 199 rfl) rfl
theorem ml_L_71 : Cond.methodLink RL 71 y6_reconcile ∈ wall := wl_mem (tb2 200 rfl) rfl
theorem im_6_reconcile : Cond.instanceMethod y6_reconcile ∈ wall := wl_mem (tb2 201 rfl) rfl
theorem se_6_reconcile : Cond.selects R6 y6_reconcile y6_reconcile ∈ wall := wl_mem (tb2 202 rfl) rfl
theorem cd_6_reconcile : Cond.code y6_reconcile b6_reconcile 3 (some .int) ∈ wall := wl_mem (tb2 203 rfl) rfl
theorem ml_6_225 : Cond.methodLink R6 225 y6_isMismatch ∈ wall := wl_mem (tb2 204 rfl) rfl
theorem im_6_isMismatch : Cond.instanceMethod y6_isMismatch ∈ wall := wl_mem (tb2 206 rfl) rfl
theorem cd_6_isMismatch : Cond.code y6_isMismatch b6_isMismatch 2 (some .boolean) ∈ wall := wl_mem (tb2 207 rfl) rfl
theorem ml_L_75 : Cond.methodLink RL 75 y6_mismatch ∈ wall := wl_mem (tb2 208 rfl) rfl
theorem im_6_mismatch : Cond.instanceMethod y6_mismatch ∈ wall := wl_mem (tb2 209 rfl) rfl
theorem se_6_mismatch : Cond.selects R6 y6_mismatch y6_mismatch ∈ wall := wl_mem (tb2 210 rfl) rfl
theorem cd_6_mismatch : Cond.code y6_mismatch b6_mismatch 2 (some .int) ∈ wall := wl_mem (tb2 211 rfl) rfl
theorem ml_L_79 : Cond.methodLink RL 79 y6_bin ∈ wall := wl_mem (tb2 212 rfl) rfl
theorem im_6_bin : Cond.instanceMethod y6_bin ∈ wall := wl_mem (tb2 213 rfl) rfl
theorem se_6_bin : Cond.selects R6 y6_bin y6_bin ∈ wall := wl_mem (tb2 214 rfl) rfl
theorem cd_6_bin : Cond.code y6_bin b6_bin 4 (some .int) ∈ wall := wl_mem (tb2 215 rfl) rfl
theorem ml_L_83 : Cond.methodLink RL 83 y6_lot ∈ wall := wl_mem (tb2 216 rfl) rfl
theorem im_6_lot : Cond.instanceMethod y6_lot ∈ wall := wl_mem (tb2 217 rfl) rfl
theorem se_6_lot : Cond.selects R6 y6_lot y6_lot ∈ wall := wl_mem (tb2 218 rfl) rfl
theorem cd_6_lot : Cond.code y6_lot b6_lot 4 (some .int) ∈ wall := wl_mem (tb2 219 rfl) rfl
theorem ml_L_88 : Cond.methodLink RL 88 y6_stock ∈ wall := wl_mem (tb2 220 rfl) rfl
theorem im_6_stock : Cond.instanceMethod y6_stock ∈ wall := wl_mem (tb2 221 rfl) rfl
theorem se_6_stock : Cond.selects R6 y6_stock y6_stock ∈ wall := wl_mem (tb2 222 rfl) rfl
theorem cd_6_stock : Cond.code y6_stock b6_stock 3 (some .int) ∈ wall := wl_mem (tb2 223 rfl) rfl
theorem ml_6_239 : Cond.methodLink R6 239 y6_givenOf ∈ wall := wl_mem (tb2 224 rfl) rfl
theorem im_6_givenOf : Cond.instanceMethod y6_givenOf ∈ wall := wl_mem (tb2 226 rfl) rfl
theorem cd_6_givenOf : Cond.code y6_givenOf b6_givenOf 4 (some .int) ∈ wall := wl_mem (tb2 227 rfl) rfl
theorem ml_6_242 : Cond.methodLink R6 242 y6_belowPar ∈ wall := wl_mem (tb2 228 rfl) rfl
theorem im_6_belowPar : Cond.instanceMethod y6_belowPar ∈ wall := wl_mem (tb2 230 rfl) rfl
theorem cd_6_belowPar : Cond.code y6_belowPar b6_belowPar 2 (some .int) ∈ wall := wl_mem (tb2 231 rfl) rfl
theorem ml_6_308 : Cond.methodLink R6 308 Lib.Math.max.name ∈ wall := wl_mem (tb2 232 rfl) rfl
theorem st_M_max : Cond.static Lib.Math.max.name ∈ wall := wl_mem (tb2 233 rfl) rfl
theorem cd_M_max : Cond.code Lib.Math.max.name Lib.Math.max.code 2 (some .int) ∈ wall := wl_mem (tb2 234 rfl) rfl
theorem ml_L_92 : Cond.methodLink RL 92 y6_wanted ∈ wall := wl_mem (tb2 235 rfl) rfl
theorem im_6_wanted : Cond.instanceMethod y6_wanted ∈ wall := wl_mem (tb2 236 rfl) rfl
theorem se_6_wanted : Cond.selects R6 y6_wanted y6_wanted ∈ wall := wl_mem (tb2 237 rfl) rfl
theorem cd_6_wanted : Cond.code y6_wanted b6_wanted 4 (some .int) ∈ wall := wl_mem (tb2 238 rfl) rfl
theorem ml_L_96 : Cond.methodLink RL 96 y6_orderTold ∈ wall := wl_mem (tb2 239 rfl) rfl
theorem im_6_orderTold : Cond.instanceMethod y6_orderTold ∈ wall := wl_mem (tb3 0 rfl) rfl
theorem se_6_orderTold : Cond.selects R6 y6_orderTold y6_orderTold ∈ wall := wl_mem (tb3 1 rfl) rfl
theorem cd_6_orderTold : Cond.code y6_orderTold b6_orderTold 3 (some .int) ∈ wall := wl_mem (tb3 2 rfl) rfl
theorem ml_L_100 : Cond.methodLink RL 100 y6_alarms ∈ wall := wl_mem (tb3 3 rfl) rfl
theorem im_6_alarms : Cond.instanceMethod y6_alarms ∈ wall := wl_mem (tb3 4 rfl) rfl
theorem se_6_alarms : Cond.selects R6 y6_alarms y6_alarms ∈ wall := wl_mem (tb3 5 rfl) rfl
theorem cd_6_alarms : Cond.code y6_alarms b6_alarms 2 (some .int) ∈ wall := wl_mem (tb3 6 rfl) rfl
theorem ml_6_245 : Cond.methodLink R6 245 y6_isAnyLocked ∈ wall := wl_mem (tb3 7 rfl) rfl
theorem im_6_isAnyLocked : Cond.instanceMethod y6_isAnyLocked ∈ wall := wl_mem (tb3 9 rfl) rfl
theorem cd_6_isAnyLocked : Cond.code y6_isAnyLocked b6_isAnyLocked 2 (some .boolean) ∈ wall := wl_mem (tb3 10 rfl) rfl
theorem ml_6_248 : Cond.methodLink R6 248 y6_wanted ∈ wall := wl_mem (tb3 11 rfl) rfl
theorem ml_6_251 : Cond.methodLink R6 251 y2_wholeCopies ∈ wall := wl_mem (tb3 12 rfl) rfl
theorem im_2_wholeCopies : Cond.instanceMethod y2_wholeCopies ∈ wall := wl_mem (tb3 13 rfl) rfl
theorem se_2_wholeCopies : Cond.selects R2 y2_wholeCopies y2_wholeCopies ∈ wall := wl_mem (tb3 14 rfl) rfl
theorem cd_2_wholeCopies : Cond.code y2_wholeCopies b2_wholeCopies 1 (some .int) ∈ wall := wl_mem (tb3 15 rfl) rfl
theorem ml_6_254 : Cond.methodLink R6 254 y6_isAnyLotExpired ∈ wall := wl_mem (tb3 16 rfl) rfl
theorem im_6_isAnyLotExpired : Cond.instanceMethod y6_isAnyLotExpired ∈ wall := wl_mem (tb3 18 rfl) rfl
theorem cd_6_isAnyLotExpired : Cond.code y6_isAnyLotExpired b6_isAnyLotExpired 2 (some .boolean) ∈ wall := wl_mem (tb3 19 rfl) rfl
theorem ml_L_104 : Cond.methodLink RL 104 y6_told ∈ wall := wl_mem (tb3 20 rfl) rfl
theorem im_6_told : Cond.instanceMethod y6_told ∈ wall := wl_mem (tb3 21 rfl) rfl
theorem se_6_told : Cond.selects R6 y6_told y6_told ∈ wall := wl_mem (tb3 22 rfl) rfl
theorem cd_6_told : Cond.code y6_told b6_told 2 (some .int) ∈ wall := wl_mem (tb3 23 rfl) rfl
theorem ml_L_108 : Cond.methodLink RL 108 y6_entry ∈ wall := wl_mem (tb3 24 rfl) rfl
theorem im_6_entry : Cond.instanceMethod y6_entry ∈ wall := wl_mem (tb3 25 rfl) rfl
theorem se_6_entry : Cond.selects R6 y6_entry y6_entry ∈ wall := wl_mem (tb3 26 rfl) rfl
theorem cd_6_entry : Cond.code y6_entry b6_entry 3 (some .int) ∈ wall := wl_mem (tb3 27 rfl) rfl
theorem ml_6_257 : Cond.methodLink R6 257 y2_read ∈ wall := wl_mem (tb3 28 rfl) rfl
theorem im_2_read : Cond.instanceMethod y2_read ∈ wall := wl_mem (tb3 29 rfl) rfl
theorem se_2_read : Cond.selects R2 y2_read y2_read ∈ wall := wl_mem (tb3 30 rfl) rfl
theorem cd_2_read : Cond.code y2_read b2_read 3 (some .int) ∈ wall := wl_mem (tb3 31 rfl) rfl
theorem ml_L_112 : Cond.methodLink RL 112 y6_lose ∈ wall := wl_mem (tb3 32 rfl) rfl
theorem im_6_lose : Cond.instanceMethod y6_lose ∈ wall := wl_mem (tb3 33 rfl) rfl
theorem se_6_lose : Cond.selects R6 y6_lose y6_lose ∈ wall := wl_mem (tb3 34 rfl) rfl
theorem cd_6_lose : Cond.code y6_lose b6_lose 2 (some .int) ∈ wall := wl_mem (tb3 35 rfl) rfl
theorem ml_L_116 : Cond.methodLink RL 116 y6_repair ∈ wall := wl_mem (tb3 36 rfl) rfl
theorem im_6_repair : Cond.instanceMethod y6_repair ∈ wall := wl_mem (tb3 37 rfl) rfl
theorem se_6_repair : Cond.selects R6 y6_repair y6_repair ∈ wall := wl_mem (tb3 38 rfl) rfl
theorem cd_6_repair : Cond.code y6_repair b6_repair 1 (some .int) ∈ wall := wl_mem (tb3 39 rfl) rfl
theorem ml_6_265 : Cond.methodLink R6 265 y2_makeWhole ∈ wall := wl_mem (tb3 40 rfl) rfl
theorem im_2_makeWhole : Cond.instanceMethod y2_makeWhole ∈ wall := wl_mem (tb3 41 rfl) rfl
theorem se_2_makeWhole : Cond.selects R2 y2_makeWhole y2_makeWhole ∈ wall := wl_mem (tb3 42 rfl) rfl
theorem cd_2_makeWhole : Cond.code y2_makeWhole b2_makeWhole 2 none ∈ wall := wl_mem (tb3 43 rfl) rfl
theorem ml_2_24 : Cond.methodLink R2 24 arraycopyName ∈ wall := wl_mem (tb3 44 rfl) rfl
theorem st_Y_arraycopy : Cond.static arraycopyName ∈ wall := wl_mem (tb3 45 rfl) rfl
theorem na_Y_arraycopy : Cond.native arraycopyName ∈ wall := wl_mem (tb3 46 rfl) rfl
theorem ml_L_120 : Cond.methodLink RL 120 y6_audit ∈ wall := wl_mem (tb3 47 rfl) rfl
theorem im_6_audit : Cond.instanceMethod y6_audit ∈ wall := wl_mem (tb3 48 rfl) rfl
theorem se_6_audit : Cond.selects R6 y6_audit y6_audit ∈ wall := wl_mem (tb3 49 rfl) rfl
theorem cd_6_audit : Cond.code y6_audit b6_audit 3 (some .int) ∈ wall := wl_mem (tb3 50 rfl) rfl
theorem ml_6_268 : Cond.methodLink R6 268 y2_readBooks ∈ wall := wl_mem (tb3 51 rfl) rfl
theorem im_2_readBooks : Cond.instanceMethod y2_readBooks ∈ wall := wl_mem (tb3 52 rfl) rfl
theorem se_2_readBooks : Cond.selects R2 y2_readBooks y2_readBooks ∈ wall := wl_mem (tb3 53 rfl) rfl
theorem cd_2_readBooks : Cond.code y2_readBooks b2_readBooks 4 none ∈ wall := wl_mem (tb3 54 rfl) rfl
theorem ml_2_30 : Cond.methodLink R2 30 y2_read ∈ wall := wl_mem (tb3 55 rfl) rfl
theorem ml_2_34 : Cond.methodLink R2 34 y2_change ∈ wall := wl_mem (tb3 56 rfl) rfl
theorem st_2_change : Cond.static y2_change ∈ wall := wl_mem (tb3 57 rfl) rfl
theorem cd_2_change : Cond.code y2_change b2_change 2 (some .int) ∈ wall := wl_mem (tb3 58 rfl) rfl
theorem cl_L_10 : Cond.classLink RL 10 R7 ∈ wall := wl_mem (tb3 59 rfl) rfl
theorem it_7 : Cond.instantiable R7 39 ∈ wall := wl_mem (tb3 60 rfl) rfl
theorem ml_L_12 : Cond.methodLink RL 12 y7_init ∈ wall := wl_mem (tb3 61 rfl) rfl
theorem im_7_init : Cond.instanceMethod y7_init ∈ wall := wl_mem (tb3 62 rfl) rfl
theorem cd_7_init : Cond.code y7_init b7_init 2 none ∈ wall := wl_mem (tb3 63 rfl) rfl
theorem ml_7_1 : Cond.methodLink R7 1 objectInit ∈ wall := wl_mem (tb3 64 rfl) rfl
theorem fl_7_100 : Cond.fieldLink R7 100 "DispenseCabinetModel" "now" "I" ∈ wall := wl_mem (tb3 65 rfl) rfl
theorem fl_7_7 : Cond.fieldLink R7 7 "DispenseCabinetModel" "isUser" "[Z" ∈ wall := wl_mem (tb3 66 rfl) rfl
theorem fl_7_13 : Cond.fieldLink R7 13 "DispenseCabinetModel" "roles" "[I" ∈ wall := wl_mem (tb3 67 rfl) rfl
theorem fl_7_17 : Cond.fieldLink R7 17 "DispenseCabinetModel" "codes" "[I" ∈ wall := wl_mem (tb3 68 rfl) rfl
theorem fl_7_20 : Cond.fieldLink R7 20 "DispenseCabinetModel" "wrongs" "[I" ∈ wall := wl_mem (tb3 69 rfl) rfl
theorem fl_7_23 : Cond.fieldLink R7 23 "DispenseCabinetModel" "lockedUntil" "[I" ∈ wall := wl_mem (tb3 70 rfl) rfl
theorem fl_7_26 : Cond.fieldLink R7 26 "DispenseCabinetModel" "who" "I" ∈ wall := wl_mem (tb3 71 rfl) rfl
theorem fl_7_114 : Cond.fieldLink R7 114 "DispenseCabinetModel" "latest" "I" ∈ wall := wl_mem (tb3 72 rfl) rfl
theorem fl_7_30 : Cond.fieldLink R7 30 "DispenseCabinetModel" "watcher" "I" ∈ wall := wl_mem (tb3 73 rfl) rfl
theorem fl_7_103 : Cond.fieldLink R7 103 "DispenseCabinetModel" "watchedUntil" "I" ∈ wall := wl_mem (tb3 74 rfl) rfl
theorem fl_7_33 : Cond.fieldLink R7 33 "DispenseCabinetModel" "isItem" "[Z" ∈ wall := wl_mem (tb3 75 rfl) rfl
theorem fl_7_36 : Cond.fieldLink R7 36 "DispenseCabinetModel" "controlled" "[Z" ∈ wall := wl_mem (tb3 76 rfl) rfl
theorem fl_7_39 : Cond.fieldLink R7 39 "DispenseCabinetModel" "pars" "[I" ∈ wall := wl_mem (tb3 77 rfl) rfl
theorem fl_7_42 : Cond.fieldLink R7 42 "DispenseCabinetModel" "backs" "[I" ∈ wall := wl_mem (tb3 78 rfl) rfl
theorem fl_7_45 : Cond.fieldLink R7 45 "DispenseCabinetModel" "itemOf" "[I" ∈ wall := wl_mem (tb3 79 rfl) rfl
theorem fl_7_48 : Cond.fieldLink R7 48 "DispenseCabinetModel" "lots" "[I" ∈ wall := wl_mem (tb3 80 rfl) rfl
theorem fl_7_51 : Cond.fieldLink R7 51 "DispenseCabinetModel" "units" "[I" ∈ wall := wl_mem (tb3 81 rfl) rfl
theorem fl_7_54 : Cond.fieldLink R7 54 "DispenseCabinetModel" "expiries" "[I" ∈ wall := wl_mem (tb3 82 rfl) rfl
theorem fl_7_57 : Cond.fieldLink R7 57 "DispenseCabinetModel" "doubts" "[I" ∈ wall := wl_mem (tb3 83 rfl) rfl
theorem fl_7_60 : Cond.fieldLink R7 60 "DispenseCabinetModel" "counted" "[Z" ∈ wall := wl_mem (tb3 84 rfl) rfl
theorem fl_7_97 : Cond.fieldLink R7 97 "DispenseCabinetModel" "orders" "I" ∈ wall := wl_mem (tb3 85 rfl) rfl
theorem fl_7_63 : Cond.fieldLink R7 63 "DispenseCabinetModel" "orderItem" "[I" ∈ wall := wl_mem (tb3 86 rfl) rfl
theorem fl_7_66 : Cond.fieldLink R7 66 "DispenseCabinetModel" "left" "[I" ∈ wall := wl_mem (tb3 87 rfl) rfl
theorem fl_7_69 : Cond.fieldLink R7 69 "DispenseCabinetModel" "gaps" "[I" ∈ wall := wl_mem (tb3 88 rfl) rfl
theorem fl_7_72 : Cond.fieldLink R7 72 "DispenseCabinetModel" "ends" "[I" ∈ wall := wl_mem (tb3 89 rfl) rfl
theorem fl_7_75 : Cond.fieldLink R7 75 "DispenseCabinetModel" "cancelled" "[Z" ∈ wall := wl_mem (tb3 90 rfl) rfl
theorem fl_7_78 : Cond.fieldLink R7 78 "DispenseCabinetModel" "taken" "[I" ∈ wall := wl_mem (tb3 91 rfl) rfl
theorem fl_7_81 : Cond.fieldLink R7 81 "DispenseCabinetModel" "act" "I" ∈ wall := wl_mem (tb3 92 rfl) rfl
theorem fl_7_153 : Cond.fieldLink R7 153 "DispenseCabinetModel" "stepBin" "I" ∈ wall := wl_mem (tb3 93 rfl) rfl
theorem fl_7_124 : Cond.fieldLink R7 124 "DispenseCabinetModel" "stepOrder" "I" ∈ wall := wl_mem (tb3 94 rfl) rfl
theorem fl_7_156 : Cond.fieldLink R7 156 "DispenseCabinetModel" "begun" "I" ∈ wall := wl_mem (tb3 95 rfl) rfl
theorem fl_7_159 : Cond.fieldLink R7 159 "DispenseCabinetModel" "mustCount" "Z" ∈ wall := wl_mem (tb3 96 rfl) rfl
theorem fl_7_163 : Cond.fieldLink R7 163 "DispenseCabinetModel" "didCount" "Z" ∈ wall := wl_mem (tb3 97 rfl) rfl
theorem fl_7_166 : Cond.fieldLink R7 166 "DispenseCabinetModel" "didTell" "Z" ∈ wall := wl_mem (tb3 98 rfl) rfl
theorem fl_7_130 : Cond.fieldLink R7 130 "DispenseCabinetModel" "entries" "I" ∈ wall := wl_mem (tb3 99 rfl) rfl
theorem fl_7_84 : Cond.fieldLink R7 84 "DispenseCabinetModel" "ledger" "[I" ∈ wall := wl_mem (tb3 100 rfl) rfl
theorem fl_7_87 : Cond.fieldLink R7 87 "DispenseCabinetModel" "lost" "[Z" ∈ wall := wl_mem (tb3 101 rfl) rfl
theorem fl_7_188 : Cond.fieldLink R7 188 "DispenseCabinetModel" "mismatches" "I" ∈ wall := wl_mem (tb3 102 rfl) rfl
theorem fl_7_90 : Cond.fieldLink R7 90 "DispenseCabinetModel" "mismatchBin" "[I" ∈ wall := wl_mem (tb3 103 rfl) rfl
theorem ml_L_17 : Cond.methodLink RL 17 y7_user ∈ wall := wl_mem (tb3 183 rfl) rfl
theorem im_7_user : Cond.instanceMethod y7_user ∈ wall := wl_mem (tb3 184 rfl) rfl
theorem se_7_user : Cond.selects R7 y7_user y7_user ∈ wall := wl_mem (tb3 185 rfl) rfl
theorem cd_7_user : Cond.code y7_user b7_user 4 (some .int) ∈ wall := wl_mem (tb3 186 rfl) rfl
theorem ml_7_93 : Cond.methodLink R7 93 y7_in ∈ wall := wl_mem (tb3 187 rfl) rfl
theorem st_7_in : Cond.static y7_in ∈ wall := wl_mem (tb3 188 rfl) rfl
theorem cd_7_in : Cond.code y7_in b7_in 3 (some .boolean) ∈ wall := wl_mem (tb3 189 rfl) rfl
theorem ml_L_22 : Cond.methodLink RL 22 y7_item ∈ wall := wl_mem (tb3 190 rfl) rfl
theorem im_7_item : Cond.instanceMethod y7_item ∈ wall := wl_mem (tb3 191 rfl) rfl
theorem se_7_item : Cond.selects R7 y7_item y7_item ∈ wall := wl_mem (tb3 192 rfl) rfl
theorem cd_7_item : Cond.code y7_item b7_item 4 (some .int) ∈ wall := wl_mem (tb3 193 rfl) rfl
theorem ml_L_27 : Cond.methodLink RL 27 y7_login ∈ wall := wl_mem (tb3 194 rfl) rfl
theorem im_7_login : Cond.instanceMethod y7_login ∈ wall := wl_mem (tb3 195 rfl) rfl
theorem se_7_login : Cond.selects R7 y7_login y7_login ∈ wall := wl_mem (tb3 196 rfl) rfl
theorem cd_7_login : Cond.code y7_login b7_login 4 (some .int) ∈ wall := wl_mem (tb3 197 rfl) rfl
theorem ml_7_106 : Cond.methodLink R7 106 y7_hasUser ∈ wall := wl_mem (tb3 198 rfl) rfl
theorem im_7_hasUser : Cond.instanceMethod y7_hasUser ∈ wall := wl_mem (tb3 200 rfl) rfl
theorem cd_7_hasUser : Cond.code y7_hasUser b7_hasUser 2 (some .boolean) ∈ wall := wl_mem (tb3 201 rfl) rfl
theorem ml_7_110 : Cond.methodLink R7 110 y7_tryCode ∈ wall := wl_mem (tb3 202 rfl) rfl
theorem im_7_tryCode : Cond.instanceMethod y7_tryCode ∈ wall := wl_mem (tb3 204 rfl) rfl
theorem cd_7_tryCode : Cond.code y7_tryCode b7_tryCode 3 (some .int) ∈ wall := wl_mem (tb3 205 rfl) rfl
theorem ml_L_32 : Cond.methodLink RL 32 y7_logout ∈ wall := wl_mem (tb3 206 rfl) rfl
theorem im_7_logout : Cond.instanceMethod y7_logout ∈ wall := wl_mem (tb3 207 rfl) rfl
theorem se_7_logout : Cond.selects R7 y7_logout y7_logout ∈ wall := wl_mem (tb3 208 rfl) rfl
theorem cd_7_logout : Cond.code y7_logout b7_logout 2 (some .int) ∈ wall := wl_mem (tb3 209 rfl) rfl
theorem ml_L_36 : Cond.methodLink RL 36 y7_witness ∈ wall := wl_mem (tb3 210 rfl) rfl
theorem im_7_witness : Cond.instanceMethod y7_witness ∈ wall := wl_mem (tb3 211 rfl) rfl
theorem se_7_witness : Cond.selects R7 y7_witness y7_witness ∈ wall := wl_mem (tb3 212 rfl) rfl
theorem cd_7_witness : Cond.code y7_witness b7_witness 4 (some .int) ∈ wall := wl_mem (tb3 213 rfl) rfl
theorem ml_L_41 : Cond.methodLink RL 41 y7_tick ∈ wall := wl_mem (tb3 214 rfl) rfl
theorem im_7_tick : Cond.instanceMethod y7_tick ∈ wall := wl_mem (tb3 215 rfl) rfl
theorem se_7_tick : Cond.selects R7 y7_tick y7_tick ∈ wall := wl_mem (tb3 216 rfl) rfl
theorem cd_7_tick : Cond.code y7_tick b7_tick 2 (some .int) ∈ wall := wl_mem (tb3 217 rfl) rfl
theorem ml_L_46 : Cond.methodLink RL 46 y7_order ∈ wall := wl_mem (tb3 218 rfl) rfl
theorem im_7_order : Cond.instanceMethod y7_order ∈ wall := wl_mem (tb3 219 rfl) rfl
theorem se_7_order : Cond.selects R7 y7_order y7_order ∈ wall := wl_mem (tb3 220 rfl) rfl
theorem cd_7_order : Cond.code y7_order b7_order 7 (some .int) ∈ wall := wl_mem (tb3 221 rfl) rfl
theorem ml_7_117 : Cond.methodLink R7 117 y7_hasItem ∈ wall := wl_mem (tb3 222 rfl) rfl
theorem im_7_hasItem : Cond.instanceMethod y7_hasItem ∈ wall := wl_mem (tb3 224 rfl) rfl
theorem cd_7_hasItem : Cond.code y7_hasItem b7_hasItem 2 (some .boolean) ∈ wall := wl_mem (tb3 225 rfl) rfl
theorem kc_7_120 : Cond.constant R7 120 100000 ∈ wall := wl_mem (tb3 226 rfl) rfl
theorem ml_L_50 : Cond.methodLink RL 50 y7_cancel ∈ wall := wl_mem (tb3 227 rfl) rfl
theorem im_7_cancel : Cond.instanceMethod y7_cancel ∈ wall := wl_mem (tb3 228 rfl) rfl
theorem se_7_cancel : Cond.selects R7 y7_cancel y7_cancel ∈ wall := wl_mem (tb3 229 rfl) rfl
theorem cd_7_cancel : Cond.code y7_cancel b7_cancel 3 (some .int) ∈ wall := wl_mem (tb3 230 rfl) rfl
theorem ml_7_121 : Cond.methodLink R7 121 y7_hasOrder ∈ wall := wl_mem (tb3 231 rfl) rfl
theorem im_7_hasOrder : Cond.instanceMethod y7_hasOrder ∈ wall := wl_mem (tb3 233 rfl) rfl
theorem cd_7_hasOrder : Cond.code y7_hasOrder b7_hasOrder 2 (some .boolean) ∈ wall := wl_mem (tb3 234 rfl) rfl
theorem ml_7_127 : Cond.methodLink R7 127 y7_isOpen ∈ wall := wl_mem (tb3 235 rfl) rfl
theorem im_7_isOpen : Cond.instanceMethod y7_isOpen ∈ wall := wl_mem (tb3 237 rfl) rfl
theorem cd_7_isOpen : Cond.code y7_isOpen b7_isOpen 2 (some .boolean) ∈ wall := wl_mem (tb3 238 rfl) rfl
theorem ml_L_54 : Cond.methodLink RL 54 y7_begin ∈ wall := wl_mem (tb3 239 rfl) rfl
theorem im_7_begin : Cond.instanceMethod y7_begin ∈ wall := wl_mem (tb4 0 rfl) rfl
theorem se_7_begin : Cond.selects R7 y7_begin y7_begin ∈ wall := wl_mem (tb4 1 rfl) rfl
theorem cd_7_begin : Cond.code y7_begin b7_begin 8 (some .int) ∈ wall := wl_mem (tb4 2 rfl) rfl
theorem ml_7_140 : Cond.methodLink R7 140 y7_hasBin ∈ wall := wl_mem (tb4 3 rfl) rfl
theorem st_7_hasBin : Cond.static y7_hasBin ∈ wall := wl_mem (tb4 4 rfl) rfl
theorem cd_7_hasBin : Cond.code y7_hasBin b7_hasBin 1 (some .boolean) ∈ wall := wl_mem (tb4 5 rfl) rfl
theorem ml_7_143 : Cond.methodLink R7 143 y7_isWatched ∈ wall := wl_mem (tb4 6 rfl) rfl
theorem im_7_isWatched : Cond.instanceMethod y7_isWatched ∈ wall := wl_mem (tb4 8 rfl) rfl
theorem cd_7_isWatched : Cond.code y7_isWatched b7_isWatched 1 (some .boolean) ∈ wall := wl_mem (tb4 9 rfl) rfl
theorem ml_7_147 : Cond.methodLink R7 147 y7_mayTake ∈ wall := wl_mem (tb4 10 rfl) rfl
theorem im_7_mayTake : Cond.instanceMethod y7_mayTake ∈ wall := wl_mem (tb4 12 rfl) rfl
theorem cd_7_mayTake : Cond.code y7_mayTake b7_mayTake 2 (some .boolean) ∈ wall := wl_mem (tb4 13 rfl) rfl
theorem ml_7_150 : Cond.methodLink R7 150 y7_chosen ∈ wall := wl_mem (tb4 14 rfl) rfl
theorem im_7_chosen : Cond.instanceMethod y7_chosen ∈ wall := wl_mem (tb4 16 rfl) rfl
theorem cd_7_chosen : Cond.code y7_chosen b7_chosen 5 (some .int) ∈ wall := wl_mem (tb4 17 rfl) rfl
theorem ml_7_133 : Cond.methodLink R7 133 y7_givableOf ∈ wall := wl_mem (tb4 18 rfl) rfl
theorem im_7_givableOf : Cond.instanceMethod y7_givableOf ∈ wall := wl_mem (tb4 20 rfl) rfl
theorem cd_7_givableOf : Cond.code y7_givableOf b7_givableOf 4 (some .int) ∈ wall := wl_mem (tb4 21 rfl) rfl
theorem ml_7_137 : Cond.methodLink R7 137 y7_firstOf ∈ wall := wl_mem (tb4 22 rfl) rfl
theorem im_7_firstOf : Cond.instanceMethod y7_firstOf ∈ wall := wl_mem (tb4 24 rfl) rfl
theorem cd_7_firstOf : Cond.code y7_firstOf b7_firstOf 4 (some .int) ∈ wall := wl_mem (tb4 25 rfl) rfl
theorem ml_L_58 : Cond.methodLink RL 58 y7_count ∈ wall := wl_mem (tb4 26 rfl) rfl
theorem im_7_count : Cond.instanceMethod y7_count ∈ wall := wl_mem (tb4 27 rfl) rfl
theorem se_7_count : Cond.selects R7 y7_count y7_count ∈ wall := wl_mem (tb4 28 rfl) rfl
theorem cd_7_count : Cond.code y7_count b7_count 6 (some .int) ∈ wall := wl_mem (tb4 29 rfl) rfl
theorem ml_7_169 : Cond.methodLink R7 169 y7_bookOf ∈ wall := wl_mem (tb4 30 rfl) rfl
theorem im_7_bookOf : Cond.instanceMethod y7_bookOf ∈ wall := wl_mem (tb4 32 rfl) rfl
theorem cd_7_bookOf : Cond.code y7_bookOf b7_bookOf 4 (some .int) ∈ wall := wl_mem (tb4 33 rfl) rfl
theorem ml_7_172 : Cond.methodLink R7 172 y7_takeUnits ∈ wall := wl_mem (tb4 34 rfl) rfl
theorem im_7_takeUnits : Cond.instanceMethod y7_takeUnits ∈ wall := wl_mem (tb4 36 rfl) rfl
theorem cd_7_takeUnits : Cond.code y7_takeUnits b7_takeUnits 11 none ∈ wall := wl_mem (tb4 37 rfl) rfl
theorem ml_7_176 : Cond.methodLink R7 176 y7_putLot ∈ wall := wl_mem (tb4 38 rfl) rfl
theorem im_7_putLot : Cond.instanceMethod y7_putLot ∈ wall := wl_mem (tb4 40 rfl) rfl
theorem cd_7_putLot : Cond.code y7_putLot b7_putLot 5 none ∈ wall := wl_mem (tb4 41 rfl) rfl
theorem ml_7_180 : Cond.methodLink R7 180 y7_note ∈ wall := wl_mem (tb4 42 rfl) rfl
theorem im_7_note : Cond.instanceMethod y7_note ∈ wall := wl_mem (tb4 44 rfl) rfl
theorem cd_7_note : Cond.code y7_note b7_note 5 none ∈ wall := wl_mem (tb4 45 rfl) rfl
theorem ml_L_62 : Cond.methodLink RL 62 y7_amount ∈ wall := wl_mem (tb4 46 rfl) rfl
theorem im_7_amount : Cond.instanceMethod y7_amount ∈ wall := wl_mem (tb4 47 rfl) rfl
theorem se_7_amount : Cond.selects R7 y7_amount y7_amount ∈ wall := wl_mem (tb4 48 rfl) rfl
theorem cd_7_amount : Cond.code y7_amount b7_amount 6 (some .int) ∈ wall := wl_mem (tb4 49 rfl) rfl
theorem ml_7_184 : Cond.methodLink R7 184 y7_refusal ∈ wall := wl_mem (tb4 50 rfl) rfl
theorem im_7_refusal : Cond.instanceMethod y7_refusal ∈ wall := wl_mem (tb4 52 rfl) rfl
theorem cd_7_refusal : Cond.code y7_refusal b7_refusal 7 (some .int) ∈ wall := wl_mem (tb4 53 rfl) rfl
theorem ml_L_66 : Cond.methodLink RL 66 y7_shut ∈ wall := wl_mem (tb4 54 rfl) rfl
theorem im_7_shut : Cond.instanceMethod y7_shut ∈ wall := wl_mem (tb4 55 rfl) rfl
theorem se_7_shut : Cond.selects R7 y7_shut y7_shut ∈ wall := wl_mem (tb4 56 rfl) rfl
theorem cd_7_shut : Cond.code y7_shut b7_shut 1 (some .int) ∈ wall := wl_mem (tb4 57 rfl) rfl
theorem ml_L_70 : Cond.methodLink RL 70 y7_giveBack ∈ wall := wl_mem (tb4 58 rfl) rfl
theorem im_7_giveBack : Cond.instanceMethod y7_giveBack ∈ wall := wl_mem (tb4 59 rfl) rfl
theorem se_7_giveBack : Cond.selects R7 y7_giveBack y7_giveBack ∈ wall := wl_mem (tb4 60 rfl) rfl
theorem cd_7_giveBack : Cond.code y7_giveBack b7_giveBack 4 (some .int) ∈ wall := wl_mem (tb4 61 rfl) rfl
theorem ml_L_74 : Cond.methodLink RL 74 y7_reconcile ∈ wall := wl_mem (tb4 62 rfl) rfl
theorem im_7_reconcile : Cond.instanceMethod y7_reconcile ∈ wall := wl_mem (tb4 63 rfl) rfl
theorem se_7_reconcile : Cond.selects R7 y7_reconcile y7_reconcile ∈ wall := wl_mem (tb4 64 rfl) rfl
theorem cd_7_reconcile : Cond.code y7_reconcile b7_reconcile 3 (some .int) ∈ wall := wl_mem (tb4 65 rfl) rfl
theorem ml_L_78 : Cond.methodLink RL 78 y7_mismatch ∈ wall := wl_mem (tb4 66 rfl) rfl
theorem im_7_mismatch : Cond.instanceMethod y7_mismatch ∈ wall := wl_mem (tb4 67 rfl) rfl
theorem se_7_mismatch : Cond.selects R7 y7_mismatch y7_mismatch ∈ wall := wl_mem (tb4 68 rfl) rfl
theorem cd_7_mismatch : Cond.code y7_mismatch b7_mismatch 2 (some .int) ∈ wall := wl_mem (tb4 69 rfl) rfl
theorem ml_L_82 : Cond.methodLink RL 82 y7_bin ∈ wall := wl_mem (tb4 70 rfl) rfl
theorem im_7_bin : Cond.instanceMethod y7_bin ∈ wall := wl_mem (tb4 71 rfl) rfl
theorem se_7_bin : Cond.selects R7 y7_bin y7_bin ∈ wall := wl_mem (tb4 72 rfl) rfl
theorem cd_7_bin : Cond.code y7_bin b7_bin 3 (some .int) ∈ wall := wl_mem (tb4 73 rfl) rfl
theorem ml_L_87 : Cond.methodLink RL 87 y7_lot ∈ wall := wl_mem (tb4 74 rfl) rfl
theorem im_7_lot : Cond.instanceMethod y7_lot ∈ wall := wl_mem (tb4 75 rfl) rfl
theorem se_7_lot : Cond.selects R7 y7_lot y7_lot ∈ wall := wl_mem (tb4 76 rfl) rfl
theorem cd_7_lot : Cond.code y7_lot b7_lot 4 (some .int) ∈ wall := wl_mem (tb4 77 rfl) rfl
theorem ml_L_91 : Cond.methodLink RL 91 y7_stock ∈ wall := wl_mem (tb4 78 rfl) rfl
theorem im_7_stock : Cond.instanceMethod y7_stock ∈ wall := wl_mem (tb4 79 rfl) rfl
theorem se_7_stock : Cond.selects R7 y7_stock y7_stock ∈ wall := wl_mem (tb4 80 rfl) rfl
theorem cd_7_stock : Cond.code y7_stock b7_stock 4 (some .int) ∈ wall := wl_mem (tb4 81 rfl) rfl
theorem ml_7_191 : Cond.methodLink R7 191 y7_stockOf ∈ wall := wl_mem (tb4 82 rfl) rfl
theorem im_7_stockOf : Cond.instanceMethod y7_stockOf ∈ wall := wl_mem (tb4 84 rfl) rfl
theorem cd_7_stockOf : Cond.code y7_stockOf b7_stockOf 4 (some .int) ∈ wall := wl_mem (tb4 85 rfl) rfl
theorem ml_L_95 : Cond.methodLink RL 95 y7_wanted ∈ wall := wl_mem (tb4 86 rfl) rfl
theorem im_7_wanted : Cond.instanceMethod y7_wanted ∈ wall := wl_mem (tb4 87 rfl) rfl
theorem se_7_wanted : Cond.selects R7 y7_wanted y7_wanted ∈ wall := wl_mem (tb4 88 rfl) rfl
theorem cd_7_wanted : Cond.code y7_wanted b7_wanted 5 (some .int) ∈ wall := wl_mem (tb4 89 rfl) rfl
theorem ml_7_194 : Cond.methodLink R7 194 y7_isWanted ∈ wall := wl_mem (tb4 90 rfl) rfl
theorem im_7_isWanted : Cond.instanceMethod y7_isWanted ∈ wall := wl_mem (tb4 92 rfl) rfl
theorem cd_7_isWanted : Cond.code y7_isWanted b7_isWanted 2 (some .boolean) ∈ wall := wl_mem (tb4 93 rfl) rfl
theorem ml_L_99 : Cond.methodLink RL 99 y7_orderTold ∈ wall := wl_mem (tb4 94 rfl) rfl
theorem im_7_orderTold : Cond.instanceMethod y7_orderTold ∈ wall := wl_mem (tb4 95 rfl) rfl
theorem se_7_orderTold : Cond.selects R7 y7_orderTold y7_orderTold ∈ wall := wl_mem (tb4 96 rfl) rfl
theorem cd_7_orderTold : Cond.code y7_orderTold b7_orderTold 3 (some .int) ∈ wall := wl_mem (tb4 97 rfl) rfl
theorem ml_L_103 : Cond.methodLink RL 103 y7_alarms ∈ wall := wl_mem (tb4 98 rfl) rfl
theorem im_7_alarms : Cond.instanceMethod y7_alarms ∈ wall := wl_mem (tb4 99 rfl) rfl
theorem se_7_alarms : Cond.selects R7 y7_alarms y7_alarms ∈ wall := wl_mem (tb4 100 rfl) rfl
theorem cd_7_alarms : Cond.code y7_alarms b7_alarms 5 (some .int) ∈ wall := wl_mem (tb4 101 rfl) rfl
theorem ml_7_197 : Cond.methodLink R7 197 y7_wholeCopies ∈ wall := wl_mem (tb4 102 rfl) rfl
theorem im_7_wholeCopies : Cond.instanceMethod y7_wholeCopies ∈ wall := wl_mem (tb4 104 rfl) rfl
theorem cd_7_wholeCopies : Cond.code y7_wholeCopies b7_wholeCopies 1 (some .int) ∈ wall := wl_mem (tb4 105 rfl) rfl
theorem ml_L_107 : Cond.methodLink RL 107 y7_told ∈ wall := wl_mem (tb4 106 rfl) rfl
theorem im_7_told : Cond.instanceMethod y7_told ∈ wall := wl_mem (tb4 107 rfl) rfl
theorem se_7_told : Cond.selects R7 y7_told y7_told ∈ wall := wl_mem (tb4 108 rfl) rfl
theorem cd_7_told : Cond.code y7_told b7_told 2 (some .int) ∈ wall := wl_mem (tb4 109 rfl) rfl
theorem ml_L_111 : Cond.methodLink RL 111 y7_entry ∈ wall := wl_mem (tb4 110 rfl) rfl
theorem im_7_entry : Cond.instanceMethod y7_entry ∈ wall := wl_mem (tb4 111 rfl) rfl
theorem se_7_entry : Cond.selects R7 y7_entry y7_entry ∈ wall := wl_mem (tb4 112 rfl) rfl
theorem cd_7_entry : Cond.code y7_entry b7_entry 3 (some .int) ∈ wall := wl_mem (tb4 113 rfl) rfl
theorem ml_L_115 : Cond.methodLink RL 115 y7_lose ∈ wall := wl_mem (tb4 114 rfl) rfl
theorem im_7_lose : Cond.instanceMethod y7_lose ∈ wall := wl_mem (tb4 115 rfl) rfl
theorem se_7_lose : Cond.selects R7 y7_lose y7_lose ∈ wall := wl_mem (tb4 116 rfl) rfl
theorem cd_7_lose : Cond.code y7_lose b7_lose 2 (some .int) ∈ wall := wl_mem (tb4 117 rfl) rfl
theorem ml_L_119 : Cond.methodLink RL 119 y7_repair ∈ wall := wl_mem (tb4 118 rfl) rfl
theorem im_7_repair : Cond.instanceMethod y7_repair ∈ wall := wl_mem (tb4 119 rfl) rfl
theorem se_7_repair : Cond.selects R7 y7_repair y7_repair ∈ wall := wl_mem (tb4 120 rfl) rfl
theorem cd_7_repair : Cond.code y7_repair b7_repair 1 (some .int) ∈ wall := wl_mem (tb4 121 rfl) rfl
theorem ml_L_123 : Cond.methodLink RL 123 y7_audit ∈ wall := wl_mem (tb4 122 rfl) rfl
theorem im_7_audit : Cond.instanceMethod y7_audit ∈ wall := wl_mem (tb4 123 rfl) rfl
theorem se_7_audit : Cond.selects R7 y7_audit y7_audit ∈ wall := wl_mem (tb4 124 rfl) rfl
theorem cd_7_audit : Cond.code y7_audit b7_audit 7 (some .int) ∈ wall := wl_mem (tb4 125 rfl) rfl
theorem se_6_isUser : Cond.selects R6 y6_isUser y6_isUser ∈ wall := wl_mem (tp (q := (y6_isUser, 15)) (List.mem_append_left _ (List.mem_of_getElem? (i := 0) rfl))) rfl
theorem se_6_tryCode : Cond.selects R6 y6_tryCode y6_tryCode ∈ wall := wl_mem (tp (q := (y6_tryCode, 15)) (List.mem_append_left _ (List.mem_of_getElem? (i := 1) rfl))) rfl
theorem se_6_sendOut : Cond.selects R6 y6_sendOut y6_sendOut ∈ wall := wl_mem (tp (q := (y6_sendOut, 15)) (List.mem_append_left _ (List.mem_of_getElem? (i := 2) rfl))) rfl
theorem se_6_accept : Cond.selects R6 y6_accept y6_accept ∈ wall := wl_mem (tp (q := (y6_accept, 15)) (List.mem_append_left _ (List.mem_of_getElem? (i := 3) rfl))) rfl
theorem se_6_isItem : Cond.selects R6 y6_isItem y6_isItem ∈ wall := wl_mem (tp (q := (y6_isItem, 15)) (List.mem_append_left _ (List.mem_of_getElem? (i := 4) rfl))) rfl
theorem se_6_isPharmacistIn : Cond.selects R6 y6_isPharmacistIn y6_isPharmacistIn ∈ wall := wl_mem (tp (q := (y6_isPharmacistIn, 15)) (List.mem_append_left _ (List.mem_of_getElem? (i := 5) rfl))) rfl
theorem se_6_isOrder : Cond.selects R6 y6_isOrder y6_isOrder ∈ wall := wl_mem (tp (q := (y6_isOrder, 15)) (List.mem_append_left _ (List.mem_of_getElem? (i := 6) rfl))) rfl
theorem se_6_isTarget : Cond.selects R6 y6_isTarget y6_isTarget ∈ wall := wl_mem (tp (q := (y6_isTarget, 15)) (List.mem_append_left _ (List.mem_of_getElem? (i := 7) rfl))) rfl
theorem se_6_isBin : Cond.selects R6 y6_isBin y6_isBin ∈ wall := wl_mem (tp (q := (y6_isBin, 15)) (List.mem_append_left _ (List.mem_of_getElem? (i := 8) rfl))) rfl
theorem se_6_isHandlerIn : Cond.selects R6 y6_isHandlerIn y6_isHandlerIn ∈ wall := wl_mem (tp (q := (y6_isHandlerIn, 15)) (List.mem_append_left _ (List.mem_of_getElem? (i := 9) rfl))) rfl
theorem se_6_wantsWitness : Cond.selects R6 y6_wantsWitness y6_wantsWitness ∈ wall := wl_mem (tp (q := (y6_wantsWitness, 15)) (List.mem_append_left _ (List.mem_of_getElem? (i := 10) rfl))) rfl
theorem se_6_isControlled : Cond.selects R6 y6_isControlled y6_isControlled ∈ wall := wl_mem (tp (q := (y6_isControlled, 15)) (List.mem_append_left _ (List.mem_of_getElem? (i := 11) rfl))) rfl
theorem se_6_binToTakeFrom : Cond.selects R6 y6_binToTakeFrom y6_binToTakeFrom ∈ wall := wl_mem (tp (q := (y6_binToTakeFrom, 15)) (List.mem_append_left _ (List.mem_of_getElem? (i := 12) rfl))) rfl
theorem se_0_sumFrom : Cond.selects R0 y0_sumFrom y0_sumFrom ∈ wall := wl_mem (tp (q := (y0_sumFrom, 6)) (List.mem_append_left _ (List.mem_of_getElem? (i := 13) rfl))) rfl
theorem se_0_dropEmptyLots : Cond.selects R0 y0_dropEmptyLots y0_dropEmptyLots ∈ wall := wl_mem (tp (q := (y0_dropEmptyLots, 6)) (List.mem_append_left _ (List.mem_of_getElem? (i := 14) rfl))) rfl
theorem se_6_isAmount : Cond.selects R6 y6_isAmount y6_isAmount ∈ wall := wl_mem (tp (q := (y6_isAmount, 15)) (List.mem_append_left _ (List.mem_of_getElem? (i := 15) rfl))) rfl
theorem se_6_letIn : Cond.selects R6 y6_letIn y6_letIn ∈ wall := wl_mem (tp (q := (y6_letIn, 15)) (List.mem_append_right _ (List.mem_append_left _ (List.mem_of_getElem? (i := 0) rfl)))) rfl
theorem se_6_takeOut : Cond.selects R6 y6_takeOut y6_takeOut ∈ wall := wl_mem (tp (q := (y6_takeOut, 15)) (List.mem_append_right _ (List.mem_append_left _ (List.mem_of_getElem? (i := 1) rfl)))) rfl
theorem se_6_wasteFrom : Cond.selects R6 y6_wasteFrom y6_wasteFrom ∈ wall := wl_mem (tp (q := (y6_wasteFrom, 15)) (List.mem_append_right _ (List.mem_append_left _ (List.mem_of_getElem? (i := 2) rfl)))) rfl
theorem se_6_refusalWithoutStep : Cond.selects R6 y6_refusalWithoutStep y6_refusalWithoutStep ∈ wall := wl_mem (tp (q := (y6_refusalWithoutStep, 15)) (List.mem_append_right _ (List.mem_append_left _ (List.mem_of_getElem? (i := 3) rfl)))) rfl
theorem se_6_isMismatch : Cond.selects R6 y6_isMismatch y6_isMismatch ∈ wall := wl_mem (tp (q := (y6_isMismatch, 15)) (List.mem_append_right _ (List.mem_append_left _ (List.mem_of_getElem? (i := 4) rfl)))) rfl
theorem se_6_givenOf : Cond.selects R6 y6_givenOf y6_givenOf ∈ wall := wl_mem (tp (q := (y6_givenOf, 15)) (List.mem_append_right _ (List.mem_append_left _ (List.mem_of_getElem? (i := 5) rfl)))) rfl
theorem se_6_belowPar : Cond.selects R6 y6_belowPar y6_belowPar ∈ wall := wl_mem (tp (q := (y6_belowPar, 15)) (List.mem_append_right _ (List.mem_append_left _ (List.mem_of_getElem? (i := 6) rfl)))) rfl
theorem se_6_isAnyLocked : Cond.selects R6 y6_isAnyLocked y6_isAnyLocked ∈ wall := wl_mem (tp (q := (y6_isAnyLocked, 15)) (List.mem_append_right _ (List.mem_append_left _ (List.mem_of_getElem? (i := 7) rfl)))) rfl
theorem se_6_isAnyLotExpired : Cond.selects R6 y6_isAnyLotExpired y6_isAnyLotExpired ∈ wall := wl_mem (tp (q := (y6_isAnyLotExpired, 15)) (List.mem_append_right _ (List.mem_append_left _ (List.mem_of_getElem? (i := 8) rfl)))) rfl
theorem se_7_hasUser : Cond.selects R7 y7_hasUser y7_hasUser ∈ wall := wl_mem (tp (q := (y7_hasUser, 39)) (List.mem_append_right _ (List.mem_append_left _ (List.mem_of_getElem? (i := 9) rfl)))) rfl
theorem se_7_tryCode : Cond.selects R7 y7_tryCode y7_tryCode ∈ wall := wl_mem (tp (q := (y7_tryCode, 39)) (List.mem_append_right _ (List.mem_append_left _ (List.mem_of_getElem? (i := 10) rfl)))) rfl
theorem se_7_hasItem : Cond.selects R7 y7_hasItem y7_hasItem ∈ wall := wl_mem (tp (q := (y7_hasItem, 39)) (List.mem_append_right _ (List.mem_append_left _ (List.mem_of_getElem? (i := 11) rfl)))) rfl
theorem se_7_hasOrder : Cond.selects R7 y7_hasOrder y7_hasOrder ∈ wall := wl_mem (tp (q := (y7_hasOrder, 39)) (List.mem_append_right _ (List.mem_append_left _ (List.mem_of_getElem? (i := 12) rfl)))) rfl
theorem se_7_isOpen : Cond.selects R7 y7_isOpen y7_isOpen ∈ wall := wl_mem (tp (q := (y7_isOpen, 39)) (List.mem_append_right _ (List.mem_append_left _ (List.mem_of_getElem? (i := 13) rfl)))) rfl
theorem se_7_isWatched : Cond.selects R7 y7_isWatched y7_isWatched ∈ wall := wl_mem (tp (q := (y7_isWatched, 39)) (List.mem_append_right _ (List.mem_append_left _ (List.mem_of_getElem? (i := 14) rfl)))) rfl
theorem se_7_mayTake : Cond.selects R7 y7_mayTake y7_mayTake ∈ wall := wl_mem (tp (q := (y7_mayTake, 39)) (List.mem_append_right _ (List.mem_append_left _ (List.mem_of_getElem? (i := 15) rfl)))) rfl
theorem se_7_chosen : Cond.selects R7 y7_chosen y7_chosen ∈ wall := wl_mem (tp (q := (y7_chosen, 39)) (List.mem_append_right _ (List.mem_append_right _ (List.mem_of_getElem? (i := 0) rfl)))) rfl
theorem se_7_givableOf : Cond.selects R7 y7_givableOf y7_givableOf ∈ wall := wl_mem (tp (q := (y7_givableOf, 39)) (List.mem_append_right _ (List.mem_append_right _ (List.mem_of_getElem? (i := 1) rfl)))) rfl
theorem se_7_firstOf : Cond.selects R7 y7_firstOf y7_firstOf ∈ wall := wl_mem (tp (q := (y7_firstOf, 39)) (List.mem_append_right _ (List.mem_append_right _ (List.mem_of_getElem? (i := 2) rfl)))) rfl
theorem se_7_bookOf : Cond.selects R7 y7_bookOf y7_bookOf ∈ wall := wl_mem (tp (q := (y7_bookOf, 39)) (List.mem_append_right _ (List.mem_append_right _ (List.mem_of_getElem? (i := 3) rfl)))) rfl
theorem se_7_takeUnits : Cond.selects R7 y7_takeUnits y7_takeUnits ∈ wall := wl_mem (tp (q := (y7_takeUnits, 39)) (List.mem_append_right _ (List.mem_append_right _ (List.mem_of_getElem? (i := 4) rfl)))) rfl
theorem se_7_putLot : Cond.selects R7 y7_putLot y7_putLot ∈ wall := wl_mem (tp (q := (y7_putLot, 39)) (List.mem_append_right _ (List.mem_append_right _ (List.mem_of_getElem? (i := 5) rfl)))) rfl
theorem se_7_note : Cond.selects R7 y7_note y7_note ∈ wall := wl_mem (tp (q := (y7_note, 39)) (List.mem_append_right _ (List.mem_append_right _ (List.mem_of_getElem? (i := 6) rfl)))) rfl
theorem se_7_refusal : Cond.selects R7 y7_refusal y7_refusal ∈ wall := wl_mem (tp (q := (y7_refusal, 39)) (List.mem_append_right _ (List.mem_append_right _ (List.mem_of_getElem? (i := 7) rfl)))) rfl
theorem se_7_stockOf : Cond.selects R7 y7_stockOf y7_stockOf ∈ wall := wl_mem (tp (q := (y7_stockOf, 39)) (List.mem_append_right _ (List.mem_append_right _ (List.mem_of_getElem? (i := 8) rfl)))) rfl
theorem se_7_isWanted : Cond.selects R7 y7_isWanted y7_isWanted ∈ wall := wl_mem (tp (q := (y7_isWanted, 39)) (List.mem_append_right _ (List.mem_append_right _ (List.mem_of_getElem? (i := 9) rfl)))) rfl
theorem se_7_wholeCopies : Cond.selects R7 y7_wholeCopies y7_wholeCopies ∈ wall := wl_mem (tp (q := (y7_wholeCopies, 39)) (List.mem_append_right _ (List.mem_append_right _ (List.mem_of_getElem? (i := 10) rfl)))) rfl
theorem us0 : ∀ w ∈ u_ws R0 T0 6, w ∈ wall := by
  show ∀ w ∈ (List.range 6).map (u_lay R0 T0), w ∈ wall
  refine List.forall_mem_map.mpr (fun k hk => ?_)
  have hk := List.mem_range.mp hk
  rcases (show k = 0 ∨ k = 1 ∨ k = 2 ∨ k = 3 ∨ k = 4 ∨ k = 5 by omega) with rfl | rfl | rfl | rfl | rfl | rfl
  · exact wl_mem (tb1 101 rfl) rfl
  · exact wl_mem (tb1 103 rfl) rfl
  · exact wl_mem (tb1 105 rfl) rfl
  · exact wl_mem (tb1 107 rfl) rfl
  · exact wl_mem (tb1 109 rfl) rfl
  · exact wl_mem (tb1 111 rfl) rfl
theorem us1 : ∀ w ∈ u_ws R1 T1 3, w ∈ wall := by
  show ∀ w ∈ (List.range 3).map (u_lay R1 T1), w ∈ wall
  refine List.forall_mem_map.mpr (fun k hk => ?_)
  have hk := List.mem_range.mp hk
  rcases (show k = 0 ∨ k = 1 ∨ k = 2 by omega) with rfl | rfl | rfl
  · exact wl_mem (tb1 201 rfl) rfl
  · exact wl_mem (tb1 203 rfl) rfl
  · exact wl_mem (tb1 205 rfl) rfl
theorem us2 : ∀ w ∈ u_ws R2 T2 3, w ∈ wall := by
  show ∀ w ∈ (List.range 3).map (u_lay R2 T2), w ∈ wall
  refine List.forall_mem_map.mpr (fun k hk => ?_)
  have hk := List.mem_range.mp hk
  rcases (show k = 0 ∨ k = 1 ∨ k = 2 by omega) with rfl | rfl | rfl
  · exact wl_mem (tb1 75 rfl) rfl
  · exact wl_mem (tb1 77 rfl) rfl
  · exact wl_mem (tb1 79 rfl) rfl
theorem us3 : ∀ w ∈ u_ws R3 T3 7, w ∈ wall := by
  show ∀ w ∈ (List.range 7).map (u_lay R3 T3), w ∈ wall
  refine List.forall_mem_map.mpr (fun k hk => ?_)
  have hk := List.mem_range.mp hk
  rcases (show k = 0 ∨ k = 1 ∨ k = 2 ∨ k = 3 ∨ k = 4 ∨ k = 5 ∨ k = 6 by omega) with rfl | rfl | rfl | rfl | rfl | rfl | rfl
  · exact wl_mem (tb2 36 rfl) rfl
  · exact wl_mem (tb2 38 rfl) rfl
  · exact wl_mem (tb2 40 rfl) rfl
  · exact wl_mem (tb2 42 rfl) rfl
  · exact wl_mem (tb2 44 rfl) rfl
  · exact wl_mem (tb2 46 rfl) rfl
  · exact wl_mem (tb2 48 rfl) rfl
theorem us4 : ∀ w ∈ u_ws R4 T4 7, w ∈ wall := by
  show ∀ w ∈ (List.range 7).map (u_lay R4 T4), w ∈ wall
  refine List.forall_mem_map.mpr (fun k hk => ?_)
  have hk := List.mem_range.mp hk
  rcases (show k = 0 ∨ k = 1 ∨ k = 2 ∨ k = 3 ∨ k = 4 ∨ k = 5 ∨ k = 6 by omega) with rfl | rfl | rfl | rfl | rfl | rfl | rfl
  · exact wl_mem (tb1 47 rfl) rfl
  · exact wl_mem (tb1 49 rfl) rfl
  · exact wl_mem (tb1 51 rfl) rfl
  · exact wl_mem (tb1 53 rfl) rfl
  · exact wl_mem (tb1 55 rfl) rfl
  · exact wl_mem (tb1 57 rfl) rfl
  · exact wl_mem (tb1 59 rfl) rfl
theorem us5 : ∀ w ∈ u_ws R5 T5 4, w ∈ wall := by
  show ∀ w ∈ (List.range 4).map (u_lay R5 T5), w ∈ wall
  refine List.forall_mem_map.mpr (fun k hk => ?_)
  have hk := List.mem_range.mp hk
  rcases (show k = 0 ∨ k = 1 ∨ k = 2 ∨ k = 3 by omega) with rfl | rfl | rfl | rfl
  · exact wl_mem (tb1 177 rfl) rfl
  · exact wl_mem (tb1 179 rfl) rfl
  · exact wl_mem (tb1 181 rfl) rfl
  · exact wl_mem (tb1 183 rfl) rfl
theorem us6 : ∀ w ∈ u_ws R6 T6 15, w ∈ wall := by
  show ∀ w ∈ (List.range 15).map (u_lay R6 T6), w ∈ wall
  refine List.forall_mem_map.mpr (fun k hk => ?_)
  have hk := List.mem_range.mp hk
  rcases (show k = 0 ∨ k = 1 ∨ k = 2 ∨ k = 3 ∨ k = 4 ∨ k = 5 ∨ k = 6 ∨ k = 7 ∨ k = 8 ∨ k = 9 ∨ k = 10 ∨ k = 11 ∨ k = 12 ∨ k = 13 ∨ k = 14 by omega) with rfl | rfl | rfl | rfl | rfl | rfl | rfl | rfl | rfl | rfl | rfl | rfl | rfl | rfl | rfl
  · exact wl_mem (tb1 129 rfl) rfl
  · exact wl_mem (tb1 131 rfl) rfl
  · exact wl_mem (tb1 133 rfl) rfl
  · exact wl_mem (tb1 135 rfl) rfl
  · exact wl_mem (tb1 137 rfl) rfl
  · exact wl_mem (tb1 139 rfl) rfl
  · exact wl_mem (tb1 141 rfl) rfl
  · exact wl_mem (tb1 143 rfl) rfl
  · exact wl_mem (tb1 145 rfl) rfl
  · exact wl_mem (tb1 147 rfl) rfl
  · exact wl_mem (tb1 149 rfl) rfl
  · exact wl_mem (tb1 151 rfl) rfl
  · exact wl_mem (tb1 153 rfl) rfl
  · exact wl_mem (tb1 155 rfl) rfl
  · exact wl_mem (tb1 157 rfl) rfl
theorem us7 : ∀ w ∈ u_ws R7 T7 39, w ∈ wall := by
  show ∀ w ∈ (List.range 39).map (u_lay R7 T7), w ∈ wall
  refine List.forall_mem_map.mpr (fun k hk => ?_)
  have hk := List.mem_range.mp hk
  rcases (show k = 0 ∨ k = 1 ∨ k = 2 ∨ k = 3 ∨ k = 4 ∨ k = 5 ∨ k = 6 ∨ k = 7 ∨ k = 8 ∨ k = 9 ∨ k = 10 ∨ k = 11 ∨ k = 12 ∨ k = 13 ∨ k = 14 ∨ k = 15 ∨ k = 16 ∨ k = 17 ∨ k = 18 ∨ k = 19 ∨ k = 20 ∨ k = 21 ∨ k = 22 ∨ k = 23 ∨ k = 24 ∨ k = 25 ∨ k = 26 ∨ k = 27 ∨ k = 28 ∨ k = 29 ∨ k = 30 ∨ k = 31 ∨ k = 32 ∨ k = 33 ∨ k = 34 ∨ k = 35 ∨ k = 36 ∨ k = 37 ∨ k = 38 by omega) with rfl | rfl | rfl | rfl | rfl | rfl | rfl | rfl | rfl | rfl | rfl | rfl | rfl | rfl | rfl | rfl | rfl | rfl | rfl | rfl | rfl | rfl | rfl | rfl | rfl | rfl | rfl | rfl | rfl | rfl | rfl | rfl | rfl | rfl | rfl | rfl | rfl | rfl | rfl
  · exact wl_mem (tb3 104 rfl) rfl
  · exact wl_mem (tb3 106 rfl) rfl
  · exact wl_mem (tb3 108 rfl) rfl
  · exact wl_mem (tb3 110 rfl) rfl
  · exact wl_mem (tb3 112 rfl) rfl
  · exact wl_mem (tb3 114 rfl) rfl
  · exact wl_mem (tb3 116 rfl) rfl
  · exact wl_mem (tb3 118 rfl) rfl
  · exact wl_mem (tb3 120 rfl) rfl
  · exact wl_mem (tb3 122 rfl) rfl
  · exact wl_mem (tb3 124 rfl) rfl
  · exact wl_mem (tb3 126 rfl) rfl
  · exact wl_mem (tb3 128 rfl) rfl
  · exact wl_mem (tb3 130 rfl) rfl
  · exact wl_mem (tb3 132 rfl) rfl
  · exact wl_mem (tb3 134 rfl) rfl
  · exact wl_mem (tb3 136 rfl) rfl
  · exact wl_mem (tb3 138 rfl) rfl
  · exact wl_mem (tb3 140 rfl) rfl
  · exact wl_mem (tb3 142 rfl) rfl
  · exact wl_mem (tb3 144 rfl) rfl
  · exact wl_mem (tb3 146 rfl) rfl
  · exact wl_mem (tb3 148 rfl) rfl
  · exact wl_mem (tb3 150 rfl) rfl
  · exact wl_mem (tb3 152 rfl) rfl
  · exact wl_mem (tb3 154 rfl) rfl
  · exact wl_mem (tb3 156 rfl) rfl
  · exact wl_mem (tb3 158 rfl) rfl
  · exact wl_mem (tb3 160 rfl) rfl
  · exact wl_mem (tb3 162 rfl) rfl
  · exact wl_mem (tb3 164 rfl) rfl
  · exact wl_mem (tb3 166 rfl) rfl
  · exact wl_mem (tb3 168 rfl) rfl
  · exact wl_mem (tb3 170 rfl) rfl
  · exact wl_mem (tb3 172 rfl) rfl
  · exact wl_mem (tb3 174 rfl) rfl
  · exact wl_mem (tb3 176 rfl) rfl
  · exact wl_mem (tb3 178 rfl) rfl
  · exact wl_mem (tb3 180 rfl) rfl
