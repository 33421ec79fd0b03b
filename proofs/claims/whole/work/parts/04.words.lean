/-- the words of the tables that a call hands on -/
def lw_g : List Cond := lw_tbl.filter goodWord
theorem lw_gi {w : Cond} (i : Nat) (h : lw_tbl[i]? = some w) (hg : goodWord w = true) : w ∈ lw_g := List.mem_filter.mpr ⟨List.mem_of_getElem? h, hg⟩
theorem lw_gg : GoodIn lw_g lw_g := fun w h => ⟨h, good_of_word (List.mem_filter.mp h).2⟩
theorem lw_gc {y : MethodName} {cc : ByteArray} {n : Nat} {r : Option FieldType} (h : Cond.code y cc n r ∈ lw_g) : GoodIn lw_g (.code y cc n r :: lw_g) := fun w hw => (List.mem_cons.mp hw).elim (fun e => by subst e; exact lw_gg _ h) (lw_gg w)
theorem wn_L : (Cond.initialized RL) ∈ lw_g := lw_gi 65 (by decide +kernel) rfl
theorem wn_X6 : (Cond.initialized RX6) ∈ lw_g := lw_gi 66 (by decide +kernel) rfl
theorem wn_X2 : (Cond.initialized RX2) ∈ lw_g := lw_gi 67 (by decide +kernel) rfl
theorem wn_X4 : (Cond.initialized RX4) ∈ lw_g := lw_gi 68 (by decide +kernel) rfl
theorem wn_X5 : (Cond.initialized RX5) ∈ lw_g := lw_gi 69 (by decide +kernel) rfl
theorem wn_X1 : (Cond.initialized RX1) ∈ lw_g := lw_gi 70 (by decide +kernel) rfl
theorem wn_X0 : (Cond.initialized RX0) ∈ lw_g := lw_gi 71 (by decide +kernel) rfl
theorem wn_X3 : (Cond.initialized RX3) ∈ lw_g := lw_gi 72 (by decide +kernel) rfl
theorem wn_X7 : (Cond.initialized RX7) ∈ lw_g := lw_gi 73 (by decide +kernel) rfl
theorem wn_System : (Cond.initialized "java/lang/System") ∈ lw_g := lw_gi 74 (by decide +kernel) rfl
theorem wn_J7 : (Cond.initialized RJ7) ∈ lw_g := lw_gi 75 (by decide +kernel) rfl
theorem wn_Math : (Cond.initialized "java/lang/Math") ∈ lw_g := lw_gi 76 (by decide +kernel) rfl
theorem wn_J6 : (Cond.initialized RJ6) ∈ lw_g := lw_gi 77 (by decide +kernel) rfl
theorem wcl_L_7 : (Cond.classLink RL 7 RX6) ∈ lw_g := lw_gi 78 (by decide +kernel) rfl
theorem wins_X6 : (Cond.instantiable RX6 9) ∈ lw_g := lw_gi 79 (by decide +kernel) rfl
theorem wm_L_9 : (Cond.methodLink RL 9 yX6_init) ∈ lw_g := lw_gi 80 (by decide +kernel) rfl
theorem wi_X6_init : (Cond.instanceMethod yX6_init) ∈ lw_g := lw_gi 81 (by decide +kernel) rfl
set_option maxRecDepth 20000 in
theorem wc_X6_init : (Cond.code yX6_init cX6_init 1 none) ∈ lw_g := lw_gi 82 rfl rfl
theorem wm_X6_1 : (Cond.methodLink RX6 1 objectInit) ∈ lw_g := lw_gi 83 (by decide +kernel) rfl
theorem wi_obj : (Cond.instanceMethod objectInit) ∈ lw_g := lw_gi 84 (by decide +kernel) rfl
set_option maxRecDepth 20000 in
theorem wc_obj : (Cond.code objectInit ⟨#[0xb1]⟩ 1 none) ∈ lw_g := lw_gi 85 rfl rfl
theorem wcl_X6_7 : (Cond.classLink RX6 7 RX2) ∈ lw_g := lw_gi 86 (by decide +kernel) rfl
theorem wins_X2 : (Cond.instantiable RX2 2) ∈ lw_g := lw_gi 87 (by decide +kernel) rfl
theorem wi_X2_init : (Cond.instanceMethod yX2_init) ∈ lw_g := lw_gi 89 (by decide +kernel) rfl
set_option maxRecDepth 20000 in
theorem wc_X2_init : (Cond.code yX2_init cX2_init 1 none) ∈ lw_g := lw_gi 90 rfl rfl
theorem wm_X2_3 : (Cond.methodLink RX2 3 objectInit) ∈ lw_g := lw_gi 91 (by decide +kernel) rfl
theorem wf_X2_9 : (Cond.fieldLink RX2 9 (TX2 0).1 (TX2 0).2.1 (TX2 0).2.2.1) ∈ lw_g := lw_gi 92 (by decide +kernel) rfl
theorem wf_X2_15 : (Cond.fieldLink RX2 15 (TX2 1).1 (TX2 1).2.1 (TX2 1).2.2.1) ∈ lw_g := lw_gi 93 (by decide +kernel) rfl
theorem wa_int : (Cond.arrayClass .int) ∈ lw_g := lw_gi 99 (by decide +kernel) rfl
theorem wcl_X6_16 : (Cond.classLink RX6 16 RX4) ∈ lw_g := lw_gi 100 (by decide +kernel) rfl
theorem wins_X4 : (Cond.instantiable RX4 2) ∈ lw_g := lw_gi 101 (by decide +kernel) rfl
theorem wm_X6_18 : (Cond.methodLink RX6 18 yX4_init) ∈ lw_g := lw_gi 102 (by decide +kernel) rfl
theorem wi_X4_init : (Cond.instanceMethod yX4_init) ∈ lw_g := lw_gi 103 (by decide +kernel) rfl
set_option maxRecDepth 20000 in
theorem wc_X4_init : (Cond.code yX4_init cX4_init 2 none) ∈ lw_g := lw_gi 104 rfl rfl
theorem wm_X4_3 : (Cond.methodLink RX4 3 objectInit) ∈ lw_g := lw_gi 105 (by decide +kernel) rfl
theorem wcl_X4_9 : (Cond.classLink RX4 9 RX2) ∈ lw_g := lw_gi 106 (by decide +kernel) rfl
theorem wf_X4_11 : (Cond.fieldLink RX4 11 (TX4 0).1 (TX4 0).2.1 (TX4 0).2.2.1) ∈ lw_g := lw_gi 109 (by decide +kernel) rfl
theorem wf_X4_18 : (Cond.fieldLink RX4 18 (TX4 1).1 (TX4 1).2.1 (TX4 1).2.2.1) ∈ lw_g := lw_gi 110 (by decide +kernel) rfl
theorem wcl_X6_23 : (Cond.classLink RX6 23 RX5) ∈ lw_g := lw_gi 116 (by decide +kernel) rfl
theorem wins_X5 : (Cond.instantiable RX5 6) ∈ lw_g := lw_gi 117 (by decide +kernel) rfl
theorem wi_X5_init : (Cond.instanceMethod yX5_init) ∈ lw_g := lw_gi 119 (by decide +kernel) rfl
set_option maxRecDepth 20000 in
theorem wc_X5_init : (Cond.code yX5_init cX5_init 1 none) ∈ lw_g := lw_gi 120 rfl rfl
theorem wm_X5_3 : (Cond.methodLink RX5 3 objectInit) ∈ lw_g := lw_gi 121 (by decide +kernel) rfl
theorem wcl_X5_15 : (Cond.classLink RX5 15 RX2) ∈ lw_g := lw_gi 122 (by decide +kernel) rfl
theorem wf_X5_9 : (Cond.fieldLink RX5 9 (TX5 0).1 (TX5 0).2.1 (TX5 0).2.2.1) ∈ lw_g := lw_gi 124 (by decide +kernel) rfl
theorem wf_X5_18 : (Cond.fieldLink RX5 18 (TX5 1).1 (TX5 1).2.1 (TX5 1).2.2.1) ∈ lw_g := lw_gi 125 (by decide +kernel) rfl
theorem wf_X5_22 : (Cond.fieldLink RX5 22 (TX5 2).1 (TX5 2).2.1 (TX5 2).2.2.1) ∈ lw_g := lw_gi 126 (by decide +kernel) rfl
theorem wf_X5_40 : (Cond.fieldLink RX5 40 (TX5 3).1 (TX5 3).2.1 (TX5 3).2.2.1) ∈ lw_g := lw_gi 127 (by decide +kernel) rfl
theorem wf_X5_56 : (Cond.fieldLink RX5 56 (TX5 4).1 (TX5 4).2.1 (TX5 4).2.2.1) ∈ lw_g := lw_gi 128 (by decide +kernel) rfl
theorem wf_X5_63 : (Cond.fieldLink RX5 63 (TX5 5).1 (TX5 5).2.1 (TX5 5).2.2.1) ∈ lw_g := lw_gi 129 (by decide +kernel) rfl
theorem wcl_X6_30 : (Cond.classLink RX6 30 RX1) ∈ lw_g := lw_gi 143 (by decide +kernel) rfl
theorem wins_X1 : (Cond.instantiable RX1 1) ∈ lw_g := lw_gi 144 (by decide +kernel) rfl
theorem wi_X1_init : (Cond.instanceMethod yX1_init) ∈ lw_g := lw_gi 146 (by decide +kernel) rfl
set_option maxRecDepth 20000 in
theorem wc_X1_init : (Cond.code yX1_init cX1_init 1 none) ∈ lw_g := lw_gi 147 rfl rfl
theorem wm_X1_3 : (Cond.methodLink RX1 3 objectInit) ∈ lw_g := lw_gi 148 (by decide +kernel) rfl
theorem wf_X1_9 : (Cond.fieldLink RX1 9 (TX1 0).1 (TX1 0).2.1 (TX1 0).2.2.1) ∈ lw_g := lw_gi 149 (by decide +kernel) rfl
theorem wcl_X6_37 : (Cond.classLink RX6 37 RX0) ∈ lw_g := lw_gi 153 (by decide +kernel) rfl
theorem wins_X0 : (Cond.instantiable RX0 2) ∈ lw_g := lw_gi 154 (by decide +kernel) rfl
theorem wi_X0_init : (Cond.instanceMethod yX0_init) ∈ lw_g := lw_gi 156 (by decide +kernel) rfl
set_option maxRecDepth 20000 in
theorem wc_X0_init : (Cond.code yX0_init cX0_init 1 none) ∈ lw_g := lw_gi 157 rfl rfl
theorem wm_X0_3 : (Cond.methodLink RX0 3 objectInit) ∈ lw_g := lw_gi 158 (by decide +kernel) rfl
theorem wf_X0_9 : (Cond.fieldLink RX0 9 (TX0 0).1 (TX0 0).2.1 (TX0 0).2.2.1) ∈ lw_g := lw_gi 159 (by decide +kernel) rfl
theorem wf_X0_15 : (Cond.fieldLink RX0 15 (TX0 1).1 (TX0 1).2.1 (TX0 1).2.2.1) ∈ lw_g := lw_gi 160 (by decide +kernel) rfl
theorem wcl_X6_44 : (Cond.classLink RX6 44 RX3) ∈ lw_g := lw_gi 166 (by decide +kernel) rfl
theorem wins_X3 : (Cond.instantiable RX3 3) ∈ lw_g := lw_gi 167 (by decide +kernel) rfl
theorem wi_X3_init : (Cond.instanceMethod yX3_init) ∈ lw_g := lw_gi 169 (by decide +kernel) rfl
set_option maxRecDepth 20000 in
theorem wc_X3_init : (Cond.code yX3_init cX3_init 1 none) ∈ lw_g := lw_gi 170 rfl rfl
theorem wm_X3_3 : (Cond.methodLink RX3 3 objectInit) ∈ lw_g := lw_gi 171 (by decide +kernel) rfl
theorem wf_X3_9 : (Cond.fieldLink RX3 9 (TX3 0).1 (TX3 0).2.1 (TX3 0).2.2.1) ∈ lw_g := lw_gi 172 (by decide +kernel) rfl
theorem wf_X3_15 : (Cond.fieldLink RX3 15 (TX3 1).1 (TX3 1).2.1 (TX3 1).2.2.1) ∈ lw_g := lw_gi 173 (by decide +kernel) rfl
theorem wf_X3_18 : (Cond.fieldLink RX3 18 (TX3 2).1 (TX3 2).2.1 (TX3 2).2.2.1) ∈ lw_g := lw_gi 174 (by decide +kernel) rfl
theorem wf_X6_10 : (Cond.fieldLink RX6 10 (TX6 0).1 (TX6 0).2.1 (TX6 0).2.2.1) ∈ lw_g := lw_gi 182 (by decide +kernel) rfl
theorem wf_X6_19 : (Cond.fieldLink RX6 19 (TX6 1).1 (TX6 1).2.1 (TX6 1).2.2.1) ∈ lw_g := lw_gi 183 (by decide +kernel) rfl
theorem wf_X6_26 : (Cond.fieldLink RX6 26 (TX6 2).1 (TX6 2).2.1 (TX6 2).2.2.1) ∈ lw_g := lw_gi 184 (by decide +kernel) rfl
theorem wf_X6_33 : (Cond.fieldLink RX6 33 (TX6 3).1 (TX6 3).2.1 (TX6 3).2.2.1) ∈ lw_g := lw_gi 185 (by decide +kernel) rfl
theorem wf_X6_40 : (Cond.fieldLink RX6 40 (TX6 4).1 (TX6 4).2.1 (TX6 4).2.2.1) ∈ lw_g := lw_gi 186 (by decide +kernel) rfl
theorem wf_X6_47 : (Cond.fieldLink RX6 47 (TX6 5).1 (TX6 5).2.1 (TX6 5).2.2.1) ∈ lw_g := lw_gi 187 (by decide +kernel) rfl
theorem wf_X6_185 : (Cond.fieldLink RX6 185 (TX6 6).1 (TX6 6).2.1 (TX6 6).2.2.1) ∈ lw_g := lw_gi 188 (by decide +kernel) rfl
theorem wf_X6_189 : (Cond.fieldLink RX6 189 (TX6 7).1 (TX6 7).2.1 (TX6 7).2.2.1) ∈ lw_g := lw_gi 189 (by decide +kernel) rfl
theorem wf_X6_192 : (Cond.fieldLink RX6 192 (TX6 8).1 (TX6 8).2.1 (TX6 8).2.2.1) ∈ lw_g := lw_gi 190 (by decide +kernel) rfl
theorem wm_L_13 : (Cond.methodLink RL 13 yX6_line) ∈ lw_g := lw_gi 210 (by decide +kernel) rfl
theorem wi_X6_line : (Cond.instanceMethod yX6_line) ∈ lw_g := lw_gi 211 (by decide +kernel) rfl
theorem wsel_X6_line : (Cond.selects RX6 yX6_line yX6_line) ∈ lw_g := lw_gi 212 (by decide +kernel) rfl
set_option maxRecDepth 20000 in
theorem wc_X6_line : (Cond.code yX6_line cX6_line 4 (some .int)) ∈ lw_g := lw_gi 213 rfl rfl
theorem wm_X6_51 : (Cond.methodLink RX6 51 yX6_below) ∈ lw_g := lw_gi 214 (by decide +kernel) rfl
theorem wt_X6_below : (Cond.static yX6_below) ∈ lw_g := lw_gi 215 (by decide +kernel) rfl
set_option maxRecDepth 20000 in
theorem wc_X6_below : (Cond.code yX6_below cX6_below 2 (some .boolean)) ∈ lw_g := lw_gi 216 rfl rfl
theorem wm_X6_55 : (Cond.methodLink RX6 55 yX6_isName) ∈ lw_g := lw_gi 217 (by decide +kernel) rfl
theorem wt_X6_isName : (Cond.static yX6_isName) ∈ lw_g := lw_gi 218 (by decide +kernel) rfl
set_option maxRecDepth 20000 in
theorem wc_X6_isName : (Cond.code yX6_isName cX6_isName 1 (some .boolean)) ∈ lw_g := lw_gi 219 rfl rfl
theorem wm_X6_59 : (Cond.methodLink RX6 59 yX6_refuseBad) ∈ lw_g := lw_gi 220 (by decide +kernel) rfl
theorem wi_X6_refuseBad : (Cond.instanceMethod yX6_refuseBad) ∈ lw_g := lw_gi 222 (by decide +kernel) rfl
set_option maxRecDepth 20000 in
theorem wc_X6_refuseBad : (Cond.code yX6_refuseBad cX6_refuseBad 1 (some .int)) ∈ lw_g := lw_gi 223 rfl rfl
theorem wm_X6_63 : (Cond.methodLink RX6 63 yX2_size) ∈ lw_g := lw_gi 224 (by decide +kernel) rfl
theorem wi_X2_size : (Cond.instanceMethod yX2_size) ∈ lw_g := lw_gi 225 (by decide +kernel) rfl
theorem wsel_X2_size : (Cond.selects RX2 yX2_size yX2_size) ∈ lw_g := lw_gi 226 (by decide +kernel) rfl
set_option maxRecDepth 20000 in
theorem wc_X2_size : (Cond.code yX2_size cX2_size 1 (some .int)) ∈ lw_g := lw_gi 227 rfl rfl
theorem wm_X6_66 : (Cond.methodLink RX6 66 yX6_refuseFull) ∈ lw_g := lw_gi 228 (by decide +kernel) rfl
theorem wi_X6_refuseFull : (Cond.instanceMethod yX6_refuseFull) ∈ lw_g := lw_gi 230 (by decide +kernel) rfl
set_option maxRecDepth 20000 in
theorem wc_X6_refuseFull : (Cond.code yX6_refuseFull cX6_refuseFull 1 (some .int)) ∈ lw_g := lw_gi 231 rfl rfl
theorem wm_X6_69 : (Cond.methodLink RX6 69 yX4_keep) ∈ lw_g := lw_gi 232 (by decide +kernel) rfl
theorem wi_X4_keep : (Cond.instanceMethod yX4_keep) ∈ lw_g := lw_gi 233 (by decide +kernel) rfl
theorem wsel_X4_keep : (Cond.selects RX4 yX4_keep yX4_keep) ∈ lw_g := lw_gi 234 (by decide +kernel) rfl
set_option maxRecDepth 20000 in
theorem wc_X4_keep : (Cond.code yX4_keep cX4_keep 2 none) ∈ lw_g := lw_gi 235 rfl rfl
theorem wm_X4_22 : (Cond.methodLink RX4 22 yX4_loseOldest) ∈ lw_g := lw_gi 236 (by decide +kernel) rfl
theorem wi_X4_loseOldest : (Cond.instanceMethod yX4_loseOldest) ∈ lw_g := lw_gi 238 (by decide +kernel) rfl
set_option maxRecDepth 20000 in
theorem wc_X4_loseOldest : (Cond.code yX4_loseOldest cX4_loseOldest 3 none) ∈ lw_g := lw_gi 239 rfl rfl
theorem wm_X4_25 : (Cond.methodLink RX4 25 yX2_copyFrom) ∈ lw_g := lw_gi 240 (by decide +kernel) rfl
theorem wi_X2_copyFrom : (Cond.instanceMethod yX2_copyFrom) ∈ lw_g := lw_gi 241 (by decide +kernel) rfl
theorem wsel_X2_copyFrom : (Cond.selects RX2 yX2_copyFrom yX2_copyFrom) ∈ lw_g := lw_gi 242 (by decide +kernel) rfl
set_option maxRecDepth 20000 in
theorem wc_X2_copyFrom : (Cond.code yX2_copyFrom cX2_copyFrom 2 none) ∈ lw_g := lw_gi 243 rfl rfl
theorem wm_X2_23 : (Cond.methodLink RX2 23 arraycopyName) ∈ lw_g := lw_gi 244 (by decide +kernel) rfl
theorem wt_arraycopy : (Cond.static arraycopyName) ∈ lw_g := lw_gi 245 (by decide +kernel) rfl
theorem wnat_arraycopy : (Cond.native arraycopyName) ∈ lw_g := lw_gi 246 (by decide +kernel) rfl
theorem wm_X6_73 : (Cond.methodLink RX6 73 yX2_append) ∈ lw_g := lw_gi 247 (by decide +kernel) rfl
theorem wi_X2_append : (Cond.instanceMethod yX2_append) ∈ lw_g := lw_gi 248 (by decide +kernel) rfl
theorem wsel_X2_append : (Cond.selects RX2 yX2_append yX2_append) ∈ lw_g := lw_gi 249 (by decide +kernel) rfl
set_option maxRecDepth 20000 in
theorem wc_X2_append : (Cond.code yX2_append cX2_append 4 none) ∈ lw_g := lw_gi 250 rfl rfl
theorem wm_L_18 : (Cond.methodLink RL 18 yX6_drops) ∈ lw_g := lw_gi 251 (by decide +kernel) rfl
theorem wi_X6_drops : (Cond.instanceMethod yX6_drops) ∈ lw_g := lw_gi 252 (by decide +kernel) rfl
theorem wsel_X6_drops : (Cond.selects RX6 yX6_drops yX6_drops) ∈ lw_g := lw_gi 253 (by decide +kernel) rfl
set_option maxRecDepth 20000 in
theorem wc_X6_drops : (Cond.code yX6_drops cX6_drops 2 (some .int)) ∈ lw_g := lw_gi 254 rfl rfl
theorem wm_X6_77 : (Cond.methodLink RX6 77 yX6_isLine) ∈ lw_g := lw_gi 255 (by decide +kernel) rfl
theorem wi_X6_isLine : (Cond.instanceMethod yX6_isLine) ∈ lw_g := lw_gi 257 (by decide +kernel) rfl
set_option maxRecDepth 20000 in
theorem wc_X6_isLine : (Cond.code yX6_isLine cX6_isLine 2 (some .boolean)) ∈ lw_g := lw_gi 258 rfl rfl
theorem wm_X6_80 : (Cond.methodLink RX6 80 yX2_removeAt) ∈ lw_g := lw_gi 259 (by decide +kernel) rfl
theorem wi_X2_removeAt : (Cond.instanceMethod yX2_removeAt) ∈ lw_g := lw_gi 260 (by decide +kernel) rfl
theorem wsel_X2_removeAt : (Cond.selects RX2 yX2_removeAt yX2_removeAt) ∈ lw_g := lw_gi 261 (by decide +kernel) rfl
set_option maxRecDepth 20000 in
theorem wc_X2_removeAt : (Cond.code yX2_removeAt cX2_removeAt 2 none) ∈ lw_g := lw_gi 262 rfl rfl
theorem wm_X2_19 : (Cond.methodLink RX2 19 yX2_moveTo) ∈ lw_g := lw_gi 263 (by decide +kernel) rfl
theorem wi_X2_moveTo : (Cond.instanceMethod yX2_moveTo) ∈ lw_g := lw_gi 264 (by decide +kernel) rfl
theorem wsel_X2_moveTo : (Cond.selects RX2 yX2_moveTo yX2_moveTo) ∈ lw_g := lw_gi 265 (by decide +kernel) rfl
set_option maxRecDepth 20000 in
theorem wc_X2_moveTo : (Cond.code yX2_moveTo cX2_moveTo 5 none) ∈ lw_g := lw_gi 266 rfl rfl
theorem wm_L_23 : (Cond.methodLink RL 23 yX6_moves) ∈ lw_g := lw_gi 267 (by decide +kernel) rfl
theorem wi_X6_moves : (Cond.instanceMethod yX6_moves) ∈ lw_g := lw_gi 268 (by decide +kernel) rfl
theorem wsel_X6_moves : (Cond.selects RX6 yX6_moves yX6_moves) ∈ lw_g := lw_gi 269 (by decide +kernel) rfl
set_option maxRecDepth 20000 in
theorem wc_X6_moves : (Cond.code yX6_moves cX6_moves 3 (some .int)) ∈ lw_g := lw_gi 270 rfl rfl
theorem wm_X6_84 : (Cond.methodLink RX6 84 yX2_moveTo) ∈ lw_g := lw_gi 271 (by decide +kernel) rfl
theorem wm_L_28 : (Cond.methodLink RL 28 yX6_of) ∈ lw_g := lw_gi 272 (by decide +kernel) rfl
theorem wi_X6_of : (Cond.instanceMethod yX6_of) ∈ lw_g := lw_gi 273 (by decide +kernel) rfl
theorem wsel_X6_of : (Cond.selects RX6 yX6_of yX6_of) ∈ lw_g := lw_gi 274 (by decide +kernel) rfl
set_option maxRecDepth 20000 in
theorem wc_X6_of : (Cond.code yX6_of cX6_of 3 (some .int)) ∈ lw_g := lw_gi 275 rfl rfl
theorem wm_X6_88 : (Cond.methodLink RX6 88 yX1_solve) ∈ lw_g := lw_gi 276 (by decide +kernel) rfl
theorem wi_X1_solve : (Cond.instanceMethod yX1_solve) ∈ lw_g := lw_gi 277 (by decide +kernel) rfl
theorem wsel_X1_solve : (Cond.selects RX1 yX1_solve yX1_solve) ∈ lw_g := lw_gi 278 (by decide +kernel) rfl
set_option maxRecDepth 20000 in
theorem wc_X1_solve : (Cond.code yX1_solve cX1_solve 6 none) ∈ lw_g := lw_gi 279 rfl rfl
theorem wm_X1_21 : (Cond.methodLink RX1 21 yJ7_fill_53178) ∈ lw_g := lw_gi 280 (by decide +kernel) rfl
theorem wt_J7_fill : (Cond.static yJ7_fill_53178) ∈ lw_g := lw_gi 281 (by decide +kernel) rfl
set_option maxRecDepth 20000 in
theorem wc_J7_fill : (Cond.code yJ7_fill_53178 cJ7_fill_53178 4 none) ∈ lw_g := lw_gi 282 rfl rfl
theorem wm_X1_27 : (Cond.methodLink RX1 27 yX2_size) ∈ lw_g := lw_gi 283 (by decide +kernel) rfl
theorem wm_X1_33 : (Cond.methodLink RX1 33 yX1_apply) ∈ lw_g := lw_gi 284 (by decide +kernel) rfl
theorem wi_X1_apply : (Cond.instanceMethod yX1_apply) ∈ lw_g := lw_gi 286 (by decide +kernel) rfl
set_option maxRecDepth 20000 in
theorem wc_X1_apply : (Cond.code yX1_apply cX1_apply 5 (some .boolean)) ∈ lw_g := lw_gi 287 rfl rfl
theorem wm_X1_37 : (Cond.methodLink RX1 37 yX2_leftAt) ∈ lw_g := lw_gi 288 (by decide +kernel) rfl
theorem wi_X2_leftAt : (Cond.instanceMethod yX2_leftAt) ∈ lw_g := lw_gi 289 (by decide +kernel) rfl
theorem wsel_X2_leftAt : (Cond.selects RX2 yX2_leftAt yX2_leftAt) ∈ lw_g := lw_gi 290 (by decide +kernel) rfl
set_option maxRecDepth 20000 in
theorem wc_X2_leftAt : (Cond.code yX2_leftAt cX2_leftAt 2 (some .int)) ∈ lw_g := lw_gi 291 rfl rfl
theorem wm_X1_40 : (Cond.methodLink RX1 40 yX2_rightAt) ∈ lw_g := lw_gi 292 (by decide +kernel) rfl
theorem wi_X2_rightAt : (Cond.instanceMethod yX2_rightAt) ∈ lw_g := lw_gi 293 (by decide +kernel) rfl
theorem wsel_X2_rightAt : (Cond.selects RX2 yX2_rightAt yX2_rightAt) ∈ lw_g := lw_gi 294 (by decide +kernel) rfl
set_option maxRecDepth 20000 in
theorem wc_X2_rightAt : (Cond.code yX2_rightAt cX2_rightAt 2 (some .int)) ∈ lw_g := lw_gi 295 rfl rfl
theorem wm_X1_43 : (Cond.methodLink RX1 43 yX2_sortAt) ∈ lw_g := lw_gi 296 (by decide +kernel) rfl
theorem wi_X2_sortAt : (Cond.instanceMethod yX2_sortAt) ∈ lw_g := lw_gi 297 (by decide +kernel) rfl
theorem wsel_X2_sortAt : (Cond.selects RX2 yX2_sortAt yX2_sortAt) ∈ lw_g := lw_gi 298 (by decide +kernel) rfl
set_option maxRecDepth 20000 in
theorem wc_X2_sortAt : (Cond.code yX2_sortAt cX2_sortAt 2 (some .int)) ∈ lw_g := lw_gi 299 rfl rfl
theorem wt_X6_bit : (Cond.static yX6_bit) ∈ lw_g := lw_gi 301 (by decide +kernel) rfl
set_option maxRecDepth 20000 in
theorem wc_X6_bit : (Cond.code yX6_bit cX6_bit 1 (some .int)) ∈ lw_g := lw_gi 302 rfl rfl
theorem wm_X1_49 : (Cond.methodLink RX1 49 yX1_grow) ∈ lw_g := lw_gi 303 (by decide +kernel) rfl
theorem wi_X1_grow : (Cond.instanceMethod yX1_grow) ∈ lw_g := lw_gi 305 (by decide +kernel) rfl
set_option maxRecDepth 20000 in
theorem wc_X1_grow : (Cond.code yX1_grow cX1_grow 4 (some .boolean)) ∈ lw_g := lw_gi 306 rfl rfl
theorem wm_X1_53 : (Cond.methodLink RX1 53 yX1_unionOver) ∈ lw_g := lw_gi 307 (by decide +kernel) rfl
theorem wi_X1_unionOver : (Cond.instanceMethod yX1_unionOver) ∈ lw_g := lw_gi 309 (by decide +kernel) rfl
set_option maxRecDepth 20000 in
theorem wc_X1_unionOver : (Cond.code yX1_unionOver cX1_unionOver 4 (some .int)) ∈ lw_g := lw_gi 310 rfl rfl
theorem wt_X6_hasBit : (Cond.static yX6_hasBit) ∈ lw_g := lw_gi 312 (by decide +kernel) rfl
set_option maxRecDepth 20000 in
theorem wc_X6_hasBit : (Cond.code yX6_hasBit cX6_hasBit 2 (some .boolean)) ∈ lw_g := lw_gi 313 rfl rfl
theorem wm_X6_182 : (Cond.methodLink RX6 182 yX6_bit) ∈ lw_g := lw_gi 314 (by decide +kernel) rfl
theorem wm_X1_56 : (Cond.methodLink RX1 56 yX1_growAll) ∈ lw_g := lw_gi 315 (by decide +kernel) rfl
theorem wi_X1_growAll : (Cond.instanceMethod yX1_growAll) ∈ lw_g := lw_gi 317 (by decide +kernel) rfl
set_option maxRecDepth 20000 in
theorem wc_X1_growAll : (Cond.code yX1_growAll cX1_growAll 5 (some .boolean)) ∈ lw_g := lw_gi 318 rfl rfl
theorem wm_X6_92 : (Cond.methodLink RX6 92 yX6_lineDetail) ∈ lw_g := lw_gi 319 (by decide +kernel) rfl
theorem wi_X6_lineDetail : (Cond.instanceMethod yX6_lineDetail) ∈ lw_g := lw_gi 321 (by decide +kernel) rfl
set_option maxRecDepth 20000 in
theorem wc_X6_lineDetail : (Cond.code yX6_lineDetail cX6_lineDetail 3 (some .int)) ∈ lw_g := lw_gi 322 rfl rfl
theorem wm_X6_195 : (Cond.methodLink RX6 195 yX2_sortAt) ∈ lw_g := lw_gi 323 (by decide +kernel) rfl
theorem wm_X6_198 : (Cond.methodLink RX6 198 yX2_leftAt) ∈ lw_g := lw_gi 324 (by decide +kernel) rfl
theorem wm_X6_201 : (Cond.methodLink RX6 201 yX2_rightAt) ∈ lw_g := lw_gi 325 (by decide +kernel) rfl
theorem wm_X6_204 : (Cond.methodLink RX6 204 yX6_writesOf) ∈ lw_g := lw_gi 326 (by decide +kernel) rfl
theorem wi_X6_writesOf : (Cond.instanceMethod yX6_writesOf) ∈ lw_g := lw_gi 328 (by decide +kernel) rfl
set_option maxRecDepth 20000 in
theorem wc_X6_writesOf : (Cond.code yX6_writesOf cX6_writesOf 3 (some .int)) ∈ lw_g := lw_gi 329 rfl rfl
theorem wm_X6_103 : (Cond.methodLink RX6 103 yX1_setOf) ∈ lw_g := lw_gi 330 (by decide +kernel) rfl
theorem wi_X1_setOf : (Cond.instanceMethod yX1_setOf) ∈ lw_g := lw_gi 331 (by decide +kernel) rfl
theorem wsel_X1_setOf : (Cond.selects RX1 yX1_setOf yX1_setOf) ∈ lw_g := lw_gi 332 (by decide +kernel) rfl
set_option maxRecDepth 20000 in
theorem wc_X1_setOf : (Cond.code yX1_setOf cX1_setOf 2 (some .int)) ∈ lw_g := lw_gi 333 rfl rfl
theorem wm_X6_207 : (Cond.methodLink RX6 207 yX6_readsOf) ∈ lw_g := lw_gi 334 (by decide +kernel) rfl
theorem wi_X6_readsOf : (Cond.instanceMethod yX6_readsOf) ∈ lw_g := lw_gi 336 (by decide +kernel) rfl
set_option maxRecDepth 20000 in
theorem wc_X6_readsOf : (Cond.code yX6_readsOf cX6_readsOf 4 (some .int)) ∈ lw_g := lw_gi 337 rfl rfl
theorem wm_L_32 : (Cond.methodLink RL 32 yX6_clash) ∈ lw_g := lw_gi 338 (by decide +kernel) rfl
theorem wi_X6_clash : (Cond.instanceMethod yX6_clash) ∈ lw_g := lw_gi 339 (by decide +kernel) rfl
theorem wsel_X6_clash : (Cond.selects RX6 yX6_clash yX6_clash) ∈ lw_g := lw_gi 340 (by decide +kernel) rfl
set_option maxRecDepth 20000 in
theorem wc_X6_clash : (Cond.code yX6_clash cX6_clash 3 (some .int)) ∈ lw_g := lw_gi 341 rfl rfl
theorem wm_X6_96 : (Cond.methodLink RX6 96 yX6_disturbs) ∈ lw_g := lw_gi 342 (by decide +kernel) rfl
theorem wi_X6_disturbs : (Cond.instanceMethod yX6_disturbs) ∈ lw_g := lw_gi 344 (by decide +kernel) rfl
set_option maxRecDepth 20000 in
theorem wc_X6_disturbs : (Cond.code yX6_disturbs cX6_disturbs 3 (some .boolean)) ∈ lw_g := lw_gi 345 rfl rfl
theorem wm_X6_99 : (Cond.methodLink RX6 99 yX6_asNumber) ∈ lw_g := lw_gi 346 (by decide +kernel) rfl
theorem wt_X6_asNumber : (Cond.static yX6_asNumber) ∈ lw_g := lw_gi 347 (by decide +kernel) rfl
set_option maxRecDepth 20000 in
theorem wc_X6_asNumber : (Cond.code yX6_asNumber cX6_asNumber 1 (some .int)) ∈ lw_g := lw_gi 348 rfl rfl
theorem wm_L_36 : (Cond.methodLink RL 36 yX6_fine) ∈ lw_g := lw_gi 349 (by decide +kernel) rfl
theorem wi_X6_fine : (Cond.instanceMethod yX6_fine) ∈ lw_g := lw_gi 350 (by decide +kernel) rfl
theorem wsel_X6_fine : (Cond.selects RX6 yX6_fine yX6_fine) ∈ lw_g := lw_gi 351 (by decide +kernel) rfl
set_option maxRecDepth 20000 in
theorem wc_X6_fine : (Cond.code yX6_fine cX6_fine 2 (some .int)) ∈ lw_g := lw_gi 352 rfl rfl
theorem wm_L_40 : (Cond.methodLink RL 40 yX6_coarse) ∈ lw_g := lw_gi 353 (by decide +kernel) rfl
theorem wi_X6_coarse : (Cond.instanceMethod yX6_coarse) ∈ lw_g := lw_gi 354 (by decide +kernel) rfl
theorem wsel_X6_coarse : (Cond.selects RX6 yX6_coarse yX6_coarse) ∈ lw_g := lw_gi 355 (by decide +kernel) rfl
set_option maxRecDepth 20000 in
theorem wc_X6_coarse : (Cond.code yX6_coarse cX6_coarse 2 (some .int)) ∈ lw_g := lw_gi 356 rfl rfl
theorem wm_X6_107 : (Cond.methodLink RX6 107 yX0_solve) ∈ lw_g := lw_gi 357 (by decide +kernel) rfl
theorem wi_X0_solve : (Cond.instanceMethod yX0_solve) ∈ lw_g := lw_gi 358 (by decide +kernel) rfl
theorem wsel_X0_solve : (Cond.selects RX0 yX0_solve yX0_solve) ∈ lw_g := lw_gi 359 (by decide +kernel) rfl
set_option maxRecDepth 20000 in
theorem wc_X0_solve : (Cond.code yX0_solve cX0_solve 6 none) ∈ lw_g := lw_gi 360 rfl rfl
theorem wm_X0_37 : (Cond.methodLink RX0 37 yX2_size) ∈ lw_g := lw_gi 361 (by decide +kernel) rfl
theorem wm_X0_43 : (Cond.methodLink RX0 43 yX0_apply) ∈ lw_g := lw_gi 362 (by decide +kernel) rfl
theorem wi_X0_apply : (Cond.instanceMethod yX0_apply) ∈ lw_g := lw_gi 364 (by decide +kernel) rfl
set_option maxRecDepth 20000 in
theorem wc_X0_apply : (Cond.code yX0_apply cX0_apply 5 (some .boolean)) ∈ lw_g := lw_gi 365 rfl rfl
theorem wm_X0_47 : (Cond.methodLink RX0 47 yX2_leftAt) ∈ lw_g := lw_gi 366 (by decide +kernel) rfl
theorem wm_X0_50 : (Cond.methodLink RX0 50 yX2_rightAt) ∈ lw_g := lw_gi 367 (by decide +kernel) rfl
theorem wm_X0_53 : (Cond.methodLink RX0 53 yX2_sortAt) ∈ lw_g := lw_gi 368 (by decide +kernel) rfl
theorem wm_X0_56 : (Cond.methodLink RX0 56 yX0_point) ∈ lw_g := lw_gi 369 (by decide +kernel) rfl
theorem wi_X0_point : (Cond.instanceMethod yX0_point) ∈ lw_g := lw_gi 371 (by decide +kernel) rfl
set_option maxRecDepth 20000 in
theorem wc_X0_point : (Cond.code yX0_point cX0_point 3 (some .boolean)) ∈ lw_g := lw_gi 372 rfl rfl
theorem wm_X0_63 : (Cond.methodLink RX0 63 yX0_join) ∈ lw_g := lw_gi 373 (by decide +kernel) rfl
theorem wi_X0_join : (Cond.instanceMethod yX0_join) ∈ lw_g := lw_gi 375 (by decide +kernel) rfl
set_option maxRecDepth 20000 in
theorem wc_X0_join : (Cond.code yX0_join cX0_join 8 none) ∈ lw_g := lw_gi 376 rfl rfl
theorem wm_X0_67 : (Cond.methodLink RX0 67 Lib.Math.min.name) ∈ lw_g := lw_gi 377 (by decide +kernel) rfl
theorem wt_Math_min : (Cond.static Lib.Math.min.name) ∈ lw_g := lw_gi 378 (by decide +kernel) rfl
set_option maxRecDepth 20000 in
theorem wc_Math_min : (Cond.code Lib.Math.min.name Lib.Math.min.code 2 (some .int)) ∈ lw_g := lw_gi 379 rfl rfl
theorem wm_X0_73 : (Cond.methodLink RX0 73 Lib.Math.max.name) ∈ lw_g := lw_gi 380 (by decide +kernel) rfl
theorem wt_Math_max : (Cond.static Lib.Math.max.name) ∈ lw_g := lw_gi 381 (by decide +kernel) rfl
set_option maxRecDepth 20000 in
theorem wc_Math_max : (Cond.code Lib.Math.max.name Lib.Math.max.code 2 (some .int)) ∈ lw_g := lw_gi 382 rfl rfl
theorem wm_X0_76 : (Cond.methodLink RX0 76 yX0_rename) ∈ lw_g := lw_gi 383 (by decide +kernel) rfl
theorem wi_X0_rename : (Cond.instanceMethod yX0_rename) ∈ lw_g := lw_gi 385 (by decide +kernel) rfl
set_option maxRecDepth 20000 in
theorem wc_X0_rename : (Cond.code yX0_rename cX0_rename 4 none) ∈ lw_g := lw_gi 386 rfl rfl
theorem wm_X0_60 : (Cond.methodLink RX0 60 yX0_targetOf) ∈ lw_g := lw_gi 387 (by decide +kernel) rfl
theorem wi_X0_targetOf : (Cond.instanceMethod yX0_targetOf) ∈ lw_g := lw_gi 388 (by decide +kernel) rfl
theorem wsel_X0_targetOf : (Cond.selects RX0 yX0_targetOf yX0_targetOf) ∈ lw_g := lw_gi 389 (by decide +kernel) rfl
set_option maxRecDepth 20000 in
theorem wc_X0_targetOf : (Cond.code yX0_targetOf cX0_targetOf 2 (some .int)) ∈ lw_g := lw_gi 390 rfl rfl
theorem wm_X6_108 : (Cond.methodLink RX6 108 yX0_setOf) ∈ lw_g := lw_gi 391 (by decide +kernel) rfl
theorem wi_X0_setOf : (Cond.instanceMethod yX0_setOf) ∈ lw_g := lw_gi 392 (by decide +kernel) rfl
theorem wsel_X0_setOf : (Cond.selects RX0 yX0_setOf yX0_setOf) ∈ lw_g := lw_gi 393 (by decide +kernel) rfl
set_option maxRecDepth 20000 in
theorem wc_X0_setOf : (Cond.code yX0_setOf cX0_setOf 2 (some .int)) ∈ lw_g := lw_gi 394 rfl rfl
theorem wm_X0_18 : (Cond.methodLink RX0 18 yX0_membersOf) ∈ lw_g := lw_gi 395 (by decide +kernel) rfl
theorem wi_X0_membersOf : (Cond.instanceMethod yX0_membersOf) ∈ lw_g := lw_gi 396 (by decide +kernel) rfl
theorem wsel_X0_membersOf : (Cond.selects RX0 yX0_membersOf yX0_membersOf) ∈ lw_g := lw_gi 397 (by decide +kernel) rfl
set_option maxRecDepth 20000 in
theorem wc_X0_membersOf : (Cond.code yX0_membersOf cX0_membersOf 4 (some .int)) ∈ lw_g := lw_gi 398 rfl rfl
theorem wm_L_44 : (Cond.methodLink RL 44 yX6_group) ∈ lw_g := lw_gi 400 (by decide +kernel) rfl
theorem wi_X6_group : (Cond.instanceMethod yX6_group) ∈ lw_g := lw_gi 401 (by decide +kernel) rfl
theorem wsel_X6_group : (Cond.selects RX6 yX6_group yX6_group) ∈ lw_g := lw_gi 402 (by decide +kernel) rfl
set_option maxRecDepth 20000 in
theorem wc_X6_group : (Cond.code yX6_group cX6_group 3 (some .int)) ∈ lw_g := lw_gi 403 rfl rfl
theorem wm_X6_109 : (Cond.methodLink RX6 109 yX6_groupDetail) ∈ lw_g := lw_gi 404 (by decide +kernel) rfl
theorem wi_X6_groupDetail : (Cond.instanceMethod yX6_groupDetail) ∈ lw_g := lw_gi 406 (by decide +kernel) rfl
set_option maxRecDepth 20000 in
theorem wc_X6_groupDetail : (Cond.code yX6_groupDetail cX6_groupDetail 3 (some .int)) ∈ lw_g := lw_gi 407 rfl rfl
theorem wm_X6_210 : (Cond.methodLink RX6 210 yX0_groupOf) ∈ lw_g := lw_gi 408 (by decide +kernel) rfl
theorem wi_X0_groupOf : (Cond.instanceMethod yX0_groupOf) ∈ lw_g := lw_gi 409 (by decide +kernel) rfl
theorem wsel_X0_groupOf : (Cond.selects RX0 yX0_groupOf yX0_groupOf) ∈ lw_g := lw_gi 410 (by decide +kernel) rfl
set_option maxRecDepth 20000 in
theorem wc_X0_groupOf : (Cond.code yX0_groupOf cX0_groupOf 2 (some .int)) ∈ lw_g := lw_gi 411 rfl rfl
theorem wm_X6_213 : (Cond.methodLink RX6 213 yX0_membersOf) ∈ lw_g := lw_gi 412 (by decide +kernel) rfl
theorem wm_X6_216 : (Cond.methodLink RX6 216 yX0_targetOf) ∈ lw_g := lw_gi 413 (by decide +kernel) rfl
theorem wm_L_48 : (Cond.methodLink RL 48 yX6_count) ∈ lw_g := lw_gi 414 (by decide +kernel) rfl
theorem wi_X6_count : (Cond.instanceMethod yX6_count) ∈ lw_g := lw_gi 415 (by decide +kernel) rfl
theorem wsel_X6_count : (Cond.selects RX6 yX6_count yX6_count) ∈ lw_g := lw_gi 416 (by decide +kernel) rfl
set_option maxRecDepth 20000 in
theorem wc_X6_count : (Cond.code yX6_count cX6_count 2 (some .int)) ∈ lw_g := lw_gi 417 rfl rfl
theorem wm_X6_112 : (Cond.methodLink RX6 112 yX6_counted) ∈ lw_g := lw_gi 418 (by decide +kernel) rfl
theorem wi_X6_counted : (Cond.instanceMethod yX6_counted) ∈ lw_g := lw_gi 420 (by decide +kernel) rfl
set_option maxRecDepth 20000 in
theorem wc_X6_counted : (Cond.code yX6_counted cX6_counted 2 (some .int)) ∈ lw_g := lw_gi 421 rfl rfl
theorem wm_X6_219 : (Cond.methodLink RX6 219 yX0_groupCount) ∈ lw_g := lw_gi 422 (by decide +kernel) rfl
theorem wi_X0_groupCount : (Cond.instanceMethod yX0_groupCount) ∈ lw_g := lw_gi 423 (by decide +kernel) rfl
theorem wsel_X0_groupCount : (Cond.selects RX0 yX0_groupCount yX0_groupCount) ∈ lw_g := lw_gi 424 (by decide +kernel) rfl
set_option maxRecDepth 20000 in
theorem wc_X0_groupCount : (Cond.code yX0_groupCount cX0_groupCount 3 (some .int)) ∈ lw_g := lw_gi 425 rfl rfl
theorem wm_X6_222 : (Cond.methodLink RX6 222 yX0_pointingCount) ∈ lw_g := lw_gi 427 (by decide +kernel) rfl
theorem wi_X0_pointingCount : (Cond.instanceMethod yX0_pointingCount) ∈ lw_g := lw_gi 428 (by decide +kernel) rfl
theorem wsel_X0_pointingCount : (Cond.selects RX0 yX0_pointingCount yX0_pointingCount) ∈ lw_g := lw_gi 429 (by decide +kernel) rfl
set_option maxRecDepth 20000 in
theorem wc_X0_pointingCount : (Cond.code yX0_pointingCount cX0_pointingCount 3 (some .int)) ∈ lw_g := lw_gi 430 rfl rfl
theorem wm_X6_225 : (Cond.methodLink RX6 225 yX0_selfPointingCount) ∈ lw_g := lw_gi 431 (by decide +kernel) rfl
theorem wi_X0_selfPointingCount : (Cond.instanceMethod yX0_selfPointingCount) ∈ lw_g := lw_gi 432 (by decide +kernel) rfl
theorem wsel_X0_selfPointingCount : (Cond.selects RX0 yX0_selfPointingCount yX0_selfPointingCount) ∈ lw_g := lw_gi 433 (by decide +kernel) rfl
set_option maxRecDepth 20000 in
theorem wc_X0_selfPointingCount : (Cond.code yX0_selfPointingCount cX0_selfPointingCount 3 (some .int)) ∈ lw_g := lw_gi 434 rfl rfl
theorem wm_X6_228 : (Cond.methodLink RX6 228 yX1_total) ∈ lw_g := lw_gi 435 (by decide +kernel) rfl
theorem wi_X1_total : (Cond.instanceMethod yX1_total) ∈ lw_g := lw_gi 436 (by decide +kernel) rfl
theorem wsel_X1_total : (Cond.selects RX1 yX1_total yX1_total) ∈ lw_g := lw_gi 437 (by decide +kernel) rfl
set_option maxRecDepth 20000 in
theorem wc_X1_total : (Cond.code yX1_total cX1_total 3 (some .int)) ∈ lw_g := lw_gi 438 rfl rfl
theorem wm_X1_15 : (Cond.methodLink RX1 15 yJ6_bitCount_0f7a4) ∈ lw_g := lw_gi 439 (by decide +kernel) rfl
theorem wt_J6_bitCount : (Cond.static yJ6_bitCount_0f7a4) ∈ lw_g := lw_gi 440 (by decide +kernel) rfl
set_option maxRecDepth 20000 in
theorem wc_J6_bitCount : (Cond.code yJ6_bitCount_0f7a4 cJ6_bitCount_0f7a4 1 (some .int)) ∈ lw_g := lw_gi 441 rfl rfl
theorem wk_J6_265 : (Cond.constant RJ6 265 (1431655765)) ∈ lw_g := lw_gi 442 (by decide +kernel) rfl
theorem wk_J6_266 : (Cond.constant RJ6 266 (858993459)) ∈ lw_g := lw_gi 443 (by decide +kernel) rfl
theorem wk_J6_267 : (Cond.constant RJ6 267 (252645135)) ∈ lw_g := lw_gi 444 (by decide +kernel) rfl
theorem wm_X6_231 : (Cond.methodLink RX6 231 yX0_total) ∈ lw_g := lw_gi 445 (by decide +kernel) rfl
theorem wi_X0_total : (Cond.instanceMethod yX0_total) ∈ lw_g := lw_gi 446 (by decide +kernel) rfl
theorem wsel_X0_total : (Cond.selects RX0 yX0_total yX0_total) ∈ lw_g := lw_gi 447 (by decide +kernel) rfl
set_option maxRecDepth 20000 in
theorem wc_X0_total : (Cond.code yX0_total cX0_total 3 (some .int)) ∈ lw_g := lw_gi 448 rfl rfl
theorem wm_X0_29 : (Cond.methodLink RX0 29 yX0_setOf) ∈ lw_g := lw_gi 449 (by decide +kernel) rfl
theorem wm_X0_32 : (Cond.methodLink RX0 32 yJ6_bitCount_0f7a4) ∈ lw_g := lw_gi 450 (by decide +kernel) rfl
theorem wm_L_52 : (Cond.methodLink RL 52 yX6_alias) ∈ lw_g := lw_gi 451 (by decide +kernel) rfl
theorem wi_X6_alias : (Cond.instanceMethod yX6_alias) ∈ lw_g := lw_gi 452 (by decide +kernel) rfl
theorem wsel_X6_alias : (Cond.selects RX6 yX6_alias yX6_alias) ∈ lw_g := lw_gi 453 (by decide +kernel) rfl
set_option maxRecDepth 20000 in
theorem wc_X6_alias : (Cond.code yX6_alias cX6_alias 4 (some .int)) ∈ lw_g := lw_gi 454 rfl rfl
theorem wm_X6_115 : (Cond.methodLink RX6 115 yX6_mayPointTo) ∈ lw_g := lw_gi 455 (by decide +kernel) rfl
theorem wi_X6_mayPointTo : (Cond.instanceMethod yX6_mayPointTo) ∈ lw_g := lw_gi 457 (by decide +kernel) rfl
set_option maxRecDepth 20000 in
theorem wc_X6_mayPointTo : (Cond.code yX6_mayPointTo cX6_mayPointTo 4 (some .int)) ∈ lw_g := lw_gi 458 rfl rfl
theorem wm_L_56 : (Cond.methodLink RL 56 yX6_without) ∈ lw_g := lw_gi 459 (by decide +kernel) rfl
theorem wi_X6_without : (Cond.instanceMethod yX6_without) ∈ lw_g := lw_gi 460 (by decide +kernel) rfl
theorem wsel_X6_without : (Cond.selects RX6 yX6_without yX6_without) ∈ lw_g := lw_gi 461 (by decide +kernel) rfl
set_option maxRecDepth 20000 in
theorem wc_X6_without : (Cond.code yX6_without cX6_without 5 (some .int)) ∈ lw_g := lw_gi 462 rfl rfl
theorem wm_X6_119 : (Cond.methodLink RX6 119 yJ6_bitCount_0f7a4) ∈ lw_g := lw_gi 463 (by decide +kernel) rfl
theorem wm_L_60 : (Cond.methodLink RL 60 yX6_points) ∈ lw_g := lw_gi 464 (by decide +kernel) rfl
theorem wi_X6_points : (Cond.instanceMethod yX6_points) ∈ lw_g := lw_gi 465 (by decide +kernel) rfl
theorem wsel_X6_points : (Cond.selects RX6 yX6_points yX6_points) ∈ lw_g := lw_gi 466 (by decide +kernel) rfl
set_option maxRecDepth 20000 in
theorem wc_X6_points : (Cond.code yX6_points cX6_points 3 (some .int)) ∈ lw_g := lw_gi 467 rfl rfl
theorem wm_X6_124 : (Cond.methodLink RX6 124 yX6_isRounds) ∈ lw_g := lw_gi 468 (by decide +kernel) rfl
theorem wt_X6_isRounds : (Cond.static yX6_isRounds) ∈ lw_g := lw_gi 469 (by decide +kernel) rfl
set_option maxRecDepth 20000 in
theorem wc_X6_isRounds : (Cond.code yX6_isRounds cX6_isRounds 1 (some .boolean)) ∈ lw_g := lw_gi 470 rfl rfl
theorem wm_X6_127 : (Cond.methodLink RX6 127 yX3_play) ∈ lw_g := lw_gi 471 (by decide +kernel) rfl
theorem wi_X3_play : (Cond.instanceMethod yX3_play) ∈ lw_g := lw_gi 472 (by decide +kernel) rfl
theorem wsel_X3_play : (Cond.selects RX3 yX3_play yX3_play) ∈ lw_g := lw_gi 473 (by decide +kernel) rfl
set_option maxRecDepth 20000 in
theorem wc_X3_play : (Cond.code yX3_play cX3_play 5 none) ∈ lw_g := lw_gi 474 rfl rfl
theorem wm_X3_22 : (Cond.methodLink RX3 22 yJ7_fill_53178) ∈ lw_g := lw_gi 475 (by decide +kernel) rfl
theorem wm_X3_28 : (Cond.methodLink RX3 28 yX2_size) ∈ lw_g := lw_gi 476 (by decide +kernel) rfl
theorem wm_X3_34 : (Cond.methodLink RX3 34 yX3_carryOut) ∈ lw_g := lw_gi 477 (by decide +kernel) rfl
theorem wi_X3_carryOut : (Cond.instanceMethod yX3_carryOut) ∈ lw_g := lw_gi 479 (by decide +kernel) rfl
set_option maxRecDepth 20000 in
theorem wc_X3_carryOut : (Cond.code yX3_carryOut cX3_carryOut 5 none) ∈ lw_g := lw_gi 480 rfl rfl
theorem wm_X3_38 : (Cond.methodLink RX3 38 yX2_leftAt) ∈ lw_g := lw_gi 481 (by decide +kernel) rfl
theorem wm_X3_42 : (Cond.methodLink RX3 42 yX2_rightAt) ∈ lw_g := lw_gi 482 (by decide +kernel) rfl
theorem wm_X3_45 : (Cond.methodLink RX3 45 yX2_sortAt) ∈ lw_g := lw_gi 483 (by decide +kernel) rfl
theorem wm_X3_48 : (Cond.methodLink RX3 48 yX3_point) ∈ lw_g := lw_gi 484 (by decide +kernel) rfl
theorem wi_X3_point : (Cond.instanceMethod yX3_point) ∈ lw_g := lw_gi 486 (by decide +kernel) rfl
set_option maxRecDepth 20000 in
theorem wc_X3_point : (Cond.code yX3_point cX3_point 3 none) ∈ lw_g := lw_gi 487 rfl rfl
theorem wm_X3_52 : (Cond.methodLink RX3 52 yX3_load) ∈ lw_g := lw_gi 489 (by decide +kernel) rfl
theorem wi_X3_load : (Cond.instanceMethod yX3_load) ∈ lw_g := lw_gi 491 (by decide +kernel) rfl
set_option maxRecDepth 20000 in
theorem wc_X3_load : (Cond.code yX3_load cX3_load 3 none) ∈ lw_g := lw_gi 492 rfl rfl
theorem wm_X3_55 : (Cond.methodLink RX3 55 yX3_store) ∈ lw_g := lw_gi 493 (by decide +kernel) rfl
theorem wi_X3_store : (Cond.instanceMethod yX3_store) ∈ lw_g := lw_gi 495 (by decide +kernel) rfl
set_option maxRecDepth 20000 in
theorem wc_X3_store : (Cond.code yX3_store cX3_store 3 none) ∈ lw_g := lw_gi 496 rfl rfl
theorem wm_X6_130 : (Cond.methodLink RX6 130 yX3_endOf) ∈ lw_g := lw_gi 497 (by decide +kernel) rfl
theorem wi_X3_endOf : (Cond.instanceMethod yX3_endOf) ∈ lw_g := lw_gi 498 (by decide +kernel) rfl
theorem wsel_X3_endOf : (Cond.selects RX3 yX3_endOf yX3_endOf) ∈ lw_g := lw_gi 499 (by decide +kernel) rfl
set_option maxRecDepth 20000 in
theorem wc_X3_endOf : (Cond.code yX3_endOf cX3_endOf 2 (some .int)) ∈ lw_g := lw_gi 500 rfl rfl
theorem wm_L_64 : (Cond.methodLink RL 64 yX6_seen) ∈ lw_g := lw_gi 501 (by decide +kernel) rfl
theorem wi_X6_seen : (Cond.instanceMethod yX6_seen) ∈ lw_g := lw_gi 502 (by decide +kernel) rfl
theorem wsel_X6_seen : (Cond.selects RX6 yX6_seen yX6_seen) ∈ lw_g := lw_gi 503 (by decide +kernel) rfl
set_option maxRecDepth 20000 in
theorem wc_X6_seen : (Cond.code yX6_seen cX6_seen 3 (some .int)) ∈ lw_g := lw_gi 504 rfl rfl
theorem wm_X6_133 : (Cond.methodLink RX6 133 yX3_everOf) ∈ lw_g := lw_gi 505 (by decide +kernel) rfl
theorem wi_X3_everOf : (Cond.instanceMethod yX3_everOf) ∈ lw_g := lw_gi 506 (by decide +kernel) rfl
theorem wsel_X3_everOf : (Cond.selects RX3 yX3_everOf yX3_everOf) ∈ lw_g := lw_gi 507 (by decide +kernel) rfl
set_option maxRecDepth 20000 in
theorem wc_X3_everOf : (Cond.code yX3_everOf cX3_everOf 2 (some .int)) ∈ lw_g := lw_gi 508 rfl rfl
theorem wm_L_68 : (Cond.methodLink RL 68 yX6_misses) ∈ lw_g := lw_gi 509 (by decide +kernel) rfl
theorem wi_X6_misses : (Cond.instanceMethod yX6_misses) ∈ lw_g := lw_gi 510 (by decide +kernel) rfl
theorem wsel_X6_misses : (Cond.selects RX6 yX6_misses yX6_misses) ∈ lw_g := lw_gi 511 (by decide +kernel) rfl
set_option maxRecDepth 20000 in
theorem wc_X6_misses : (Cond.code yX6_misses cX6_misses 2 (some .int)) ∈ lw_g := lw_gi 512 rfl rfl
theorem wm_X6_136 : (Cond.methodLink RX6 136 yX3_missed) ∈ lw_g := lw_gi 513 (by decide +kernel) rfl
theorem wi_X3_missed : (Cond.instanceMethod yX3_missed) ∈ lw_g := lw_gi 514 (by decide +kernel) rfl
theorem wsel_X3_missed : (Cond.selects RX3 yX3_missed yX3_missed) ∈ lw_g := lw_gi 515 (by decide +kernel) rfl
set_option maxRecDepth 20000 in
theorem wc_X3_missed : (Cond.code yX3_missed cX3_missed 1 (some .int)) ∈ lw_g := lw_gi 516 rfl rfl
theorem wm_L_72 : (Cond.methodLink RL 72 yX6_type) ∈ lw_g := lw_gi 517 (by decide +kernel) rfl
theorem wi_X6_type : (Cond.instanceMethod yX6_type) ∈ lw_g := lw_gi 518 (by decide +kernel) rfl
theorem wsel_X6_type : (Cond.selects RX6 yX6_type yX6_type) ∈ lw_g := lw_gi 519 (by decide +kernel) rfl
set_option maxRecDepth 20000 in
theorem wc_X6_type : (Cond.code yX6_type cX6_type 2 (some .int)) ∈ lw_g := lw_gi 520 rfl rfl
theorem wm_X6_139 : (Cond.methodLink RX6 139 yX5_length) ∈ lw_g := lw_gi 521 (by decide +kernel) rfl
theorem wi_X5_length : (Cond.instanceMethod yX5_length) ∈ lw_g := lw_gi 522 (by decide +kernel) rfl
theorem wsel_X5_length : (Cond.selects RX5 yX5_length yX5_length) ∈ lw_g := lw_gi 523 (by decide +kernel) rfl
set_option maxRecDepth 20000 in
theorem wc_X5_length : (Cond.code yX5_length cX5_length 1 (some .int)) ∈ lw_g := lw_gi 524 rfl rfl
theorem wm_X6_142 : (Cond.methodLink RX6 142 yX5_append) ∈ lw_g := lw_gi 525 (by decide +kernel) rfl
theorem wi_X5_append : (Cond.instanceMethod yX5_append) ∈ lw_g := lw_gi 526 (by decide +kernel) rfl
theorem wsel_X5_append : (Cond.selects RX5 yX5_append yX5_append) ∈ lw_g := lw_gi 527 (by decide +kernel) rfl
set_option maxRecDepth 20000 in
theorem wc_X5_append : (Cond.code yX5_append cX5_append 2 none) ∈ lw_g := lw_gi 528 rfl rfl
theorem wm_L_76 : (Cond.methodLink RL 76 yX6_clear) ∈ lw_g := lw_gi 529 (by decide +kernel) rfl
theorem wi_X6_clear : (Cond.instanceMethod yX6_clear) ∈ lw_g := lw_gi 530 (by decide +kernel) rfl
theorem wsel_X6_clear : (Cond.selects RX6 yX6_clear yX6_clear) ∈ lw_g := lw_gi 531 (by decide +kernel) rfl
set_option maxRecDepth 20000 in
theorem wc_X6_clear : (Cond.code yX6_clear cX6_clear 2 (some .int)) ∈ lw_g := lw_gi 532 rfl rfl
theorem wm_X6_144 : (Cond.methodLink RX6 144 yX5_empty) ∈ lw_g := lw_gi 533 (by decide +kernel) rfl
theorem wi_X5_empty : (Cond.instanceMethod yX5_empty) ∈ lw_g := lw_gi 534 (by decide +kernel) rfl
theorem wsel_X5_empty : (Cond.selects RX5 yX5_empty yX5_empty) ∈ lw_g := lw_gi 535 (by decide +kernel) rfl
set_option maxRecDepth 20000 in
theorem wc_X5_empty : (Cond.code yX5_empty cX5_empty 1 none) ∈ lw_g := lw_gi 536 rfl rfl
theorem wm_L_81 : (Cond.methodLink RL 81 yX6_reads) ∈ lw_g := lw_gi 537 (by decide +kernel) rfl
theorem wi_X6_reads : (Cond.instanceMethod yX6_reads) ∈ lw_g := lw_gi 538 (by decide +kernel) rfl
theorem wsel_X6_reads : (Cond.selects RX6 yX6_reads yX6_reads) ∈ lw_g := lw_gi 539 (by decide +kernel) rfl
set_option maxRecDepth 20000 in
theorem wc_X6_reads : (Cond.code yX6_reads cX6_reads 2 (some .int)) ∈ lw_g := lw_gi 540 rfl rfl
theorem wm_X6_147 : (Cond.methodLink RX6 147 yX5_parse) ∈ lw_g := lw_gi 541 (by decide +kernel) rfl
theorem wi_X5_parse : (Cond.instanceMethod yX5_parse) ∈ lw_g := lw_gi 542 (by decide +kernel) rfl
theorem wsel_X5_parse : (Cond.selects RX5 yX5_parse yX5_parse) ∈ lw_g := lw_gi 543 (by decide +kernel) rfl
set_option maxRecDepth 20000 in
theorem wc_X5_parse : (Cond.code yX5_parse cX5_parse 3 (some .int)) ∈ lw_g := lw_gi 544 rfl rfl
theorem wm_X5_26 : (Cond.methodLink RX5 26 yX2_removeAll) ∈ lw_g := lw_gi 545 (by decide +kernel) rfl
theorem wi_X2_removeAll : (Cond.instanceMethod yX2_removeAll) ∈ lw_g := lw_gi 546 (by decide +kernel) rfl
theorem wsel_X2_removeAll : (Cond.selects RX2 yX2_removeAll yX2_removeAll) ∈ lw_g := lw_gi 547 (by decide +kernel) rfl
set_option maxRecDepth 20000 in
theorem wc_X2_removeAll : (Cond.code yX2_removeAll cX2_removeAll 1 none) ∈ lw_g := lw_gi 548 rfl rfl
theorem wm_X5_29 : (Cond.methodLink RX5 29 yX5_stepBehind) ∈ lw_g := lw_gi 549 (by decide +kernel) rfl
theorem wi_X5_stepBehind : (Cond.instanceMethod yX5_stepBehind) ∈ lw_g := lw_gi 551 (by decide +kernel) rfl
set_option maxRecDepth 20000 in
theorem wc_X5_stepBehind : (Cond.code yX5_stepBehind cX5_stepBehind 3 (some .int)) ∈ lw_g := lw_gi 552 rfl rfl
theorem wm_X5_33 : (Cond.methodLink RX5 33 yX5_behindStart) ∈ lw_g := lw_gi 553 (by decide +kernel) rfl
theorem wi_X5_behindStart : (Cond.instanceMethod yX5_behindStart) ∈ lw_g := lw_gi 555 (by decide +kernel) rfl
set_option maxRecDepth 20000 in
theorem wc_X5_behindStart : (Cond.code yX5_behindStart cX5_behindStart 2 (some .int)) ∈ lw_g := lw_gi 556 rfl rfl
theorem wm_X5_52 : (Cond.methodLink RX5 52 yX2_size) ∈ lw_g := lw_gi 557 (by decide +kernel) rfl
theorem wm_X5_37 : (Cond.methodLink RX5 37 yX5_behindLeftName) ∈ lw_g := lw_gi 558 (by decide +kernel) rfl
theorem wi_X5_behindLeftName : (Cond.instanceMethod yX5_behindLeftName) ∈ lw_g := lw_gi 560 (by decide +kernel) rfl
set_option maxRecDepth 20000 in
theorem wc_X5_behindLeftName : (Cond.code yX5_behindLeftName cX5_behindLeftName 2 (some .int)) ∈ lw_g := lw_gi 561 rfl rfl
theorem wm_X5_43 : (Cond.methodLink RX5 43 yX5_behindRightSide) ∈ lw_g := lw_gi 563 (by decide +kernel) rfl
theorem wi_X5_behindRightSide : (Cond.instanceMethod yX5_behindRightSide) ∈ lw_g := lw_gi 565 (by decide +kernel) rfl
set_option maxRecDepth 20000 in
theorem wc_X5_behindRightSide : (Cond.code yX5_behindRightSide cX5_behindRightSide 2 (some .int)) ∈ lw_g := lw_gi 566 rfl rfl
theorem wm_X5_46 : (Cond.methodLink RX5 46 yX5_behindRightName) ∈ lw_g := lw_gi 567 (by decide +kernel) rfl
theorem wi_X5_behindRightName : (Cond.instanceMethod yX5_behindRightName) ∈ lw_g := lw_gi 569 (by decide +kernel) rfl
set_option maxRecDepth 20000 in
theorem wc_X5_behindRightName : (Cond.code yX5_behindRightName cX5_behindRightName 2 (some .int)) ∈ lw_g := lw_gi 570 rfl rfl
theorem wm_X5_49 : (Cond.methodLink RX5 49 yX5_behindEnd) ∈ lw_g := lw_gi 571 (by decide +kernel) rfl
theorem wi_X5_behindEnd : (Cond.instanceMethod yX5_behindEnd) ∈ lw_g := lw_gi 573 (by decide +kernel) rfl
set_option maxRecDepth 20000 in
theorem wc_X5_behindEnd : (Cond.code yX5_behindEnd cX5_behindEnd 2 (some .int)) ∈ lw_g := lw_gi 574 rfl rfl
theorem wm_X5_66 : (Cond.methodLink RX5 66 yX2_append) ∈ lw_g := lw_gi 575 (by decide +kernel) rfl
theorem wm_X6_150 : (Cond.methodLink RX6 150 yX5_parsed) ∈ lw_g := lw_gi 576 (by decide +kernel) rfl
theorem wi_X5_parsed : (Cond.instanceMethod yX5_parsed) ∈ lw_g := lw_gi 577 (by decide +kernel) rfl
theorem wsel_X5_parsed : (Cond.selects RX5 yX5_parsed yX5_parsed) ∈ lw_g := lw_gi 578 (by decide +kernel) rfl
set_option maxRecDepth 20000 in
theorem wc_X5_parsed : (Cond.code yX5_parsed cX5_parsed 1 (some (.object "JoinedNames$Lines"))) ∈ lw_g := lw_gi 579 rfl rfl
theorem wm_X6_154 : (Cond.methodLink RX6 154 yX2_copyFrom) ∈ lw_g := lw_gi 580 (by decide +kernel) rfl
theorem wm_L_85 : (Cond.methodLink RL 85 yX6_shown) ∈ lw_g := lw_gi 581 (by decide +kernel) rfl
theorem wi_X6_shown : (Cond.instanceMethod yX6_shown) ∈ lw_g := lw_gi 582 (by decide +kernel) rfl
theorem wsel_X6_shown : (Cond.selects RX6 yX6_shown yX6_shown) ∈ lw_g := lw_gi 583 (by decide +kernel) rfl
set_option maxRecDepth 20000 in
theorem wc_X6_shown : (Cond.code yX6_shown cX6_shown 2 (some .int)) ∈ lw_g := lw_gi 584 rfl rfl
theorem wm_X6_157 : (Cond.methodLink RX6 157 yX2_writtenLength) ∈ lw_g := lw_gi 585 (by decide +kernel) rfl
theorem wi_X2_writtenLength : (Cond.instanceMethod yX2_writtenLength) ∈ lw_g := lw_gi 586 (by decide +kernel) rfl
theorem wsel_X2_writtenLength : (Cond.selects RX2 yX2_writtenLength yX2_writtenLength) ∈ lw_g := lw_gi 587 (by decide +kernel) rfl
set_option maxRecDepth 20000 in
theorem wc_X2_writtenLength : (Cond.code yX2_writtenLength cX2_writtenLength 3 (some .int)) ∈ lw_g := lw_gi 588 rfl rfl
theorem wm_X2_29 : (Cond.methodLink RX2 29 yX2_lengthAt) ∈ lw_g := lw_gi 589 (by decide +kernel) rfl
theorem wi_X2_lengthAt : (Cond.instanceMethod yX2_lengthAt) ∈ lw_g := lw_gi 591 (by decide +kernel) rfl
set_option maxRecDepth 20000 in
theorem wc_X2_lengthAt : (Cond.code yX2_lengthAt cX2_lengthAt 2 (some .int)) ∈ lw_g := lw_gi 592 rfl rfl
theorem wm_X2_37 : (Cond.methodLink RX2 37 yX2_sortAt) ∈ lw_g := lw_gi 593 (by decide +kernel) rfl
theorem wm_X6_160 : (Cond.methodLink RX6 160 yX2_writtenByte) ∈ lw_g := lw_gi 594 (by decide +kernel) rfl
theorem wi_X2_writtenByte : (Cond.instanceMethod yX2_writtenByte) ∈ lw_g := lw_gi 595 (by decide +kernel) rfl
theorem wsel_X2_writtenByte : (Cond.selects RX2 yX2_writtenByte yX2_writtenByte) ∈ lw_g := lw_gi 596 (by decide +kernel) rfl
set_option maxRecDepth 20000 in
theorem wc_X2_writtenByte : (Cond.code yX2_writtenByte cX2_writtenByte 4 (some .int)) ∈ lw_g := lw_gi 597 rfl rfl
theorem wm_X2_33 : (Cond.methodLink RX2 33 yX2_byteAt) ∈ lw_g := lw_gi 598 (by decide +kernel) rfl
theorem wi_X2_byteAt : (Cond.instanceMethod yX2_byteAt) ∈ lw_g := lw_gi 600 (by decide +kernel) rfl
set_option maxRecDepth 20000 in
theorem wc_X2_byteAt : (Cond.code yX2_byteAt cX2_byteAt 5 (some .int)) ∈ lw_g := lw_gi 601 rfl rfl
theorem wm_X2_40 : (Cond.methodLink RX2 40 yX2_leftAt) ∈ lw_g := lw_gi 602 (by decide +kernel) rfl
theorem wm_X2_43 : (Cond.methodLink RX2 43 yX2_rightAt) ∈ lw_g := lw_gi 603 (by decide +kernel) rfl
theorem wm_L_89 : (Cond.methodLink RL 89 yX6_back) ∈ lw_g := lw_gi 604 (by decide +kernel) rfl
theorem wi_X6_back : (Cond.instanceMethod yX6_back) ∈ lw_g := lw_gi 605 (by decide +kernel) rfl
theorem wsel_X6_back : (Cond.selects RX6 yX6_back yX6_back) ∈ lw_g := lw_gi 606 (by decide +kernel) rfl
set_option maxRecDepth 20000 in
theorem wc_X6_back : (Cond.code yX6_back cX6_back 1 (some .int)) ∈ lw_g := lw_gi 607 rfl rfl
theorem wm_X6_163 : (Cond.methodLink RX6 163 yX4_size) ∈ lw_g := lw_gi 608 (by decide +kernel) rfl
theorem wi_X4_size : (Cond.instanceMethod yX4_size) ∈ lw_g := lw_gi 609 (by decide +kernel) rfl
theorem wsel_X4_size : (Cond.selects RX4 yX4_size yX4_size) ∈ lw_g := lw_gi 610 (by decide +kernel) rfl
set_option maxRecDepth 20000 in
theorem wc_X4_size : (Cond.code yX4_size cX4_size 1 (some .int)) ∈ lw_g := lw_gi 611 rfl rfl
theorem wm_X6_164 : (Cond.methodLink RX6 164 yX6_refuseNo) ∈ lw_g := lw_gi 612 (by decide +kernel) rfl
theorem wi_X6_refuseNo : (Cond.instanceMethod yX6_refuseNo) ∈ lw_g := lw_gi 614 (by decide +kernel) rfl
set_option maxRecDepth 20000 in
theorem wc_X6_refuseNo : (Cond.code yX6_refuseNo cX6_refuseNo 1 (some .int)) ∈ lw_g := lw_gi 615 rfl rfl
theorem wm_X6_167 : (Cond.methodLink RX6 167 yX4_restore) ∈ lw_g := lw_gi 616 (by decide +kernel) rfl
theorem wi_X4_restore : (Cond.instanceMethod yX4_restore) ∈ lw_g := lw_gi 617 (by decide +kernel) rfl
theorem wsel_X4_restore : (Cond.selects RX4 yX4_restore yX4_restore) ∈ lw_g := lw_gi 618 (by decide +kernel) rfl
set_option maxRecDepth 20000 in
theorem wc_X4_restore : (Cond.code yX4_restore cX4_restore 2 none) ∈ lw_g := lw_gi 619 rfl rfl
theorem wm_L_93 : (Cond.methodLink RL 93 yX6_told) ∈ lw_g := lw_gi 620 (by decide +kernel) rfl
theorem wi_X6_told : (Cond.instanceMethod yX6_told) ∈ lw_g := lw_gi 621 (by decide +kernel) rfl
theorem wsel_X6_told : (Cond.selects RX6 yX6_told yX6_told) ∈ lw_g := lw_gi 622 (by decide +kernel) rfl
set_option maxRecDepth 20000 in
theorem wc_X6_told : (Cond.code yX6_told cX6_told 2 (some .int)) ∈ lw_g := lw_gi 623 rfl rfl
theorem wm_X6_170 : (Cond.methodLink RX6 170 yX6_tally) ∈ lw_g := lw_gi 624 (by decide +kernel) rfl
theorem wi_X6_tally : (Cond.instanceMethod yX6_tally) ∈ lw_g := lw_gi 626 (by decide +kernel) rfl
set_option maxRecDepth 20000 in
theorem wc_X6_tally : (Cond.code yX6_tally cX6_tally 2 (some .int)) ∈ lw_g := lw_gi 627 rfl rfl
theorem wm_L_97 : (Cond.methodLink RL 97 yX6_digest) ∈ lw_g := lw_gi 628 (by decide +kernel) rfl
theorem wi_X6_digest : (Cond.instanceMethod yX6_digest) ∈ lw_g := lw_gi 629 (by decide +kernel) rfl
theorem wsel_X6_digest : (Cond.selects RX6 yX6_digest yX6_digest) ∈ lw_g := lw_gi 630 (by decide +kernel) rfl
set_option maxRecDepth 20000 in
theorem wc_X6_digest : (Cond.code yX6_digest cX6_digest 5 (some .long)) ∈ lw_g := lw_gi 631 rfl rfl
theorem wk_X6_173 : (Cond.constantLong RX6 173 (2531)) ∈ lw_g := lw_gi 632 (by decide +kernel) rfl
theorem wm_X6_175 : (Cond.methodLink RX6 175 yX6_mixed) ∈ lw_g := lw_gi 633 (by decide +kernel) rfl
theorem wt_X6_mixed : (Cond.static yX6_mixed) ∈ lw_g := lw_gi 634 (by decide +kernel) rfl
set_option maxRecDepth 20000 in
theorem wc_X6_mixed : (Cond.code yX6_mixed cX6_mixed 3 (some .long)) ∈ lw_g := lw_gi 635 rfl rfl
theorem wk_X6_232 : (Cond.constantLong RX6 232 (31)) ∈ lw_g := lw_gi 636 (by decide +kernel) rfl
theorem wm_X6_179 : (Cond.methodLink RX6 179 yX6_mixedName) ∈ lw_g := lw_gi 637 (by decide +kernel) rfl
theorem wi_X6_mixedName : (Cond.instanceMethod yX6_mixedName) ∈ lw_g := lw_gi 639 (by decide +kernel) rfl
set_option maxRecDepth 20000 in
theorem wc_X6_mixedName : (Cond.code yX6_mixedName cX6_mixedName 6 (some .long)) ∈ lw_g := lw_gi 640 rfl rfl
theorem wcl_L_10 : (Cond.classLink RL 10 RX7) ∈ lw_g := lw_gi 641 (by decide +kernel) rfl
theorem wins_X7 : (Cond.instantiable RX7 18) ∈ lw_g := lw_gi 642 (by decide +kernel) rfl
theorem wm_L_12 : (Cond.methodLink RL 12 yX7_init) ∈ lw_g := lw_gi 643 (by decide +kernel) rfl
theorem wi_X7_init : (Cond.instanceMethod yX7_init) ∈ lw_g := lw_gi 644 (by decide +kernel) rfl
set_option maxRecDepth 20000 in
theorem wc_X7_init : (Cond.code yX7_init cX7_init 1 none) ∈ lw_g := lw_gi 645 rfl rfl
theorem wm_X7_1 : (Cond.methodLink RX7 1 objectInit) ∈ lw_g := lw_gi 646 (by decide +kernel) rfl
theorem wf_X7_7 : (Cond.fieldLink RX7 7 (TX7 0).1 (TX7 0).2.1 (TX7 0).2.2.1) ∈ lw_g := lw_gi 647 (by decide +kernel) rfl
theorem wf_X7_13 : (Cond.fieldLink RX7 13 (TX7 1).1 (TX7 1).2.1 (TX7 1).2.2.1) ∈ lw_g := lw_gi 648 (by decide +kernel) rfl
theorem wf_X7_16 : (Cond.fieldLink RX7 16 (TX7 2).1 (TX7 2).2.1 (TX7 2).2.2.1) ∈ lw_g := lw_gi 649 (by decide +kernel) rfl
theorem wf_X7_47 : (Cond.fieldLink RX7 47 (TX7 3).1 (TX7 3).2.1 (TX7 3).2.2.1) ∈ lw_g := lw_gi 650 (by decide +kernel) rfl
theorem wf_X7_19 : (Cond.fieldLink RX7 19 (TX7 4).1 (TX7 4).2.1 (TX7 4).2.2.1) ∈ lw_g := lw_gi 651 (by decide +kernel) rfl
theorem wf_X7_22 : (Cond.fieldLink RX7 22 (TX7 5).1 (TX7 5).2.1 (TX7 5).2.2.1) ∈ lw_g := lw_gi 652 (by decide +kernel) rfl
theorem wf_X7_136 : (Cond.fieldLink RX7 136 (TX7 6).1 (TX7 6).2.1 (TX7 6).2.2.1) ∈ lw_g := lw_gi 653 (by decide +kernel) rfl
theorem wf_X7_25 : (Cond.fieldLink RX7 25 (TX7 7).1 (TX7 7).2.1 (TX7 7).2.2.1) ∈ lw_g := lw_gi 654 (by decide +kernel) rfl
theorem wf_X7_65 : (Cond.fieldLink RX7 65 (TX7 8).1 (TX7 8).2.1 (TX7 8).2.2.1) ∈ lw_g := lw_gi 655 (by decide +kernel) rfl
theorem wf_X7_28 : (Cond.fieldLink RX7 28 (TX7 9).1 (TX7 9).2.1 (TX7 9).2.2.1) ∈ lw_g := lw_gi 656 (by decide +kernel) rfl
theorem wf_X7_31 : (Cond.fieldLink RX7 31 (TX7 10).1 (TX7 10).2.1 (TX7 10).2.2.1) ∈ lw_g := lw_gi 657 (by decide +kernel) rfl
theorem wf_X7_34 : (Cond.fieldLink RX7 34 (TX7 11).1 (TX7 11).2.1 (TX7 11).2.2.1) ∈ lw_g := lw_gi 658 (by decide +kernel) rfl
theorem wf_X7_37 : (Cond.fieldLink RX7 37 (TX7 12).1 (TX7 12).2.1 (TX7 12).2.2.1) ∈ lw_g := lw_gi 659 (by decide +kernel) rfl
theorem wf_X7_127 : (Cond.fieldLink RX7 127 (TX7 13).1 (TX7 13).2.1 (TX7 13).2.2.1) ∈ lw_g := lw_gi 660 (by decide +kernel) rfl
theorem wf_X7_139 : (Cond.fieldLink RX7 139 (TX7 14).1 (TX7 14).2.1 (TX7 14).2.2.1) ∈ lw_g := lw_gi 661 (by decide +kernel) rfl
theorem wf_X7_40 : (Cond.fieldLink RX7 40 (TX7 15).1 (TX7 15).2.1 (TX7 15).2.2.1) ∈ lw_g := lw_gi 662 (by decide +kernel) rfl
theorem wf_X7_159 : (Cond.fieldLink RX7 159 (TX7 16).1 (TX7 16).2.1 (TX7 16).2.2.1) ∈ lw_g := lw_gi 663 (by decide +kernel) rfl
theorem wf_X7_173 : (Cond.fieldLink RX7 173 (TX7 17).1 (TX7 17).2.1 (TX7 17).2.2.1) ∈ lw_g := lw_gi 664 (by decide +kernel) rfl
theorem wm_L_92 : (Cond.methodLink RL 92 yX7_back) ∈ lw_g := lw_gi 702 (by decide +kernel) rfl
theorem wi_X7_back : (Cond.instanceMethod yX7_back) ∈ lw_g := lw_gi 703 (by decide +kernel) rfl
theorem wsel_X7_back : (Cond.selects RX7 yX7_back yX7_back) ∈ lw_g := lw_gi 704 (by decide +kernel) rfl
set_option maxRecDepth 20000 in
theorem wc_X7_back : (Cond.code yX7_back cX7_back 2 (some .int)) ∈ lw_g := lw_gi 705 rfl rfl
theorem wm_X7_51 : (Cond.methodLink RX7 51 yX7_counts) ∈ lw_g := lw_gi 706 (by decide +kernel) rfl
theorem wi_X7_counts : (Cond.instanceMethod yX7_counts) ∈ lw_g := lw_gi 708 (by decide +kernel) rfl
set_option maxRecDepth 20000 in
theorem wc_X7_counts : (Cond.code yX7_counts cX7_counts 2 (some .int)) ∈ lw_g := lw_gi 709 rfl rfl
theorem wm_L_17 : (Cond.methodLink RL 17 yX7_line) ∈ lw_g := lw_gi 710 (by decide +kernel) rfl
theorem wi_X7_line : (Cond.instanceMethod yX7_line) ∈ lw_g := lw_gi 711 (by decide +kernel) rfl
theorem wsel_X7_line : (Cond.selects RX7 yX7_line yX7_line) ∈ lw_g := lw_gi 712 (by decide +kernel) rfl
set_option maxRecDepth 20000 in
theorem wc_X7_line : (Cond.code yX7_line cX7_line 4 (some .int)) ∈ lw_g := lw_gi 713 rfl rfl
theorem wm_X7_43 : (Cond.methodLink RX7 43 yX7_within) ∈ lw_g := lw_gi 714 (by decide +kernel) rfl
theorem wt_X7_within : (Cond.static yX7_within) ∈ lw_g := lw_gi 715 (by decide +kernel) rfl
set_option maxRecDepth 20000 in
theorem wc_X7_within : (Cond.code yX7_within cX7_within 3 (some .boolean)) ∈ lw_g := lw_gi 716 rfl rfl
theorem wm_X7_55 : (Cond.methodLink RX7 55 yX7_isName) ∈ lw_g := lw_gi 717 (by decide +kernel) rfl
theorem wt_X7_isName : (Cond.static yX7_isName) ∈ lw_g := lw_gi 718 (by decide +kernel) rfl
set_option maxRecDepth 20000 in
theorem wc_X7_isName : (Cond.code yX7_isName cX7_isName 1 (some .boolean)) ∈ lw_g := lw_gi 719 rfl rfl
theorem wm_X7_59 : (Cond.methodLink RX7 59 yX7_leaves) ∈ lw_g := lw_gi 720 (by decide +kernel) rfl
theorem wi_X7_leaves : (Cond.instanceMethod yX7_leaves) ∈ lw_g := lw_gi 722 (by decide +kernel) rfl
set_option maxRecDepth 20000 in
theorem wc_X7_leaves : (Cond.code yX7_leaves cX7_leaves 2 none) ∈ lw_g := lw_gi 723 rfl rfl
theorem wm_L_22 : (Cond.methodLink RL 22 yX7_drops) ∈ lw_g := lw_gi 724 (by decide +kernel) rfl
theorem wi_X7_drops : (Cond.instanceMethod yX7_drops) ∈ lw_g := lw_gi 725 (by decide +kernel) rfl
theorem wsel_X7_drops : (Cond.selects RX7 yX7_drops yX7_drops) ∈ lw_g := lw_gi 726 (by decide +kernel) rfl
set_option maxRecDepth 20000 in
theorem wc_X7_drops : (Cond.code yX7_drops cX7_drops 3 (some .int)) ∈ lw_g := lw_gi 727 rfl rfl
theorem wm_X7_62 : (Cond.methodLink RX7 62 yX7_isLine) ∈ lw_g := lw_gi 728 (by decide +kernel) rfl
theorem wi_X7_isLine : (Cond.instanceMethod yX7_isLine) ∈ lw_g := lw_gi 730 (by decide +kernel) rfl
set_option maxRecDepth 20000 in
theorem wc_X7_isLine : (Cond.code yX7_isLine cX7_isLine 2 (some .boolean)) ∈ lw_g := lw_gi 731 rfl rfl
theorem wm_L_27 : (Cond.methodLink RL 27 yX7_moves) ∈ lw_g := lw_gi 732 (by decide +kernel) rfl
theorem wi_X7_moves : (Cond.instanceMethod yX7_moves) ∈ lw_g := lw_gi 733 (by decide +kernel) rfl
theorem wsel_X7_moves : (Cond.selects RX7 yX7_moves yX7_moves) ∈ lw_g := lw_gi 734 (by decide +kernel) rfl
set_option maxRecDepth 20000 in
theorem wc_X7_moves : (Cond.code yX7_moves cX7_moves 5 (some .int)) ∈ lw_g := lw_gi 735 rfl rfl
theorem wm_L_31 : (Cond.methodLink RL 31 yX7_of) ∈ lw_g := lw_gi 736 (by decide +kernel) rfl
theorem wi_X7_of : (Cond.instanceMethod yX7_of) ∈ lw_g := lw_gi 737 (by decide +kernel) rfl
theorem wsel_X7_of : (Cond.selects RX7 yX7_of yX7_of) ∈ lw_g := lw_gi 738 (by decide +kernel) rfl
set_option maxRecDepth 20000 in
theorem wc_X7_of : (Cond.code yX7_of cX7_of 3 (some .int)) ∈ lw_g := lw_gi 739 rfl rfl
theorem wm_X7_108 : (Cond.methodLink RX7 108 yX7_laysFine) ∈ lw_g := lw_gi 740 (by decide +kernel) rfl
theorem wi_X7_laysFine : (Cond.instanceMethod yX7_laysFine) ∈ lw_g := lw_gi 742 (by decide +kernel) rfl
set_option maxRecDepth 20000 in
theorem wc_X7_laysFine : (Cond.code yX7_laysFine cX7_laysFine 3 none) ∈ lw_g := lw_gi 743 rfl rfl
theorem wm_X7_86 : (Cond.methodLink RX7 86 yX7_growsBy) ∈ lw_g := lw_gi 744 (by decide +kernel) rfl
theorem wi_X7_growsBy : (Cond.instanceMethod yX7_growsBy) ∈ lw_g := lw_gi 746 (by decide +kernel) rfl
set_option maxRecDepth 20000 in
theorem wc_X7_growsBy : (Cond.code yX7_growsBy cX7_growsBy 5 none) ∈ lw_g := lw_gi 747 rfl rfl
theorem wm_X7_69 : (Cond.methodLink RX7 69 yX7_xOf) ∈ lw_g := lw_gi 748 (by decide +kernel) rfl
theorem wi_X7_xOf : (Cond.instanceMethod yX7_xOf) ∈ lw_g := lw_gi 750 (by decide +kernel) rfl
set_option maxRecDepth 20000 in
theorem wc_X7_xOf : (Cond.code yX7_xOf cX7_xOf 2 (some .int)) ∈ lw_g := lw_gi 751 rfl rfl
theorem wm_X7_72 : (Cond.methodLink RX7 72 yX7_yOf) ∈ lw_g := lw_gi 752 (by decide +kernel) rfl
theorem wi_X7_yOf : (Cond.instanceMethod yX7_yOf) ∈ lw_g := lw_gi 754 (by decide +kernel) rfl
set_option maxRecDepth 20000 in
theorem wc_X7_yOf : (Cond.code yX7_yOf cX7_yOf 2 (some .int)) ∈ lw_g := lw_gi 755 rfl rfl
theorem wm_X7_75 : (Cond.methodLink RX7 75 yX7_sortOf) ∈ lw_g := lw_gi 756 (by decide +kernel) rfl
theorem wi_X7_sortOf : (Cond.instanceMethod yX7_sortOf) ∈ lw_g := lw_gi 758 (by decide +kernel) rfl
set_option maxRecDepth 20000 in
theorem wc_X7_sortOf : (Cond.code yX7_sortOf cX7_sortOf 2 (some .int)) ∈ lw_g := lw_gi 759 rfl rfl
theorem wm_X7_78 : (Cond.methodLink RX7 78 yX7_has) ∈ lw_g := lw_gi 760 (by decide +kernel) rfl
theorem wt_X7_has : (Cond.static yX7_has) ∈ lw_g := lw_gi 761 (by decide +kernel) rfl
set_option maxRecDepth 20000 in
theorem wc_X7_has : (Cond.code yX7_has cX7_has 2 (some .boolean)) ∈ lw_g := lw_gi 762 rfl rfl
theorem wm_X7_82 : (Cond.methodLink RX7 82 yX7_gets) ∈ lw_g := lw_gi 763 (by decide +kernel) rfl
theorem wi_X7_gets : (Cond.instanceMethod yX7_gets) ∈ lw_g := lw_gi 765 (by decide +kernel) rfl
set_option maxRecDepth 20000 in
theorem wc_X7_gets : (Cond.code yX7_gets cX7_gets 3 none) ∈ lw_g := lw_gi 766 rfl rfl
theorem wm_X7_111 : (Cond.methodLink RX7 111 yX7_ofLine) ∈ lw_g := lw_gi 767 (by decide +kernel) rfl
theorem wi_X7_ofLine : (Cond.instanceMethod yX7_ofLine) ∈ lw_g := lw_gi 769 (by decide +kernel) rfl
set_option maxRecDepth 20000 in
theorem wc_X7_ofLine : (Cond.code yX7_ofLine cX7_ofLine 3 (some .int)) ∈ lw_g := lw_gi 770 rfl rfl
theorem wm_X7_102 : (Cond.methodLink RX7 102 yX7_writes) ∈ lw_g := lw_gi 771 (by decide +kernel) rfl
theorem wi_X7_writes : (Cond.instanceMethod yX7_writes) ∈ lw_g := lw_gi 773 (by decide +kernel) rfl
set_option maxRecDepth 20000 in
theorem wc_X7_writes : (Cond.code yX7_writes cX7_writes 2 (some .int)) ∈ lw_g := lw_gi 774 rfl rfl
theorem wm_X7_105 : (Cond.methodLink RX7 105 yX7_readBy) ∈ lw_g := lw_gi 775 (by decide +kernel) rfl
theorem wi_X7_readBy : (Cond.instanceMethod yX7_readBy) ∈ lw_g := lw_gi 777 (by decide +kernel) rfl
set_option maxRecDepth 20000 in
theorem wc_X7_readBy : (Cond.code yX7_readBy cX7_readBy 3 (some .int)) ∈ lw_g := lw_gi 778 rfl rfl
theorem wm_L_35 : (Cond.methodLink RL 35 yX7_clash) ∈ lw_g := lw_gi 779 (by decide +kernel) rfl
theorem wi_X7_clash : (Cond.instanceMethod yX7_clash) ∈ lw_g := lw_gi 780 (by decide +kernel) rfl
theorem wsel_X7_clash : (Cond.selects RX7 yX7_clash yX7_clash) ∈ lw_g := lw_gi 781 (by decide +kernel) rfl
set_option maxRecDepth 20000 in
theorem wc_X7_clash : (Cond.code yX7_clash cX7_clash 4 (some .int)) ∈ lw_g := lw_gi 782 rfl rfl
theorem wm_L_39 : (Cond.methodLink RL 39 yX7_fine) ∈ lw_g := lw_gi 783 (by decide +kernel) rfl
theorem wi_X7_fine : (Cond.instanceMethod yX7_fine) ∈ lw_g := lw_gi 784 (by decide +kernel) rfl
theorem wsel_X7_fine : (Cond.selects RX7 yX7_fine yX7_fine) ∈ lw_g := lw_gi 785 (by decide +kernel) rfl
set_option maxRecDepth 20000 in
theorem wc_X7_fine : (Cond.code yX7_fine cX7_fine 2 (some .int)) ∈ lw_g := lw_gi 786 rfl rfl
theorem wm_L_43 : (Cond.methodLink RL 43 yX7_coarse) ∈ lw_g := lw_gi 787 (by decide +kernel) rfl
theorem wi_X7_coarse : (Cond.instanceMethod yX7_coarse) ∈ lw_g := lw_gi 788 (by decide +kernel) rfl
theorem wsel_X7_coarse : (Cond.selects RX7 yX7_coarse yX7_coarse) ∈ lw_g := lw_gi 789 (by decide +kernel) rfl
set_option maxRecDepth 20000 in
theorem wc_X7_coarse : (Cond.code yX7_coarse cX7_coarse 2 (some .int)) ∈ lw_g := lw_gi 790 rfl rfl
theorem wm_X7_115 : (Cond.methodLink RX7 115 yX7_laysCoarse) ∈ lw_g := lw_gi 791 (by decide +kernel) rfl
theorem wi_X7_laysCoarse : (Cond.instanceMethod yX7_laysCoarse) ∈ lw_g := lw_gi 793 (by decide +kernel) rfl
set_option maxRecDepth 20000 in
theorem wc_X7_laysCoarse : (Cond.code yX7_laysCoarse cX7_laysCoarse 3 none) ∈ lw_g := lw_gi 794 rfl rfl
theorem wm_X7_96 : (Cond.methodLink RX7 96 yX7_joinsBy) ∈ lw_g := lw_gi 795 (by decide +kernel) rfl
theorem wi_X7_joinsBy : (Cond.instanceMethod yX7_joinsBy) ∈ lw_g := lw_gi 797 (by decide +kernel) rfl
set_option maxRecDepth 20000 in
theorem wc_X7_joinsBy : (Cond.code yX7_joinsBy cX7_joinsBy 4 none) ∈ lw_g := lw_gi 798 rfl rfl
theorem wm_X7_93 : (Cond.methodLink RX7 93 yX7_pointsTo) ∈ lw_g := lw_gi 799 (by decide +kernel) rfl
theorem wi_X7_pointsTo : (Cond.instanceMethod yX7_pointsTo) ∈ lw_g := lw_gi 801 (by decide +kernel) rfl
set_option maxRecDepth 20000 in
theorem wc_X7_pointsTo : (Cond.code yX7_pointsTo cX7_pointsTo 3 none) ∈ lw_g := lw_gi 802 rfl rfl
theorem wm_X7_90 : (Cond.methodLink RX7 90 yX7_joins) ∈ lw_g := lw_gi 803 (by decide +kernel) rfl
theorem wi_X7_joins : (Cond.instanceMethod yX7_joins) ∈ lw_g := lw_gi 805 (by decide +kernel) rfl
set_option maxRecDepth 20000 in
theorem wc_X7_joins : (Cond.code yX7_joins cX7_joins 10 none) ∈ lw_g := lw_gi 806 rfl rfl
theorem wm_X7_118 : (Cond.methodLink RX7 118 yX7_coarseOf) ∈ lw_g := lw_gi 807 (by decide +kernel) rfl
theorem wi_X7_coarseOf : (Cond.instanceMethod yX7_coarseOf) ∈ lw_g := lw_gi 809 (by decide +kernel) rfl
set_option maxRecDepth 20000 in
theorem wc_X7_coarseOf : (Cond.code yX7_coarseOf cX7_coarseOf 3 (some .int)) ∈ lw_g := lw_gi 810 rfl rfl
theorem wm_X7_99 : (Cond.methodLink RX7 99 yX7_groupSet) ∈ lw_g := lw_gi 811 (by decide +kernel) rfl
theorem wi_X7_groupSet : (Cond.instanceMethod yX7_groupSet) ∈ lw_g := lw_gi 813 (by decide +kernel) rfl
set_option maxRecDepth 20000 in
theorem wc_X7_groupSet : (Cond.code yX7_groupSet cX7_groupSet 4 (some .int)) ∈ lw_g := lw_gi 814 rfl rfl
theorem wm_L_47 : (Cond.methodLink RL 47 yX7_group) ∈ lw_g := lw_gi 815 (by decide +kernel) rfl
theorem wi_X7_group : (Cond.instanceMethod yX7_group) ∈ lw_g := lw_gi 816 (by decide +kernel) rfl
theorem wsel_X7_group : (Cond.selects RX7 yX7_group yX7_group) ∈ lw_g := lw_gi 817 (by decide +kernel) rfl
set_option maxRecDepth 20000 in
theorem wc_X7_group : (Cond.code yX7_group cX7_group 3 (some .int)) ∈ lw_g := lw_gi 818 rfl rfl
theorem wm_L_51 : (Cond.methodLink RL 51 yX7_count) ∈ lw_g := lw_gi 819 (by decide +kernel) rfl
theorem wi_X7_count : (Cond.instanceMethod yX7_count) ∈ lw_g := lw_gi 820 (by decide +kernel) rfl
theorem wsel_X7_count : (Cond.selects RX7 yX7_count yX7_count) ∈ lw_g := lw_gi 821 (by decide +kernel) rfl
set_option maxRecDepth 20000 in
theorem wc_X7_count : (Cond.code yX7_count cX7_count 2 (some .int)) ∈ lw_g := lw_gi 822 rfl rfl
theorem wm_X7_124 : (Cond.methodLink RX7 124 yX7_countOf) ∈ lw_g := lw_gi 823 (by decide +kernel) rfl
theorem wi_X7_countOf : (Cond.instanceMethod yX7_countOf) ∈ lw_g := lw_gi 825 (by decide +kernel) rfl
set_option maxRecDepth 20000 in
theorem wc_X7_countOf : (Cond.code yX7_countOf cX7_countOf 5 (some .int)) ∈ lw_g := lw_gi 826 rfl rfl
theorem wm_X7_121 : (Cond.methodLink RX7 121 yX7_ones) ∈ lw_g := lw_gi 827 (by decide +kernel) rfl
theorem wt_X7_ones : (Cond.static yX7_ones) ∈ lw_g := lw_gi 828 (by decide +kernel) rfl
set_option maxRecDepth 20000 in
theorem wc_X7_ones : (Cond.code yX7_ones cX7_ones 3 (some .int)) ∈ lw_g := lw_gi 829 rfl rfl
theorem wm_L_55 : (Cond.methodLink RL 55 yX7_alias) ∈ lw_g := lw_gi 830 (by decide +kernel) rfl
theorem wi_X7_alias : (Cond.instanceMethod yX7_alias) ∈ lw_g := lw_gi 831 (by decide +kernel) rfl
theorem wsel_X7_alias : (Cond.selects RX7 yX7_alias yX7_alias) ∈ lw_g := lw_gi 832 (by decide +kernel) rfl
set_option maxRecDepth 20000 in
theorem wc_X7_alias : (Cond.code yX7_alias cX7_alias 5 (some .int)) ∈ lw_g := lw_gi 833 rfl rfl
theorem wm_L_59 : (Cond.methodLink RL 59 yX7_without) ∈ lw_g := lw_gi 834 (by decide +kernel) rfl
theorem wi_X7_without : (Cond.instanceMethod yX7_without) ∈ lw_g := lw_gi 835 (by decide +kernel) rfl
theorem wsel_X7_without : (Cond.selects RX7 yX7_without yX7_without) ∈ lw_g := lw_gi 836 (by decide +kernel) rfl
set_option maxRecDepth 20000 in
theorem wc_X7_without : (Cond.code yX7_without cX7_without 5 (some .int)) ∈ lw_g := lw_gi 837 rfl rfl
theorem wm_L_63 : (Cond.methodLink RL 63 yX7_points) ∈ lw_g := lw_gi 838 (by decide +kernel) rfl
theorem wi_X7_points : (Cond.instanceMethod yX7_points) ∈ lw_g := lw_gi 839 (by decide +kernel) rfl
theorem wsel_X7_points : (Cond.selects RX7 yX7_points yX7_points) ∈ lw_g := lw_gi 840 (by decide +kernel) rfl
set_option maxRecDepth 20000 in
theorem wc_X7_points : (Cond.code yX7_points cX7_points 3 (some .int)) ∈ lw_g := lw_gi 841 rfl rfl
theorem wm_X7_133 : (Cond.methodLink RX7 133 yX7_runs) ∈ lw_g := lw_gi 842 (by decide +kernel) rfl
theorem wi_X7_runs : (Cond.instanceMethod yX7_runs) ∈ lw_g := lw_gi 844 (by decide +kernel) rfl
set_option maxRecDepth 20000 in
theorem wc_X7_runs : (Cond.code yX7_runs cX7_runs 4 none) ∈ lw_g := lw_gi 845 rfl rfl
theorem wm_X7_130 : (Cond.methodLink RX7 130 yX7_does) ∈ lw_g := lw_gi 846 (by decide +kernel) rfl
theorem wi_X7_does : (Cond.instanceMethod yX7_does) ∈ lw_g := lw_gi 848 (by decide +kernel) rfl
set_option maxRecDepth 20000 in
theorem wc_X7_does : (Cond.code yX7_does cX7_does 4 none) ∈ lw_g := lw_gi 849 rfl rfl
theorem wm_L_67 : (Cond.methodLink RL 67 yX7_seen) ∈ lw_g := lw_gi 850 (by decide +kernel) rfl
theorem wi_X7_seen : (Cond.instanceMethod yX7_seen) ∈ lw_g := lw_gi 851 (by decide +kernel) rfl
theorem wsel_X7_seen : (Cond.selects RX7 yX7_seen yX7_seen) ∈ lw_g := lw_gi 852 (by decide +kernel) rfl
set_option maxRecDepth 20000 in
theorem wc_X7_seen : (Cond.code yX7_seen cX7_seen 3 (some .int)) ∈ lw_g := lw_gi 853 rfl rfl
theorem wm_L_71 : (Cond.methodLink RL 71 yX7_misses) ∈ lw_g := lw_gi 854 (by decide +kernel) rfl
theorem wi_X7_misses : (Cond.instanceMethod yX7_misses) ∈ lw_g := lw_gi 855 (by decide +kernel) rfl
theorem wsel_X7_misses : (Cond.selects RX7 yX7_misses yX7_misses) ∈ lw_g := lw_gi 856 (by decide +kernel) rfl
set_option maxRecDepth 20000 in
theorem wc_X7_misses : (Cond.code yX7_misses cX7_misses 2 (some .int)) ∈ lw_g := lw_gi 857 rfl rfl
theorem wm_L_75 : (Cond.methodLink RL 75 yX7_type) ∈ lw_g := lw_gi 858 (by decide +kernel) rfl
theorem wi_X7_type : (Cond.instanceMethod yX7_type) ∈ lw_g := lw_gi 859 (by decide +kernel) rfl
theorem wsel_X7_type : (Cond.selects RX7 yX7_type yX7_type) ∈ lw_g := lw_gi 860 (by decide +kernel) rfl
set_option maxRecDepth 20000 in
theorem wc_X7_type : (Cond.code yX7_type cX7_type 2 (some .int)) ∈ lw_g := lw_gi 861 rfl rfl
theorem wm_L_80 : (Cond.methodLink RL 80 yX7_clear) ∈ lw_g := lw_gi 862 (by decide +kernel) rfl
theorem wi_X7_clear : (Cond.instanceMethod yX7_clear) ∈ lw_g := lw_gi 863 (by decide +kernel) rfl
theorem wsel_X7_clear : (Cond.selects RX7 yX7_clear yX7_clear) ∈ lw_g := lw_gi 864 (by decide +kernel) rfl
set_option maxRecDepth 20000 in
theorem wc_X7_clear : (Cond.code yX7_clear cX7_clear 2 (some .int)) ∈ lw_g := lw_gi 865 rfl rfl
theorem wm_L_84 : (Cond.methodLink RL 84 yX7_reads) ∈ lw_g := lw_gi 866 (by decide +kernel) rfl
theorem wi_X7_reads : (Cond.instanceMethod yX7_reads) ∈ lw_g := lw_gi 867 (by decide +kernel) rfl
theorem wsel_X7_reads : (Cond.selects RX7 yX7_reads yX7_reads) ∈ lw_g := lw_gi 868 (by decide +kernel) rfl
set_option maxRecDepth 20000 in
theorem wc_X7_reads : (Cond.code yX7_reads cX7_reads 2 (some .int)) ∈ lw_g := lw_gi 869 rfl rfl
theorem wm_X7_156 : (Cond.methodLink RX7 156 yX7_isRead) ∈ lw_g := lw_gi 870 (by decide +kernel) rfl
theorem wi_X7_isRead : (Cond.instanceMethod yX7_isRead) ∈ lw_g := lw_gi 872 (by decide +kernel) rfl
set_option maxRecDepth 20000 in
theorem wc_X7_isRead : (Cond.code yX7_isRead cX7_isRead 1 (some .boolean)) ∈ lw_g := lw_gi 873 rfl rfl
theorem wm_X7_142 : (Cond.methodLink RX7 142 yX7_next) ∈ lw_g := lw_gi 874 (by decide +kernel) rfl
theorem wi_X7_next : (Cond.instanceMethod yX7_next) ∈ lw_g := lw_gi 876 (by decide +kernel) rfl
set_option maxRecDepth 20000 in
theorem wc_X7_next : (Cond.code yX7_next cX7_next 1 (some .int)) ∈ lw_g := lw_gi 877 rfl rfl
theorem wm_X7_152 : (Cond.methodLink RX7 152 yX7_readsLine) ∈ lw_g := lw_gi 878 (by decide +kernel) rfl
theorem wi_X7_readsLine : (Cond.instanceMethod yX7_readsLine) ∈ lw_g := lw_gi 880 (by decide +kernel) rfl
set_option maxRecDepth 20000 in
theorem wc_X7_readsLine : (Cond.code yX7_readsLine cX7_readsLine 4 (some .boolean)) ∈ lw_g := lw_gi 881 rfl rfl
theorem wm_X7_146 : (Cond.methodLink RX7 146 yX7_passes) ∈ lw_g := lw_gi 882 (by decide +kernel) rfl
theorem wi_X7_passes : (Cond.instanceMethod yX7_passes) ∈ lw_g := lw_gi 884 (by decide +kernel) rfl
set_option maxRecDepth 20000 in
theorem wc_X7_passes : (Cond.code yX7_passes cX7_passes 3 (some .boolean)) ∈ lw_g := lw_gi 885 rfl rfl
theorem wm_X7_149 : (Cond.methodLink RX7 149 yX7_namePassed) ∈ lw_g := lw_gi 886 (by decide +kernel) rfl
theorem wi_X7_namePassed : (Cond.instanceMethod yX7_namePassed) ∈ lw_g := lw_gi 888 (by decide +kernel) rfl
set_option maxRecDepth 20000 in
theorem wc_X7_namePassed : (Cond.code yX7_namePassed cX7_namePassed 2 (some .int)) ∈ lw_g := lw_gi 889 rfl rfl
theorem wm_L_88 : (Cond.methodLink RL 88 yX7_shown) ∈ lw_g := lw_gi 890 (by decide +kernel) rfl
theorem wi_X7_shown : (Cond.instanceMethod yX7_shown) ∈ lw_g := lw_gi 891 (by decide +kernel) rfl
theorem wsel_X7_shown : (Cond.selects RX7 yX7_shown yX7_shown) ∈ lw_g := lw_gi 892 (by decide +kernel) rfl
set_option maxRecDepth 20000 in
theorem wc_X7_shown : (Cond.code yX7_shown cX7_shown 3 (some .int)) ∈ lw_g := lw_gi 893 rfl rfl
theorem wm_X7_165 : (Cond.methodLink RX7 165 yX7_writesOut) ∈ lw_g := lw_gi 894 (by decide +kernel) rfl
theorem wi_X7_writesOut : (Cond.instanceMethod yX7_writesOut) ∈ lw_g := lw_gi 896 (by decide +kernel) rfl
set_option maxRecDepth 20000 in
theorem wc_X7_writesOut : (Cond.code yX7_writesOut cX7_writesOut 2 none) ∈ lw_g := lw_gi 897 rfl rfl
theorem wm_X7_162 : (Cond.methodLink RX7 162 yX7_puts) ∈ lw_g := lw_gi 898 (by decide +kernel) rfl
theorem wi_X7_puts : (Cond.instanceMethod yX7_puts) ∈ lw_g := lw_gi 900 (by decide +kernel) rfl
set_option maxRecDepth 20000 in
theorem wc_X7_puts : (Cond.code yX7_puts cX7_puts 2 none) ∈ lw_g := lw_gi 901 rfl rfl
theorem wm_L_96 : (Cond.methodLink RL 96 yX7_told) ∈ lw_g := lw_gi 902 (by decide +kernel) rfl
theorem wi_X7_told : (Cond.instanceMethod yX7_told) ∈ lw_g := lw_gi 903 (by decide +kernel) rfl
theorem wsel_X7_told : (Cond.selects RX7 yX7_told yX7_told) ∈ lw_g := lw_gi 904 (by decide +kernel) rfl
set_option maxRecDepth 20000 in
theorem wc_X7_told : (Cond.code yX7_told cX7_told 2 (some .int)) ∈ lw_g := lw_gi 905 rfl rfl
theorem wm_X7_168 : (Cond.methodLink RX7 168 yX7_toldOf) ∈ lw_g := lw_gi 906 (by decide +kernel) rfl
theorem wi_X7_toldOf : (Cond.instanceMethod yX7_toldOf) ∈ lw_g := lw_gi 908 (by decide +kernel) rfl
set_option maxRecDepth 20000 in
theorem wc_X7_toldOf : (Cond.code yX7_toldOf cX7_toldOf 2 (some .int)) ∈ lw_g := lw_gi 909 rfl rfl
theorem wm_L_101 : (Cond.methodLink RL 101 yX7_digest) ∈ lw_g := lw_gi 910 (by decide +kernel) rfl
theorem wi_X7_digest : (Cond.instanceMethod yX7_digest) ∈ lw_g := lw_gi 911 (by decide +kernel) rfl
theorem wsel_X7_digest : (Cond.selects RX7 yX7_digest yX7_digest) ∈ lw_g := lw_gi 912 (by decide +kernel) rfl
set_option maxRecDepth 20000 in
theorem wc_X7_digest : (Cond.code yX7_digest cX7_digest 2 (some .long)) ∈ lw_g := lw_gi 913 rfl rfl
theorem wk_X7_180 : (Cond.constantLong RX7 180 (2531)) ∈ lw_g := lw_gi 914 (by decide +kernel) rfl
theorem wm_X7_177 : (Cond.methodLink RX7 177 yX7_mix) ∈ lw_g := lw_gi 915 (by decide +kernel) rfl
theorem wi_X7_mix : (Cond.instanceMethod yX7_mix) ∈ lw_g := lw_gi 917 (by decide +kernel) rfl
set_option maxRecDepth 20000 in
theorem wc_X7_mix : (Cond.code yX7_mix cX7_mix 2 none) ∈ lw_g := lw_gi 918 rfl rfl
theorem wk_X7_171 : (Cond.constantLong RX7 171 (31)) ∈ lw_g := lw_gi 919 (by decide +kernel) rfl
theorem wm_X7_182 : (Cond.methodLink RX7 182 yX7_mixName) ∈ lw_g := lw_gi 920 (by decide +kernel) rfl
theorem wi_X7_mixName : (Cond.instanceMethod yX7_mixName) ∈ lw_g := lw_gi 922 (by decide +kernel) rfl
set_option maxRecDepth 20000 in
theorem wc_X7_mixName : (Cond.code yX7_mixName cX7_mixName 2 none) ∈ lw_g := lw_gi 923 rfl rfl
theorem wsel_X6_refuseBad : (Cond.selects RX6 yX6_refuseBad yX6_refuseBad) ∈ lw_g := lw_gi 0 (by decide +kernel) rfl
theorem wsel_X6_refuseFull : (Cond.selects RX6 yX6_refuseFull yX6_refuseFull) ∈ lw_g := lw_gi 1 (by decide +kernel) rfl
theorem wsel_X4_loseOldest : (Cond.selects RX4 yX4_loseOldest yX4_loseOldest) ∈ lw_g := lw_gi 2 (by decide +kernel) rfl
theorem wsel_X6_isLine : (Cond.selects RX6 yX6_isLine yX6_isLine) ∈ lw_g := lw_gi 3 (by decide +kernel) rfl
theorem wsel_X1_apply : (Cond.selects RX1 yX1_apply yX1_apply) ∈ lw_g := lw_gi 4 (by decide +kernel) rfl
theorem wsel_X1_grow : (Cond.selects RX1 yX1_grow yX1_grow) ∈ lw_g := lw_gi 5 (by decide +kernel) rfl
theorem wsel_X1_unionOver : (Cond.selects RX1 yX1_unionOver yX1_unionOver) ∈ lw_g := lw_gi 6 (by decide +kernel) rfl
theorem wsel_X1_growAll : (Cond.selects RX1 yX1_growAll yX1_growAll) ∈ lw_g := lw_gi 7 (by decide +kernel) rfl
theorem wsel_X6_lineDetail : (Cond.selects RX6 yX6_lineDetail yX6_lineDetail) ∈ lw_g := lw_gi 8 (by decide +kernel) rfl
theorem wsel_X6_writesOf : (Cond.selects RX6 yX6_writesOf yX6_writesOf) ∈ lw_g := lw_gi 9 (by decide +kernel) rfl
theorem wsel_X6_readsOf : (Cond.selects RX6 yX6_readsOf yX6_readsOf) ∈ lw_g := lw_gi 10 (by decide +kernel) rfl
theorem wsel_X6_disturbs : (Cond.selects RX6 yX6_disturbs yX6_disturbs) ∈ lw_g := lw_gi 11 (by decide +kernel) rfl
theorem wsel_X0_apply : (Cond.selects RX0 yX0_apply yX0_apply) ∈ lw_g := lw_gi 12 (by decide +kernel) rfl
theorem wsel_X0_point : (Cond.selects RX0 yX0_point yX0_point) ∈ lw_g := lw_gi 13 (by decide +kernel) rfl
theorem wsel_X0_join : (Cond.selects RX0 yX0_join yX0_join) ∈ lw_g := lw_gi 14 (by decide +kernel) rfl
theorem wsel_X0_rename : (Cond.selects RX0 yX0_rename yX0_rename) ∈ lw_g := lw_gi 15 (by decide +kernel) rfl
theorem wsel_X6_groupDetail : (Cond.selects RX6 yX6_groupDetail yX6_groupDetail) ∈ lw_g := lw_gi 16 (by decide +kernel) rfl
theorem wsel_X6_counted : (Cond.selects RX6 yX6_counted yX6_counted) ∈ lw_g := lw_gi 17 (by decide +kernel) rfl
theorem wsel_X6_mayPointTo : (Cond.selects RX6 yX6_mayPointTo yX6_mayPointTo) ∈ lw_g := lw_gi 18 (by decide +kernel) rfl
theorem wsel_X3_carryOut : (Cond.selects RX3 yX3_carryOut yX3_carryOut) ∈ lw_g := lw_gi 19 (by decide +kernel) rfl
theorem wsel_X3_point : (Cond.selects RX3 yX3_point yX3_point) ∈ lw_g := lw_gi 20 (by decide +kernel) rfl
theorem wsel_X3_load : (Cond.selects RX3 yX3_load yX3_load) ∈ lw_g := lw_gi 21 (by decide +kernel) rfl
theorem wsel_X3_store : (Cond.selects RX3 yX3_store yX3_store) ∈ lw_g := lw_gi 22 (by decide +kernel) rfl
theorem wsel_X5_stepBehind : (Cond.selects RX5 yX5_stepBehind yX5_stepBehind) ∈ lw_g := lw_gi 23 (by decide +kernel) rfl
theorem wsel_X5_behindStart : (Cond.selects RX5 yX5_behindStart yX5_behindStart) ∈ lw_g := lw_gi 24 (by decide +kernel) rfl
theorem wsel_X5_behindLeftName : (Cond.selects RX5 yX5_behindLeftName yX5_behindLeftName) ∈ lw_g := lw_gi 25 (by decide +kernel) rfl
theorem wsel_X5_behindRightSide : (Cond.selects RX5 yX5_behindRightSide yX5_behindRightSide) ∈ lw_g := lw_gi 26 (by decide +kernel) rfl
theorem wsel_X5_behindRightName : (Cond.selects RX5 yX5_behindRightName yX5_behindRightName) ∈ lw_g := lw_gi 27 (by decide +kernel) rfl
theorem wsel_X5_behindEnd : (Cond.selects RX5 yX5_behindEnd yX5_behindEnd) ∈ lw_g := lw_gi 28 (by decide +kernel) rfl
theorem wsel_X2_lengthAt : (Cond.selects RX2 yX2_lengthAt yX2_lengthAt) ∈ lw_g := lw_gi 29 (by decide +kernel) rfl
theorem wsel_X2_byteAt : (Cond.selects RX2 yX2_byteAt yX2_byteAt) ∈ lw_g := lw_gi 30 (by decide +kernel) rfl
theorem wsel_X6_refuseNo : (Cond.selects RX6 yX6_refuseNo yX6_refuseNo) ∈ lw_g := lw_gi 31 (by decide +kernel) rfl
theorem wsel_X6_tally : (Cond.selects RX6 yX6_tally yX6_tally) ∈ lw_g := lw_gi 32 (by decide +kernel) rfl
theorem wsel_X6_mixedName : (Cond.selects RX6 yX6_mixedName yX6_mixedName) ∈ lw_g := lw_gi 33 (by decide +kernel) rfl
theorem wsel_X7_counts : (Cond.selects RX7 yX7_counts yX7_counts) ∈ lw_g := lw_gi 34 (by decide +kernel) rfl
theorem wsel_X7_leaves : (Cond.selects RX7 yX7_leaves yX7_leaves) ∈ lw_g := lw_gi 35 (by decide +kernel) rfl
theorem wsel_X7_isLine : (Cond.selects RX7 yX7_isLine yX7_isLine) ∈ lw_g := lw_gi 36 (by decide +kernel) rfl
theorem wsel_X7_laysFine : (Cond.selects RX7 yX7_laysFine yX7_laysFine) ∈ lw_g := lw_gi 37 (by decide +kernel) rfl
theorem wsel_X7_growsBy : (Cond.selects RX7 yX7_growsBy yX7_growsBy) ∈ lw_g := lw_gi 38 (by decide +kernel) rfl
theorem wsel_X7_xOf : (Cond.selects RX7 yX7_xOf yX7_xOf) ∈ lw_g := lw_gi 39 (by decide +kernel) rfl
theorem wsel_X7_yOf : (Cond.selects RX7 yX7_yOf yX7_yOf) ∈ lw_g := lw_gi 40 (by decide +kernel) rfl
theorem wsel_X7_sortOf : (Cond.selects RX7 yX7_sortOf yX7_sortOf) ∈ lw_g := lw_gi 41 (by decide +kernel) rfl
theorem wsel_X7_gets : (Cond.selects RX7 yX7_gets yX7_gets) ∈ lw_g := lw_gi 42 (by decide +kernel) rfl
theorem wsel_X7_ofLine : (Cond.selects RX7 yX7_ofLine yX7_ofLine) ∈ lw_g := lw_gi 43 (by decide +kernel) rfl
theorem wsel_X7_writes : (Cond.selects RX7 yX7_writes yX7_writes) ∈ lw_g := lw_gi 44 (by decide +kernel) rfl
theorem wsel_X7_readBy : (Cond.selects RX7 yX7_readBy yX7_readBy) ∈ lw_g := lw_gi 45 (by decide +kernel) rfl
theorem wsel_X7_laysCoarse : (Cond.selects RX7 yX7_laysCoarse yX7_laysCoarse) ∈ lw_g := lw_gi 46 (by decide +kernel) rfl
theorem wsel_X7_joinsBy : (Cond.selects RX7 yX7_joinsBy yX7_joinsBy) ∈ lw_g := lw_gi 47 (by decide +kernel) rfl
theorem wsel_X7_pointsTo : (Cond.selects RX7 yX7_pointsTo yX7_pointsTo) ∈ lw_g := lw_gi 48 (by decide +kernel) rfl
theorem wsel_X7_joins : (Cond.selects RX7 yX7_joins yX7_joins) ∈ lw_g := lw_gi 49 (by decide +kernel) rfl
theorem wsel_X7_coarseOf : (Cond.selects RX7 yX7_coarseOf yX7_coarseOf) ∈ lw_g := lw_gi 50 (by decide +kernel) rfl
theorem wsel_X7_groupSet : (Cond.selects RX7 yX7_groupSet yX7_groupSet) ∈ lw_g := lw_gi 51 (by decide +kernel) rfl
theorem wsel_X7_countOf : (Cond.selects RX7 yX7_countOf yX7_countOf) ∈ lw_g := lw_gi 52 (by decide +kernel) rfl
theorem wsel_X7_runs : (Cond.selects RX7 yX7_runs yX7_runs) ∈ lw_g := lw_gi 53 (by decide +kernel) rfl
theorem wsel_X7_does : (Cond.selects RX7 yX7_does yX7_does) ∈ lw_g := lw_gi 54 (by decide +kernel) rfl
theorem wsel_X7_isRead : (Cond.selects RX7 yX7_isRead yX7_isRead) ∈ lw_g := lw_gi 55 (by decide +kernel) rfl
theorem wsel_X7_next : (Cond.selects RX7 yX7_next yX7_next) ∈ lw_g := lw_gi 56 (by decide +kernel) rfl
theorem wsel_X7_readsLine : (Cond.selects RX7 yX7_readsLine yX7_readsLine) ∈ lw_g := lw_gi 57 (by decide +kernel) rfl
theorem wsel_X7_passes : (Cond.selects RX7 yX7_passes yX7_passes) ∈ lw_g := lw_gi 58 (by decide +kernel) rfl
theorem wsel_X7_namePassed : (Cond.selects RX7 yX7_namePassed yX7_namePassed) ∈ lw_g := lw_gi 59 (by decide +kernel) rfl
theorem wsel_X7_writesOut : (Cond.selects RX7 yX7_writesOut yX7_writesOut) ∈ lw_g := lw_gi 60 (by decide +kernel) rfl
theorem wsel_X7_puts : (Cond.selects RX7 yX7_puts yX7_puts) ∈ lw_g := lw_gi 61 (by decide +kernel) rfl
theorem wsel_X7_toldOf : (Cond.selects RX7 yX7_toldOf yX7_toldOf) ∈ lw_g := lw_gi 62 (by decide +kernel) rfl
theorem wsel_X7_mix : (Cond.selects RX7 yX7_mix yX7_mix) ∈ lw_g := lw_gi 63 (by decide +kernel) rfl
theorem wsel_X7_mixName : (Cond.selects RX7 yX7_mixName yX7_mixName) ∈ lw_g := lw_gi 64 (by decide +kernel) rfl
theorem lw_ao : Cond.arrayOver (.object RX2) ∈ lw_tbl := List.mem_of_getElem? (i := 107) (by decide +kernel)
def lw_nest : List (String × Nat × MethodName × String) := [(RX6, 9, yX2_init, RX6), (RX4, 17, yX2_init, RX6), (RX6, 25, yX5_init, RX6), (RX5, 17, yX2_init, RX6), (RX6, 32, yX1_init, RX6), (RX6, 39, yX0_init, RX6), (RX6, 46, yX3_init, RX6), (RX1, 46, yX6_bit, RX6), (RX1, 59, yX6_hasBit, RX6), (RX0, 22, yX6_bit, RX6), (RX0, 25, yX6_asNumber, RX6), (RX3, 58, yX6_bit, RX6), (RX5, 59, yX6_isName, RX6)]
theorem lw_nest_in0 : (Cond.methodLinkNest RX6 9 yX2_init RX6) ∈ lw_tbl := List.mem_of_getElem? (i := 88) (by decide +kernel)
theorem lw_nest_in1 : (Cond.methodLinkNest RX4 17 yX2_init RX6) ∈ lw_tbl := List.mem_of_getElem? (i := 108) (by decide +kernel)
theorem lw_nest_in2 : (Cond.methodLinkNest RX6 25 yX5_init RX6) ∈ lw_tbl := List.mem_of_getElem? (i := 118) (by decide +kernel)
theorem lw_nest_in3 : (Cond.methodLinkNest RX5 17 yX2_init RX6) ∈ lw_tbl := List.mem_of_getElem? (i := 123) (by decide +kernel)
theorem lw_nest_in4 : (Cond.methodLinkNest RX6 32 yX1_init RX6) ∈ lw_tbl := List.mem_of_getElem? (i := 145) (by decide +kernel)
theorem lw_nest_in5 : (Cond.methodLinkNest RX6 39 yX0_init RX6) ∈ lw_tbl := List.mem_of_getElem? (i := 155) (by decide +kernel)
theorem lw_nest_in6 : (Cond.methodLinkNest RX6 46 yX3_init RX6) ∈ lw_tbl := List.mem_of_getElem? (i := 168) (by decide +kernel)
theorem lw_nest_in7 : (Cond.methodLinkNest RX1 46 yX6_bit RX6) ∈ lw_tbl := List.mem_of_getElem? (i := 300) (by decide +kernel)
theorem lw_nest_in8 : (Cond.methodLinkNest RX1 59 yX6_hasBit RX6) ∈ lw_tbl := List.mem_of_getElem? (i := 311) (by decide +kernel)
theorem lw_nest_in9 : (Cond.methodLinkNest RX0 22 yX6_bit RX6) ∈ lw_tbl := List.mem_of_getElem? (i := 399) (by decide +kernel)
theorem lw_nest_in10 : (Cond.methodLinkNest RX0 25 yX6_asNumber RX6) ∈ lw_tbl := List.mem_of_getElem? (i := 426) (by decide +kernel)
theorem lw_nest_in11 : (Cond.methodLinkNest RX3 58 yX6_bit RX6) ∈ lw_tbl := List.mem_of_getElem? (i := 488) (by decide +kernel)
theorem lw_nest_in12 : (Cond.methodLinkNest RX5 59 yX6_isName RX6) ∈ lw_tbl := List.mem_of_getElem? (i := 562) (by decide +kernel)
theorem lw_nest_ok : ∀ q ∈ lw_nest, Cond.methodLinkNest q.1 q.2.1 q.2.2.1 q.2.2.2 ∈ lw_tbl := List.forall_mem_cons.mpr ⟨lw_nest_in0, List.forall_mem_cons.mpr ⟨lw_nest_in1, List.forall_mem_cons.mpr ⟨lw_nest_in2, List.forall_mem_cons.mpr ⟨lw_nest_in3, List.forall_mem_cons.mpr ⟨lw_nest_in4, List.forall_mem_cons.mpr ⟨lw_nest_in5, List.forall_mem_cons.mpr ⟨lw_nest_in6, List.forall_mem_cons.mpr ⟨lw_nest_in7, List.forall_mem_cons.mpr ⟨lw_nest_in8, List.forall_mem_cons.mpr ⟨lw_nest_in9, List.forall_mem_cons.mpr ⟨lw_nest_in10, List.forall_mem_cons.mpr ⟨lw_nest_in11, List.forall_mem_cons.mpr ⟨lw_nest_in12, fun _ h => absurd h List.not_mem_nil⟩⟩⟩⟩⟩⟩⟩⟩⟩⟩⟩⟩⟩
theorem wq_X6_9 : (RX6, 9, yX2_init, RX6) ∈ lw_nest := List.mem_of_getElem? (i := 0) rfl
theorem wq_X4_17 : (RX4, 17, yX2_init, RX6) ∈ lw_nest := List.mem_of_getElem? (i := 1) rfl
theorem wq_X6_25 : (RX6, 25, yX5_init, RX6) ∈ lw_nest := List.mem_of_getElem? (i := 2) rfl
theorem wq_X5_17 : (RX5, 17, yX2_init, RX6) ∈ lw_nest := List.mem_of_getElem? (i := 3) rfl
theorem wq_X6_32 : (RX6, 32, yX1_init, RX6) ∈ lw_nest := List.mem_of_getElem? (i := 4) rfl
theorem wq_X6_39 : (RX6, 39, yX0_init, RX6) ∈ lw_nest := List.mem_of_getElem? (i := 5) rfl
theorem wq_X6_46 : (RX6, 46, yX3_init, RX6) ∈ lw_nest := List.mem_of_getElem? (i := 6) rfl
theorem wq_X1_46 : (RX1, 46, yX6_bit, RX6) ∈ lw_nest := List.mem_of_getElem? (i := 7) rfl
theorem wq_X1_59 : (RX1, 59, yX6_hasBit, RX6) ∈ lw_nest := List.mem_of_getElem? (i := 8) rfl
theorem wq_X0_22 : (RX0, 22, yX6_bit, RX6) ∈ lw_nest := List.mem_of_getElem? (i := 9) rfl
theorem wq_X0_25 : (RX0, 25, yX6_asNumber, RX6) ∈ lw_nest := List.mem_of_getElem? (i := 10) rfl
theorem wq_X3_58 : (RX3, 58, yX6_bit, RX6) ∈ lw_nest := List.mem_of_getElem? (i := 11) rfl
theorem wq_X5_59 : (RX5, 59, yX6_isName, RX6) ∈ lw_nest := List.mem_of_getElem? (i := 12) rfl
theorem wF_X0 : ∀ w ∈ u_ws RX0 TX0 2, w ∈ lw_g := fun w h => List.mem_filter.mpr ⟨(show ∀ w ∈ u_ws RX0 TX0 2, w ∈ lw_tbl by decide +kernel) w h, (show ∀ w ∈ u_ws RX0 TX0 2, goodWord w = true by decide +kernel) w h⟩
theorem wF_X1 : ∀ w ∈ u_ws RX1 TX1 1, w ∈ lw_g := fun w h => List.mem_filter.mpr ⟨(show ∀ w ∈ u_ws RX1 TX1 1, w ∈ lw_tbl by decide +kernel) w h, (show ∀ w ∈ u_ws RX1 TX1 1, goodWord w = true by decide +kernel) w h⟩
theorem wF_X2 : ∀ w ∈ u_ws RX2 TX2 2, w ∈ lw_g := fun w h => List.mem_filter.mpr ⟨(show ∀ w ∈ u_ws RX2 TX2 2, w ∈ lw_tbl by decide +kernel) w h, (show ∀ w ∈ u_ws RX2 TX2 2, goodWord w = true by decide +kernel) w h⟩
theorem wF_X3 : ∀ w ∈ u_ws RX3 TX3 3, w ∈ lw_g := fun w h => List.mem_filter.mpr ⟨(show ∀ w ∈ u_ws RX3 TX3 3, w ∈ lw_tbl by decide +kernel) w h, (show ∀ w ∈ u_ws RX3 TX3 3, goodWord w = true by decide +kernel) w h⟩
theorem wF_X4 : ∀ w ∈ u_ws RX4 TX4 2, w ∈ lw_g := fun w h => List.mem_filter.mpr ⟨(show ∀ w ∈ u_ws RX4 TX4 2, w ∈ lw_tbl by decide +kernel) w h, (show ∀ w ∈ u_ws RX4 TX4 2, goodWord w = true by decide +kernel) w h⟩
theorem wF_X5 : ∀ w ∈ u_ws RX5 TX5 6, w ∈ lw_g := fun w h => List.mem_filter.mpr ⟨(show ∀ w ∈ u_ws RX5 TX5 6, w ∈ lw_tbl by decide +kernel) w h, (show ∀ w ∈ u_ws RX5 TX5 6, goodWord w = true by decide +kernel) w h⟩
theorem wF_X6 : ∀ w ∈ u_ws RX6 TX6 9, w ∈ lw_g := fun w h => List.mem_filter.mpr ⟨(show ∀ w ∈ u_ws RX6 TX6 9, w ∈ lw_tbl by decide +kernel) w h, (show ∀ w ∈ u_ws RX6 TX6 9, goodWord w = true by decide +kernel) w h⟩
theorem wF_X7 : ∀ w ∈ u_ws RX7 TX7 18, w ∈ lw_g := fun w h => List.mem_filter.mpr ⟨(show ∀ w ∈ u_ws RX7 TX7 18, w ∈ lw_tbl by decide +kernel) w h, (show ∀ w ∈ u_ws RX7 TX7 18, goodWord w = true by decide +kernel) w h⟩
