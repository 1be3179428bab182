/-- the words that every method of ours is given -/
def GW : List Cond := lw_tbl.filter goodWord
theorem gwm {w : Cond} (h : w ∈ tables_1) (g : goodWord w = true) : w ∈ GW := List.mem_filter.mpr ⟨List.mem_append_right _ h, g⟩
theorem gwp {w : Cond} (h : w ∈ k2_sels lw_privs) (g : goodWord w = true) : w ∈ GW := List.mem_filter.mpr ⟨List.mem_append_left _ h, g⟩
theorem gw_good : GoodIn GW GW := fun w h => ⟨h, good_of_word (List.mem_filter.mp h).2⟩
theorem gw_tbl : ∀ w ∈ GW, w ∈ lw_tbl := fun _ h => (List.mem_filter.mp h).1
theorem in_t1 {w : Cond} {i : Nat} (h0 : tables_1_1[i]? = some w) (g : goodWord w = true) : w ∈ GW := gwm (have h := List.mem_of_getElem? h0; List.mem_append_left _ h) g
theorem in_t2 {w : Cond} {i : Nat} (h0 : tables_1_2[i]? = some w) (g : goodWord w = true) : w ∈ GW := gwm (have h := List.mem_of_getElem? h0; List.mem_append_right _ (List.mem_append_left _ h)) g
theorem in_t3 {w : Cond} {i : Nat} (h0 : tables_1_3[i]? = some w) (g : goodWord w = true) : w ∈ GW := gwm (have h := List.mem_of_getElem? h0; List.mem_append_right _ (List.mem_append_right _ (h))) g
theorem in_p1 {q : MethodName × Nat} {i : Nat} (h0 : lw_privs_1[i]? = some q) : Cond.selects q.1.cls q.1 q.1 ∈ GW := gwp (List.mem_map.mpr ⟨q, (have h := List.mem_of_getElem? h0; h), rfl⟩) rfl
theorem cl_L_10 : Cond.classLink RL 10 RX3 ∈ GW := in_t1 (i := 6) rfl rfl
theorem ins_X3 : Cond.instantiable RX3 4 ∈ GW := in_t1 (i := 7) rfl rfl
theorem ini_X3 : Cond.initialized RX3 ∈ GW := in_t1 (i := 1) rfl rfl
theorem kc_L_52 : Cond.constant RL 52 (-2000000002) ∈ GW := in_t3 (i := 70) rfl rfl
theorem kc_L_106 : Cond.constant RL 106 (-2000000003) ∈ GW := in_t3 (i := 84) rfl rfl
theorem kc_L_31 : Cond.constant RL 31 (-2000000004) ∈ GW := in_t3 (i := 29) rfl rfl
theorem ml_L_81 : Cond.methodLink RL 81 yX3_init ∈ GW := in_t1 (i := 8) rfl rfl
theorem im_X3_init : Cond.instanceMethod yX3_init ∈ GW := in_t1 (i := 9) rfl rfl
theorem cd_X3_init : Cond.code yX3_init cX3_init 2 none ∈ GW := in_t1 (i := 10) rfl rfl
theorem ml_X3_1 : Cond.methodLink RX3 1 objectInit ∈ GW := in_t1 (i := 11) rfl rfl
theorem im_objectInit : Cond.instanceMethod objectInit ∈ GW := in_t1 (i := 12) rfl rfl
theorem cd_objectInit : Cond.code objectInit ⟨#[0xb1]⟩ 1 none ∈ GW := in_t1 (i := 13) rfl rfl
theorem cl_X3_7 : Cond.classLink RX3 7 RX0 ∈ GW := in_t1 (i := 14) rfl rfl
theorem ins_X0 : Cond.instantiable RX0 12 ∈ GW := in_t1 (i := 15) rfl rfl
theorem ini_X0 : Cond.initialized RX0 ∈ GW := in_t1 (i := 2) rfl rfl
theorem fl_X3_10 : Cond.fieldLink RX3 10 "PantographArm" "now" "LPantographArm$Desk;" ∈ GW := in_t1 (i := 166) rfl rfl
theorem fl_X3_16 : Cond.fieldLink RX3 16 "PantographArm" "past" "[LPantographArm$Desk;" ∈ GW := in_t1 (i := 167) rfl rfl
theorem fl_X3_20 : Cond.fieldLink RX3 20 "PantographArm" "states" "I" ∈ GW := in_t1 (i := 168) rfl rfl
theorem cl_X3_24 : Cond.classLink RX3 24 RX2 ∈ GW := in_t1 (i := 127) rfl rfl
theorem ins_X2 : Cond.instantiable RX2 9 ∈ GW := in_t1 (i := 128) rfl rfl
theorem ini_X2 : Cond.initialized RX2 ∈ GW := in_t1 (i := 4) rfl rfl
theorem fl_X3_27 : Cond.fieldLink RX3 27 "PantographArm" "text" "LPantographArm$PointText;" ∈ GW := in_t1 (i := 169) rfl rfl
theorem ml_X3_9 : Cond.methodLink RX3 9 yX0_init ∈ GW := in_t1 (i := 16) rfl rfl
theorem im_X0_init : Cond.instanceMethod yX0_init ∈ GW := in_t1 (i := 17) rfl rfl
theorem cd_X0_init : Cond.code yX0_init cX0_init 2 none ∈ GW := in_t1 (i := 18) rfl rfl
theorem ml_X0_3 : Cond.methodLink RX0 3 objectInit ∈ GW := in_t1 (i := 19) rfl rfl
theorem fl_X0_9 : Cond.fieldLink RX0 9 "PantographArm$Desk" "a" "I" ∈ GW := in_t1 (i := 79) rfl rfl
theorem fl_X0_15 : Cond.fieldLink RX0 15 "PantographArm$Desk" "b" "I" ∈ GW := in_t1 (i := 81) rfl rfl
theorem fl_X0_18 : Cond.fieldLink RX0 18 "PantographArm$Desk" "pivotX" "I" ∈ GW := in_t1 (i := 83) rfl rfl
theorem fl_X0_21 : Cond.fieldLink RX0 21 "PantographArm$Desk" "pivotY" "I" ∈ GW := in_t1 (i := 85) rfl rfl
theorem ac__int : Cond.arrayClass .int ∈ GW := in_t1 (i := 77) rfl rfl
theorem fl_X0_28 : Cond.fieldLink RX0 28 "PantographArm$Desk" "settings" "[I" ∈ GW := in_t1 (i := 87) rfl rfl
theorem fl_X0_31 : Cond.fieldLink RX0 31 "PantographArm$Desk" "wear" "I" ∈ GW := in_t1 (i := 88) rfl rfl
theorem fl_X0_34 : Cond.fieldLink RX0 34 "PantographArm$Desk" "sharpenings" "I" ∈ GW := in_t1 (i := 90) rfl rfl
theorem fl_X0_37 : Cond.fieldLink RX0 37 "PantographArm$Desk" "drawnLines" "I" ∈ GW := in_t1 (i := 92) rfl rfl
theorem fl_X0_40 : Cond.fieldLink RX0 40 "PantographArm$Desk" "drawnLength" "I" ∈ GW := in_t1 (i := 94) rfl rfl
theorem fl_X0_43 : Cond.fieldLink RX0 43 "PantographArm$Desk" "leftOut" "I" ∈ GW := in_t1 (i := 96) rfl rfl
theorem cl_X0_46 : Cond.classLink RX0 46 RX1 ∈ GW := in_t1 (i := 22) rfl rfl
theorem fl_X0_48 : Cond.fieldLink RX0 48 "PantographArm$Desk" "drawings" "[LPantographArm$Drawing;" ∈ GW := in_t1 (i := 98) rfl rfl
theorem fl_X0_52 : Cond.fieldLink RX0 52 "PantographArm$Desk" "size" "I" ∈ GW := in_t1 (i := 99) rfl rfl
theorem ins_X1 : Cond.instantiable RX1 11 ∈ GW := in_t1 (i := 24) rfl rfl
theorem ini_X1 : Cond.initialized RX1 ∈ GW := in_t1 (i := 3) rfl rfl
theorem ml_X0_55 : Cond.methodLink RX0 55 yX1_init ∈ GW := in_t1 (i := 25) rfl rfl
theorem im_X1_init : Cond.instanceMethod yX1_init ∈ GW := in_t1 (i := 26) rfl rfl
theorem cd_X1_init : Cond.code yX1_init cX1_init 1 none ∈ GW := in_t1 (i := 27) rfl rfl
theorem ml_X1_3 : Cond.methodLink RX1 3 objectInit ∈ GW := in_t1 (i := 28) rfl rfl
theorem fl_X1_9 : Cond.fieldLink RX1 9 "PantographArm$Drawing" "parent" "I" ∈ GW := in_t1 (i := 29) rfl rfl
theorem fl_X1_15 : Cond.fieldLink RX1 15 "PantographArm$Drawing" "scale" "J" ∈ GW := in_t1 (i := 32) rfl rfl
theorem fl_X1_19 : Cond.fieldLink RX1 19 "PantographArm$Drawing" "parts" "J" ∈ GW := in_t1 (i := 35) rfl rfl
theorem fl_X1_22 : Cond.fieldLink RX1 22 "PantographArm$Drawing" "signX" "I" ∈ GW := in_t1 (i := 38) rfl rfl
theorem fl_X1_25 : Cond.fieldLink RX1 25 "PantographArm$Drawing" "signY" "I" ∈ GW := in_t1 (i := 41) rfl rfl
theorem fl_X1_28 : Cond.fieldLink RX1 28 "PantographArm$Drawing" "shiftX" "J" ∈ GW := in_t1 (i := 44) rfl rfl
theorem fl_X1_31 : Cond.fieldLink RX1 31 "PantographArm$Drawing" "shiftY" "J" ∈ GW := in_t1 (i := 46) rfl rfl
theorem fl_X1_34 : Cond.fieldLink RX1 34 "PantographArm$Drawing" "size" "I" ∈ GW := in_t1 (i := 48) rfl rfl
theorem ac__long : Cond.arrayClass .long ∈ GW := in_t1 (i := 78) rfl rfl
theorem fl_X1_37 : Cond.fieldLink RX1 37 "PantographArm$Drawing" "xs" "[J" ∈ GW := in_t1 (i := 51) rfl rfl
theorem fl_X1_41 : Cond.fieldLink RX1 41 "PantographArm$Drawing" "ys" "[J" ∈ GW := in_t1 (i := 52) rfl rfl
theorem fl_X1_44 : Cond.fieldLink RX1 44 "PantographArm$Drawing" "lines" "[I" ∈ GW := in_t1 (i := 53) rfl rfl
theorem ml_X3_26 : Cond.methodLink RX3 26 yX2_init ∈ GW := in_t1 (i := 129) rfl rfl
theorem im_X2_init : Cond.instanceMethod yX2_init ∈ GW := in_t1 (i := 130) rfl rfl
theorem cd_X2_init : Cond.code yX2_init cX2_init 1 none ∈ GW := in_t1 (i := 131) rfl rfl
theorem ml_X2_3 : Cond.methodLink RX2 3 objectInit ∈ GW := in_t1 (i := 132) rfl rfl
theorem ac__char : Cond.arrayClass .char ∈ GW := in_t1 (i := 164) rfl rfl
theorem fl_X2_9 : Cond.fieldLink RX2 9 "PantographArm$PointText" "characters" "[C" ∈ GW := in_t1 (i := 133) rfl rfl
theorem fl_X2_15 : Cond.fieldLink RX2 15 "PantographArm$PointText" "length" "I" ∈ GW := in_t1 (i := 134) rfl rfl
theorem fl_X2_19 : Cond.fieldLink RX2 19 "PantographArm$PointText" "at" "I" ∈ GW := in_t1 (i := 136) rfl rfl
theorem fl_X2_22 : Cond.fieldLink RX2 22 "PantographArm$PointText" "faultAt" "I" ∈ GW := in_t1 (i := 137) rfl rfl
theorem fl_X2_25 : Cond.fieldLink RX2 25 "PantographArm$PointText" "reason" "I" ∈ GW := in_t1 (i := 139) rfl rfl
theorem fl_X2_28 : Cond.fieldLink RX2 28 "PantographArm$PointText" "xs" "[I" ∈ GW := in_t1 (i := 141) rfl rfl
theorem fl_X2_32 : Cond.fieldLink RX2 32 "PantographArm$PointText" "ys" "[I" ∈ GW := in_t1 (i := 142) rfl rfl
theorem ac__boolean : Cond.arrayClass .boolean ∈ GW := in_t1 (i := 165) rfl rfl
theorem fl_X2_35 : Cond.fieldLink RX2 35 "PantographArm$PointText" "joined" "[Z" ∈ GW := in_t1 (i := 143) rfl rfl
theorem fl_X2_39 : Cond.fieldLink RX2 39 "PantographArm$PointText" "size" "I" ∈ GW := in_t1 (i := 144) rfl rfl
theorem ml_L_82 : Cond.methodLink RL 82 yL_refuses ∈ GW := in_t3 (i := 71) rfl rfl
theorem st_L_refuses : Cond.static yL_refuses ∈ GW := in_t3 (i := 72) rfl rfl
theorem ini_L : Cond.initialized RL ∈ GW := in_t1 (i := 0) rfl rfl
theorem cd_L_refuses : Cond.code yL_refuses cL_refuses 4 (some .boolean) ∈ GW := in_t3 (i := 73) rfl rfl
theorem kc_L_56 : Cond.constant RL 56 (-2000000001) ∈ GW := in_t3 (i := 74) rfl rfl
theorem kl_L_70 : Cond.constantLong RL 70 (-2000000001) ∈ GW := in_t3 (i := 75) rfl rfl
theorem ml_L_9 : Cond.methodLink RL 9 yX3_count ∈ GW := in_t2 (i := 12) rfl rfl
theorem im_X3_count : Cond.instanceMethod yX3_count ∈ GW := in_t2 (i := 13) rfl rfl
theorem se_X3_count : Cond.selects RX3 yX3_count yX3_count ∈ GW := in_t2 (i := 14) rfl rfl
theorem cd_X3_count : Cond.code yX3_count cX3_count 2 (some .int) ∈ GW := in_t2 (i := 15) rfl rfl
theorem kc_X3_35 : Cond.constant RX3 35 (-2000000001) ∈ GW := in_t1 (i := 186) rfl rfl
theorem ml_X3_58 : Cond.methodLink RX3 58 yX0_setting ∈ GW := in_t2 (i := 7) rfl rfl
theorem im_X0_setting : Cond.instanceMethod yX0_setting ∈ GW := in_t1 (i := 200) rfl rfl
theorem se_X0_setting : Cond.selects RX0 yX0_setting yX0_setting ∈ GW := in_t1 (i := 201) rfl rfl
theorem cd_X0_setting : Cond.code yX0_setting cX0_setting 2 (some .int) ∈ GW := in_t1 (i := 202) rfl rfl
theorem ml_X3_72 : Cond.methodLink RX3 72 yX0_isBlunt ∈ GW := in_t2 (i := 16) rfl rfl
theorem im_X0_isBlunt : Cond.instanceMethod yX0_isBlunt ∈ GW := in_t2 (i := 17) rfl rfl
theorem se_X0_isBlunt : Cond.selects RX0 yX0_isBlunt yX0_isBlunt ∈ GW := in_t2 (i := 18) rfl rfl
theorem cd_X0_isBlunt : Cond.code yX0_isBlunt cX0_isBlunt 1 (some .boolean) ∈ GW := in_t2 (i := 19) rfl rfl
theorem ml_X0_103 : Cond.methodLink RX0 103 yX0_wornWidth ∈ GW := in_t2 (i := 20) rfl rfl
theorem im_X0_wornWidth : Cond.instanceMethod yX0_wornWidth ∈ GW := in_t2 (i := 21) rfl rfl
theorem se_X0_wornWidth : Cond.selects RX0 yX0_wornWidth yX0_wornWidth ∈ GW := in_t2 (i := 22) rfl rfl
theorem cd_X0_wornWidth : Cond.code yX0_wornWidth cX0_wornWidth 1 (some .int) ∈ GW := in_t2 (i := 23) rfl rfl
theorem ml_X0_56 : Cond.methodLink RX0 56 yX0_setting ∈ GW := in_t1 (i := 199) rfl rfl
theorem st_X3_quotient : Cond.static yX3_quotient ∈ GW := in_t2 (i := 25) rfl rfl
theorem cd_X3_quotient : Cond.code yX3_quotient cX3_quotient 4 (some .long) ∈ GW := in_t2 (i := 26) rfl rfl
theorem ml_L_53 : Cond.methodLink RL 53 yX3_arm ∈ GW := in_t1 (i := 179) rfl rfl
theorem im_X3_arm : Cond.instanceMethod yX3_arm ∈ GW := in_t1 (i := 180) rfl rfl
theorem se_X3_arm : Cond.selects RX3 yX3_arm yX3_arm ∈ GW := in_t1 (i := 181) rfl rfl
theorem cd_X3_arm : Cond.code yX3_arm cX3_arm 4 (some .int) ∈ GW := in_t1 (i := 182) rfl rfl
theorem ml_X3_31 : Cond.methodLink RX3 31 yX3_isWithin ∈ GW := in_t1 (i := 183) rfl rfl
theorem st_X3_isWithin : Cond.static yX3_isWithin ∈ GW := in_t1 (i := 184) rfl rfl
theorem cd_X3_isWithin : Cond.code yX3_isWithin cX3_isWithin 3 (some .boolean) ∈ GW := in_t1 (i := 185) rfl rfl
theorem ml_X3_42 : Cond.methodLink RX3 42 yX3_remember ∈ GW := in_t1 (i := 187) rfl rfl
theorem im_X3_remember : Cond.instanceMethod yX3_remember ∈ GW := in_t1 (i := 189) rfl rfl
theorem se_X3_remember : Cond.selects RX3 yX3_remember yX3_remember ∈ GW := in_p1 (i := 0) rfl
theorem cd_X3_remember : Cond.code yX3_remember cX3_remember 1 none ∈ GW := in_t1 (i := 190) rfl rfl
theorem ml_X3_229 : Cond.methodLink RX3 229 yX3_dropOldest ∈ GW := in_t1 (i := 191) rfl rfl
theorem im_X3_dropOldest : Cond.instanceMethod yX3_dropOldest ∈ GW := in_t1 (i := 193) rfl rfl
theorem se_X3_dropOldest : Cond.selects RX3 yX3_dropOldest yX3_dropOldest ∈ GW := in_p1 (i := 1) rfl
theorem cd_X3_dropOldest : Cond.code yX3_dropOldest cX3_dropOldest 3 none ∈ GW := in_t1 (i := 194) rfl rfl
theorem ml_X3_232 : Cond.methodLink RX3 232 yX0_takeFrom ∈ GW := in_t1 (i := 195) rfl rfl
theorem im_X0_takeFrom : Cond.instanceMethod yX0_takeFrom ∈ GW := in_t1 (i := 196) rfl rfl
theorem se_X0_takeFrom : Cond.selects RX0 yX0_takeFrom yX0_takeFrom ∈ GW := in_t1 (i := 197) rfl rfl
theorem cd_X0_takeFrom : Cond.code yX0_takeFrom cX0_takeFrom 5 none ∈ GW := in_t1 (i := 198) rfl rfl
theorem ml_X0_60 : Cond.methodLink RX0 60 yX0_find ∈ GW := in_t1 (i := 203) rfl rfl
theorem im_X0_find : Cond.instanceMethod yX0_find ∈ GW := in_t1 (i := 204) rfl rfl
theorem se_X0_find : Cond.selects RX0 yX0_find yX0_find ∈ GW := in_t1 (i := 205) rfl rfl
theorem cd_X0_find : Cond.code yX0_find cX0_find 2 (some (.object "PantographArm$Drawing")) ∈ GW := in_t1 (i := 206) rfl rfl
theorem ml_X0_64 : Cond.methodLink RX0 64 yX1_takeFrom ∈ GW := in_t1 (i := 207) rfl rfl
theorem im_X1_takeFrom : Cond.instanceMethod yX1_takeFrom ∈ GW := in_t1 (i := 208) rfl rfl
theorem se_X1_takeFrom : Cond.selects RX1 yX1_takeFrom yX1_takeFrom ∈ GW := in_t1 (i := 209) rfl rfl
theorem cd_X1_takeFrom : Cond.code yX1_takeFrom cX1_takeFrom 3 none ∈ GW := in_t1 (i := 210) rfl rfl
theorem ml_X1_48 : Cond.methodLink RX1 48 yX1_begin ∈ GW := in_t1 (i := 211) rfl rfl
theorem im_X1_begin : Cond.instanceMethod yX1_begin ∈ GW := in_t1 (i := 212) rfl rfl
theorem se_X1_begin : Cond.selects RX1 yX1_begin yX1_begin ∈ GW := in_t1 (i := 213) rfl rfl
theorem cd_X1_begin : Cond.code yX1_begin cX1_begin 6 none ∈ GW := in_t1 (i := 214) rfl rfl
theorem ml_X1_52 : Cond.methodLink RX1 52 yX1_x ∈ GW := in_t1 (i := 215) rfl rfl
theorem im_X1_x : Cond.instanceMethod yX1_x ∈ GW := in_t1 (i := 216) rfl rfl
theorem se_X1_x : Cond.selects RX1 yX1_x yX1_x ∈ GW := in_t1 (i := 217) rfl rfl
theorem cd_X1_x : Cond.code yX1_x cX1_x 2 (some .long) ∈ GW := in_t1 (i := 218) rfl rfl
theorem ml_X1_67 : Cond.methodLink RX1 67 yX1_has ∈ GW := in_t1 (i := 219) rfl rfl
theorem im_X1_has : Cond.instanceMethod yX1_has ∈ GW := in_t1 (i := 220) rfl rfl
theorem se_X1_has : Cond.selects RX1 yX1_has yX1_has ∈ GW := in_t1 (i := 221) rfl rfl
theorem cd_X1_has : Cond.code yX1_has cX1_has 2 (some .boolean) ∈ GW := in_t1 (i := 222) rfl rfl
theorem ml_X1_56 : Cond.methodLink RX1 56 yX1_y ∈ GW := in_t1 (i := 223) rfl rfl
theorem im_X1_y : Cond.instanceMethod yX1_y ∈ GW := in_t1 (i := 224) rfl rfl
theorem se_X1_y : Cond.selects RX1 yX1_y yX1_y ∈ GW := in_t1 (i := 225) rfl rfl
theorem cd_X1_y : Cond.code yX1_y cX1_y 2 (some .long) ∈ GW := in_t1 (i := 226) rfl rfl
theorem ml_X1_59 : Cond.methodLink RX1 59 yX1_line ∈ GW := in_t1 (i := 227) rfl rfl
theorem im_X1_line : Cond.instanceMethod yX1_line ∈ GW := in_t1 (i := 228) rfl rfl
theorem se_X1_line : Cond.selects RX1 yX1_line yX1_line ∈ GW := in_t1 (i := 229) rfl rfl
theorem cd_X1_line : Cond.code yX1_line cX1_line 2 (some .int) ∈ GW := in_t1 (i := 230) rfl rfl
theorem ml_X1_63 : Cond.methodLink RX1 63 yX1_add ∈ GW := in_t1 (i := 231) rfl rfl
theorem im_X1_add : Cond.instanceMethod yX1_add ∈ GW := in_t1 (i := 232) rfl rfl
theorem se_X1_add : Cond.selects RX1 yX1_add yX1_add ∈ GW := in_t1 (i := 233) rfl rfl
theorem cd_X1_add : Cond.code yX1_add cX1_add 6 none ∈ GW := in_t1 (i := 234) rfl rfl
theorem ml_L_57 : Cond.methodLink RL 57 yX3_pivot ∈ GW := in_t1 (i := 235) rfl rfl
theorem im_X3_pivot : Cond.instanceMethod yX3_pivot ∈ GW := in_t1 (i := 236) rfl rfl
theorem se_X3_pivot : Cond.selects RX3 yX3_pivot yX3_pivot ∈ GW := in_t1 (i := 237) rfl rfl
theorem cd_X3_pivot : Cond.code yX3_pivot cX3_pivot 4 (some .int) ∈ GW := in_t1 (i := 238) rfl rfl
theorem ml_L_60 : Cond.methodLink RL 60 yX3_set ∈ GW := in_t1 (i := 239) rfl rfl
theorem im_X3_set : Cond.instanceMethod yX3_set ∈ GW := in_t2 (i := 0) rfl rfl
theorem se_X3_set : Cond.selects RX3 yX3_set yX3_set ∈ GW := in_t2 (i := 1) rfl rfl
theorem cd_X3_set : Cond.code yX3_set cX3_set 4 (some .int) ∈ GW := in_t2 (i := 2) rfl rfl
theorem fl_X3_51 : Cond.fieldLink RX3 51 "PantographArm" "LEAST_SETTING" "[I" ∈ GW := in_t2 (i := 3) rfl rfl
theorem fl_X3_55 : Cond.fieldLink RX3 55 "PantographArm" "MOST_SETTING" "[I" ∈ GW := in_t2 (i := 5) rfl rfl
theorem ml_X3_62 : Cond.methodLink RX3 62 yX0_changeSetting ∈ GW := in_t2 (i := 8) rfl rfl
theorem im_X0_changeSetting : Cond.instanceMethod yX0_changeSetting ∈ GW := in_t2 (i := 9) rfl rfl
theorem se_X0_changeSetting : Cond.selects RX0 yX0_changeSetting yX0_changeSetting ∈ GW := in_t2 (i := 10) rfl rfl
theorem cd_X0_changeSetting : Cond.code yX0_changeSetting cX0_changeSetting 3 none ∈ GW := in_t2 (i := 11) rfl rfl
theorem ml_L_63 : Cond.methodLink RL 63 yX3_point ∈ GW := in_t2 (i := 46) rfl rfl
theorem im_X3_point : Cond.instanceMethod yX3_point ∈ GW := in_t2 (i := 47) rfl rfl
theorem se_X3_point : Cond.selects RX3 yX3_point yX3_point ∈ GW := in_t2 (i := 48) rfl rfl
theorem cd_X3_point : Cond.code yX3_point cX3_point 6 (some .int) ∈ GW := in_t2 (i := 49) rfl rfl
theorem kc_X3_113 : Cond.constant RX3 113 (-2000000002) ∈ GW := in_t2 (i := 59) rfl rfl
theorem kc_X3_91 : Cond.constant RX3 91 (-2000000003) ∈ GW := in_t2 (i := 31) rfl rfl
theorem ml_X3_100 : Cond.methodLink RX3 100 yX0_find ∈ GW := in_t2 (i := 50) rfl rfl
theorem ml_X3_104 : Cond.methodLink RX3 104 yX1_isCopy ∈ GW := in_t2 (i := 51) rfl rfl
theorem im_X1_isCopy : Cond.instanceMethod yX1_isCopy ∈ GW := in_t2 (i := 52) rfl rfl
theorem se_X1_isCopy : Cond.selects RX1 yX1_isCopy yX1_isCopy ∈ GW := in_t2 (i := 53) rfl rfl
theorem cd_X1_isCopy : Cond.code yX1_isCopy cX1_isCopy 1 (some .boolean) ∈ GW := in_t2 (i := 54) rfl rfl
theorem ml_X3_109 : Cond.methodLink RX3 109 yX0_hasCopies ∈ GW := in_t2 (i := 55) rfl rfl
theorem im_X0_hasCopies : Cond.instanceMethod yX0_hasCopies ∈ GW := in_t2 (i := 56) rfl rfl
theorem se_X0_hasCopies : Cond.selects RX0 yX0_hasCopies yX0_hasCopies ∈ GW := in_t2 (i := 57) rfl rfl
theorem cd_X0_hasCopies : Cond.code yX0_hasCopies cX0_hasCopies 4 (some .boolean) ∈ GW := in_t2 (i := 58) rfl rfl
theorem ml_X3_114 : Cond.methodLink RX3 114 yX1_isFull ∈ GW := in_t2 (i := 60) rfl rfl
theorem im_X1_isFull : Cond.instanceMethod yX1_isFull ∈ GW := in_t2 (i := 61) rfl rfl
theorem se_X1_isFull : Cond.selects RX1 yX1_isFull yX1_isFull ∈ GW := in_t2 (i := 62) rfl rfl
theorem cd_X1_isFull : Cond.code yX1_isFull cX1_isFull 1 (some .boolean) ∈ GW := in_t2 (i := 63) rfl rfl
theorem ml_X3_117 : Cond.methodLink RX3 117 yX1_add ∈ GW := in_t2 (i := 64) rfl rfl
theorem ml_L_67 : Cond.methodLink RL 67 yX3_remove ∈ GW := in_t2 (i := 65) rfl rfl
theorem im_X3_remove : Cond.instanceMethod yX3_remove ∈ GW := in_t2 (i := 66) rfl rfl
theorem se_X3_remove : Cond.selects RX3 yX3_remove yX3_remove ∈ GW := in_t2 (i := 67) rfl rfl
theorem cd_X3_remove : Cond.code yX3_remove cX3_remove 2 (some .int) ∈ GW := in_t2 (i := 68) rfl rfl
theorem ml_X3_122 : Cond.methodLink RX3 122 yX0_takeAway ∈ GW := in_t2 (i := 69) rfl rfl
theorem im_X0_takeAway : Cond.instanceMethod yX0_takeAway ∈ GW := in_t2 (i := 70) rfl rfl
theorem se_X0_takeAway : Cond.selects RX0 yX0_takeAway yX0_takeAway ∈ GW := in_t2 (i := 71) rfl rfl
theorem cd_X0_takeAway : Cond.code yX0_takeAway cX0_takeAway 6 none ∈ GW := in_t2 (i := 72) rfl rfl
theorem ml_L_49 : Cond.methodLink RL 49 yX3_copy ∈ GW := in_t3 (i := 50) rfl rfl
theorem im_X3_copy : Cond.instanceMethod yX3_copy ∈ GW := in_t3 (i := 51) rfl rfl
theorem se_X3_copy : Cond.selects RX3 yX3_copy yX3_copy ∈ GW := in_t3 (i := 52) rfl rfl
theorem cd_X3_copy : Cond.code yX3_copy cX3_copy 3 (some .int) ∈ GW := in_t3 (i := 53) rfl rfl
theorem ml_X3_126 : Cond.methodLink RX3 126 yX0_reasonAgainst ∈ GW := in_t2 (i := 77) rfl rfl
theorem im_X0_reasonAgainst : Cond.instanceMethod yX0_reasonAgainst ∈ GW := in_t2 (i := 78) rfl rfl
theorem se_X0_reasonAgainst : Cond.selects RX0 yX0_reasonAgainst yX0_reasonAgainst ∈ GW := in_t2 (i := 79) rfl rfl
theorem cd_X0_reasonAgainst : Cond.code yX0_reasonAgainst cX0_reasonAgainst 4 (some .int) ∈ GW := in_t2 (i := 80) rfl rfl
theorem ml_X0_124 : Cond.methodLink RX0 124 yX0_isBlunt ∈ GW := in_t2 (i := 81) rfl rfl
theorem ml_X0_68 : Cond.methodLink RX0 68 yX0_spare ∈ GW := in_t2 (i := 44) rfl rfl
theorem im_X0_spare : Cond.instanceMethod yX0_spare ∈ GW := in_t2 (i := 37) rfl rfl
theorem se_X0_spare : Cond.selects RX0 yX0_spare yX0_spare ∈ GW := in_t2 (i := 38) rfl rfl
theorem cd_X0_spare : Cond.code yX0_spare cX0_spare 1 (some (.object "PantographArm$Drawing")) ∈ GW := in_t2 (i := 39) rfl rfl
theorem ml_X0_127 : Cond.methodLink RX0 127 yX0_trace ∈ GW := in_t2 (i := 82) rfl rfl
theorem im_X0_trace : Cond.instanceMethod yX0_trace ∈ GW := in_t2 (i := 83) rfl rfl
theorem se_X0_trace : Cond.selects RX0 yX0_trace yX0_trace ∈ GW := in_t2 (i := 84) rfl rfl
theorem cd_X0_trace : Cond.code yX0_trace cX0_trace 11 none ∈ GW := in_t2 (i := 85) rfl rfl
theorem ml_X0_72 : Cond.methodLink RX0 72 yX1_begin ∈ GW := in_t2 (i := 45) rfl rfl
theorem ml_X0_140 : Cond.methodLink RX0 140 yX0_signX ∈ GW := in_t2 (i := 86) rfl rfl
theorem im_X0_signX : Cond.instanceMethod yX0_signX ∈ GW := in_t2 (i := 87) rfl rfl
theorem se_X0_signX : Cond.selects RX0 yX0_signX yX0_signX ∈ GW := in_t2 (i := 88) rfl rfl
theorem cd_X0_signX : Cond.code yX0_signX cX0_signX 1 (some .int) ∈ GW := in_t2 (i := 89) rfl rfl
theorem ml_X0_145 : Cond.methodLink RX0 145 yX0_signY ∈ GW := in_t2 (i := 90) rfl rfl
theorem im_X0_signY : Cond.instanceMethod yX0_signY ∈ GW := in_t2 (i := 91) rfl rfl
theorem se_X0_signY : Cond.selects RX0 yX0_signY yX0_signY ∈ GW := in_t2 (i := 92) rfl rfl
theorem cd_X0_signY : Cond.code yX0_signY cX0_signY 1 (some .int) ∈ GW := in_t2 (i := 93) rfl rfl
theorem ml_X0_150 : Cond.methodLink RX0 150 yX0_aim ∈ GW := in_t2 (i := 94) rfl rfl
theorem im_X0_aim : Cond.instanceMethod yX0_aim ∈ GW := in_t2 (i := 95) rfl rfl
theorem se_X0_aim : Cond.selects RX0 yX0_aim yX0_aim ∈ GW := in_t2 (i := 96) rfl rfl
theorem cd_X0_aim : Cond.code yX0_aim cX0_aim 7 (some .long) ∈ GW := in_t2 (i := 97) rfl rfl
theorem ml_X0_83 : Cond.methodLink RX0 83 yX1_x ∈ GW := in_t2 (i := 98) rfl rfl
theorem ml_X0_87 : Cond.methodLink RX0 87 yX1_y ∈ GW := in_t2 (i := 99) rfl rfl
theorem ml_X0_107 : Cond.methodLink RX0 107 yX1_isJoined ∈ GW := in_t2 (i := 100) rfl rfl
theorem im_X1_isJoined : Cond.instanceMethod yX1_isJoined ∈ GW := in_t2 (i := 101) rfl rfl
theorem se_X1_isJoined : Cond.selects RX1 yX1_isJoined yX1_isJoined ∈ GW := in_t2 (i := 102) rfl rfl
theorem cd_X1_isJoined : Cond.code yX1_isJoined cX1_isJoined 2 (some .boolean) ∈ GW := in_t2 (i := 103) rfl rfl
theorem ml_X0_157 : Cond.methodLink RX0 157 yX0_follow ∈ GW := in_t2 (i := 104) rfl rfl
theorem st_X0_follow : Cond.static yX0_follow ∈ GW := in_t2 (i := 105) rfl rfl
theorem cd_X0_follow : Cond.code yX0_follow cX0_follow 6 (some .long) ∈ GW := in_t2 (i := 106) rfl rfl
theorem ml_X0_161 : Cond.methodLink RX0 161 yX1_add ∈ GW := in_t2 (i := 107) rfl rfl
theorem ml_X0_131 : Cond.methodLink RX0 131 yX1_isTooFine ∈ GW := in_t2 (i := 108) rfl rfl
theorem im_X1_isTooFine : Cond.instanceMethod yX1_isTooFine ∈ GW := in_t2 (i := 109) rfl rfl
theorem se_X1_isTooFine : Cond.selects RX1 yX1_isTooFine yX1_isTooFine ∈ GW := in_t2 (i := 110) rfl rfl
theorem cd_X1_isTooFine : Cond.code yX1_isTooFine cX1_isTooFine 2 (some .boolean) ∈ GW := in_t2 (i := 111) rfl rfl
theorem kl_X1_95 : Cond.constantLong RX1 95 (100000) ∈ GW := in_t2 (i := 121) rfl rfl
theorem st_X3_lowest : Cond.static yX3_lowest ∈ GW := in_t2 (i := 113) rfl rfl
theorem cd_X3_lowest : Cond.code yX3_lowest cX3_lowest 9 (some .long) ∈ GW := in_t2 (i := 114) rfl rfl
theorem ml_X3_236 : Cond.methodLink RX3 236 Lib.MathLoose.abs_long.x ∈ GW := in_t2 (i := 115) rfl rfl
theorem st_m_Lib_MathLoose_abs_long_x : Cond.static Lib.MathLoose.abs_long.x ∈ GW := in_t2 (i := 116) rfl rfl
theorem ini_java_lang_Math : Cond.initialized "java/lang/Math" ∈ GW := in_t1 (i := 5) rfl rfl
theorem cd_m_Lib_MathLoose_abs_long_x : Cond.code Lib.MathLoose.abs_long.x Lib.MathLoose.abs_long.code 2 (some .long) ∈ GW := in_t2 (i := 117) rfl rfl
theorem ml_X3_241 : Cond.methodLink RX3 241 yX3_greatestDivisor ∈ GW := in_t2 (i := 118) rfl rfl
theorem st_X3_greatestDivisor : Cond.static yX3_greatestDivisor ∈ GW := in_t2 (i := 119) rfl rfl
theorem cd_X3_greatestDivisor : Cond.code yX3_greatestDivisor cX3_greatestDivisor 11 (some .long) ∈ GW := in_t2 (i := 120) rfl rfl
theorem ml_X3_130 : Cond.methodLink RX3 130 yX0_keepTraced ∈ GW := in_t3 (i := 54) rfl rfl
theorem im_X0_keepTraced : Cond.instanceMethod yX0_keepTraced ∈ GW := in_t3 (i := 55) rfl rfl
theorem se_X0_keepTraced : Cond.selects RX0 yX0_keepTraced yX0_keepTraced ∈ GW := in_t3 (i := 56) rfl rfl
theorem cd_X0_keepTraced : Cond.code yX0_keepTraced cX0_keepTraced 3 (some .int) ∈ GW := in_t3 (i := 57) rfl rfl
theorem ml_X0_165 : Cond.methodLink RX0 165 yX0_drawLine ∈ GW := in_t3 (i := 58) rfl rfl
theorem im_X0_drawLine : Cond.instanceMethod yX0_drawLine ∈ GW := in_t3 (i := 59) rfl rfl
theorem se_X0_drawLine : Cond.selects RX0 yX0_drawLine yX0_drawLine ∈ GW := in_t3 (i := 60) rfl rfl
theorem cd_X0_drawLine : Cond.code yX0_drawLine cX0_drawLine 4 none ∈ GW := in_t3 (i := 61) rfl rfl
theorem ml_X0_114 : Cond.methodLink RX0 114 Lib.Math.min.name ∈ GW := in_t3 (i := 63) rfl rfl
theorem st_m_Lib_Math_min_name : Cond.static Lib.Math.min.name ∈ GW := in_t3 (i := 64) rfl rfl
theorem cd_m_Lib_Math_min_name : Cond.code Lib.Math.min.name Lib.Math.min.code 2 (some .int) ∈ GW := in_t3 (i := 65) rfl rfl
theorem ml_X0_95 : Cond.methodLink RX0 95 yX0_isOnBoard ∈ GW := in_t2 (i := 165) rfl rfl
theorem im_X0_isOnBoard : Cond.instanceMethod yX0_isOnBoard ∈ GW := in_t2 (i := 166) rfl rfl
theorem se_X0_isOnBoard : Cond.selects RX0 yX0_isOnBoard yX0_isOnBoard ∈ GW := in_t2 (i := 167) rfl rfl
theorem cd_X0_isOnBoard : Cond.code yX0_isOnBoard cX0_isOnBoard 7 (some .boolean) ∈ GW := in_t2 (i := 168) rfl rfl
theorem ml_X0_111 : Cond.methodLink RX0 111 yX1_lineLength ∈ GW := in_t3 (i := 62) rfl rfl
theorem im_X1_lineLength : Cond.instanceMethod yX1_lineLength ∈ GW := in_t2 (i := 152) rfl rfl
theorem se_X1_lineLength : Cond.selects RX1 yX1_lineLength yX1_lineLength ∈ GW := in_t2 (i := 153) rfl rfl
theorem cd_X1_lineLength : Cond.code yX1_lineLength cX1_lineLength 6 (some .int) ∈ GW := in_t2 (i := 154) rfl rfl
theorem ml_X1_77 : Cond.methodLink RX1 77 Lib.MathLoose.abs_long.x ∈ GW := in_t2 (i := 155) rfl rfl
theorem ml_X0_120 : Cond.methodLink RX0 120 yX1_changeLine ∈ GW := in_t3 (i := 66) rfl rfl
theorem im_X1_changeLine : Cond.instanceMethod yX1_changeLine ∈ GW := in_t3 (i := 67) rfl rfl
theorem se_X1_changeLine : Cond.selects RX1 yX1_changeLine yX1_changeLine ∈ GW := in_t3 (i := 68) rfl rfl
theorem cd_X1_changeLine : Cond.code yX1_changeLine cX1_changeLine 3 none ∈ GW := in_t3 (i := 69) rfl rfl
theorem ml_L_46 : Cond.methodLink RL 46 yX3_why ∈ GW := in_t2 (i := 73) rfl rfl
theorem im_X3_why : Cond.instanceMethod yX3_why ∈ GW := in_t2 (i := 74) rfl rfl
theorem se_X3_why : Cond.selects RX3 yX3_why yX3_why ∈ GW := in_t2 (i := 75) rfl rfl
theorem cd_X3_why : Cond.code yX3_why cX3_why 3 (some .int) ∈ GW := in_t2 (i := 76) rfl rfl
theorem ml_L_15 : Cond.methodLink RL 15 yX3_drawing ∈ GW := in_t2 (i := 122) rfl rfl
theorem im_X3_drawing : Cond.instanceMethod yX3_drawing ∈ GW := in_t2 (i := 123) rfl rfl
theorem se_X3_drawing : Cond.selects RX3 yX3_drawing yX3_drawing ∈ GW := in_t2 (i := 124) rfl rfl
theorem cd_X3_drawing : Cond.code yX3_drawing cX3_drawing 4 (some .int) ∈ GW := in_t2 (i := 125) rfl rfl
theorem kc_X3_136 : Cond.constant RX3 136 (-2000000004) ∈ GW := in_t2 (i := 126) rfl rfl
theorem kf_X3_168 : Cond.constantFloat RX3 168 (1092616192) ∈ GW := in_t2 (i := 177) rfl rfl
theorem ml_X3_137 : Cond.methodLink RX3 137 yX0_originalOf ∈ GW := in_t2 (i := 127) rfl rfl
theorem im_X0_originalOf : Cond.instanceMethod yX0_originalOf ∈ GW := in_t2 (i := 128) rfl rfl
theorem se_X0_originalOf : Cond.selects RX0 yX0_originalOf yX0_originalOf ∈ GW := in_t2 (i := 129) rfl rfl
theorem cd_X0_originalOf : Cond.code yX0_originalOf cX0_originalOf 5 (some .int) ∈ GW := in_t2 (i := 130) rfl rfl
theorem ml_X0_79 : Cond.methodLink RX0 79 yX1_isCopy ∈ GW := in_t2 (i := 131) rfl rfl
theorem ml_X3_140 : Cond.methodLink RX3 140 yX0_stepsOf ∈ GW := in_t2 (i := 132) rfl rfl
theorem im_X0_stepsOf : Cond.instanceMethod yX0_stepsOf ∈ GW := in_t2 (i := 133) rfl rfl
theorem se_X0_stepsOf : Cond.selects RX0 yX0_stepsOf yX0_stepsOf ∈ GW := in_t2 (i := 134) rfl rfl
theorem cd_X0_stepsOf : Cond.code yX0_stepsOf cX0_stepsOf 5 (some .int) ∈ GW := in_t2 (i := 135) rfl rfl
theorem ml_X3_149 : Cond.methodLink RX3 149 yX1_drawnLines ∈ GW := in_t2 (i := 136) rfl rfl
theorem im_X1_drawnLines : Cond.instanceMethod yX1_drawnLines ∈ GW := in_t2 (i := 137) rfl rfl
theorem se_X1_drawnLines : Cond.selects RX1 yX1_drawnLines yX1_drawnLines ∈ GW := in_t2 (i := 138) rfl rfl
theorem cd_X1_drawnLines : Cond.code yX1_drawnLines cX1_drawnLines 3 (some .int) ∈ GW := in_t2 (i := 139) rfl rfl
theorem ml_X1_85 : Cond.methodLink RX1 85 yX1_width ∈ GW := in_t2 (i := 140) rfl rfl
theorem im_X1_width : Cond.instanceMethod yX1_width ∈ GW := in_t2 (i := 141) rfl rfl
theorem se_X1_width : Cond.selects RX1 yX1_width yX1_width ∈ GW := in_t2 (i := 142) rfl rfl
theorem cd_X1_width : Cond.code yX1_width cX1_width 2 (some .int) ∈ GW := in_t2 (i := 143) rfl rfl
theorem ml_X1_71 : Cond.methodLink RX1 71 Lib.Math.max.name ∈ GW := in_t2 (i := 144) rfl rfl
theorem st_m_Lib_Math_max_name : Cond.static Lib.Math.max.name ∈ GW := in_t2 (i := 145) rfl rfl
theorem cd_m_Lib_Math_max_name : Cond.code Lib.Math.max.name Lib.Math.max.code 2 (some .int) ∈ GW := in_t2 (i := 146) rfl rfl
theorem ml_X3_151 : Cond.methodLink RX3 151 yX1_drawnLength ∈ GW := in_t2 (i := 147) rfl rfl
theorem im_X1_drawnLength : Cond.instanceMethod yX1_drawnLength ∈ GW := in_t2 (i := 148) rfl rfl
theorem se_X1_drawnLength : Cond.selects RX1 yX1_drawnLength yX1_drawnLength ∈ GW := in_t2 (i := 149) rfl rfl
theorem cd_X1_drawnLength : Cond.code yX1_drawnLength cX1_drawnLength 3 (some .int) ∈ GW := in_t2 (i := 150) rfl rfl
theorem ml_X1_88 : Cond.methodLink RX1 88 yX1_lineLength ∈ GW := in_t2 (i := 151) rfl rfl
theorem ml_X3_153 : Cond.methodLink RX3 153 yX1_greatestWidth ∈ GW := in_t2 (i := 157) rfl rfl
theorem im_X1_greatestWidth : Cond.instanceMethod yX1_greatestWidth ∈ GW := in_t2 (i := 158) rfl rfl
theorem se_X1_greatestWidth : Cond.selects RX1 yX1_greatestWidth yX1_greatestWidth ∈ GW := in_t2 (i := 159) rfl rfl
theorem cd_X1_greatestWidth : Cond.code yX1_greatestWidth cX1_greatestWidth 3 (some .int) ∈ GW := in_t2 (i := 160) rfl rfl
theorem ml_X3_156 : Cond.methodLink RX3 156 yX0_pointsOffBoard ∈ GW := in_t2 (i := 161) rfl rfl
theorem im_X0_pointsOffBoard : Cond.instanceMethod yX0_pointsOffBoard ∈ GW := in_t2 (i := 162) rfl rfl
theorem se_X0_pointsOffBoard : Cond.selects RX0 yX0_pointsOffBoard yX0_pointsOffBoard ∈ GW := in_t2 (i := 163) rfl rfl
theorem cd_X0_pointsOffBoard : Cond.code yX0_pointsOffBoard cX0_pointsOffBoard 4 (some .int) ∈ GW := in_t2 (i := 164) rfl rfl
theorem ml_X3_160 : Cond.methodLink RX3 160 yX1_ratioAsFloat ∈ GW := in_t2 (i := 169) rfl rfl
theorem im_X1_ratioAsFloat : Cond.instanceMethod yX1_ratioAsFloat ∈ GW := in_t2 (i := 170) rfl rfl
theorem se_X1_ratioAsFloat : Cond.selects RX1 yX1_ratioAsFloat yX1_ratioAsFloat ∈ GW := in_t2 (i := 171) rfl rfl
theorem cd_X1_ratioAsFloat : Cond.code yX1_ratioAsFloat cX1_ratioAsFloat 5 (some .float) ∈ GW := in_t2 (i := 172) rfl rfl
theorem ml_X3_164 : Cond.methodLink RX3 164 yX3_floatBits ∈ GW := in_t2 (i := 173) rfl rfl
theorem st_X3_floatBits : Cond.static yX3_floatBits ∈ GW := in_t2 (i := 174) rfl rfl
theorem cd_X3_floatBits : Cond.code yX3_floatBits cX3_floatBits 4 (some .int) ∈ GW := in_t2 (i := 175) rfl rfl
theorem kf_X3_245 : Cond.constantFloat RX3 245 (1258291200) ∈ GW := in_t2 (i := 176) rfl rfl
theorem ml_L_42 : Cond.methodLink RL 42 yX3_ratio ∈ GW := in_t3 (i := 42) rfl rfl
theorem im_X3_ratio : Cond.instanceMethod yX3_ratio ∈ GW := in_t3 (i := 43) rfl rfl
theorem se_X3_ratio : Cond.selects RX3 yX3_ratio yX3_ratio ∈ GW := in_t3 (i := 44) rfl rfl
theorem cd_X3_ratio : Cond.code yX3_ratio cX3_ratio 4 (some .int) ∈ GW := in_t3 (i := 45) rfl rfl
theorem ml_X3_176 : Cond.methodLink RX3 176 yX3_lowest ∈ GW := in_t2 (i := 185) rfl rfl
theorem ml_L_19 : Cond.methodLink RL 19 yX3_pointInfo ∈ GW := in_t2 (i := 178) rfl rfl
theorem im_X3_pointInfo : Cond.instanceMethod yX3_pointInfo ∈ GW := in_t2 (i := 179) rfl rfl
theorem se_X3_pointInfo : Cond.selects RX3 yX3_pointInfo yX3_pointInfo ∈ GW := in_t2 (i := 180) rfl rfl
theorem cd_X3_pointInfo : Cond.code yX3_pointInfo cX3_pointInfo 5 (some .long) ∈ GW := in_t2 (i := 181) rfl rfl
theorem kl_X3_183 : Cond.constantLong RX3 183 (-2000000001) ∈ GW := in_t2 (i := 183) rfl rfl
theorem ml_X3_180 : Cond.methodLink RX3 180 yX1_has ∈ GW := in_t2 (i := 182) rfl rfl
theorem ml_X3_185 : Cond.methodLink RX3 185 yX1_x ∈ GW := in_t2 (i := 184) rfl rfl
theorem ml_X3_189 : Cond.methodLink RX3 189 yX1_y ∈ GW := in_t2 (i := 186) rfl rfl
theorem ml_X3_192 : Cond.methodLink RX3 192 yX1_isJoined ∈ GW := in_t2 (i := 187) rfl rfl
theorem ml_X3_195 : Cond.methodLink RX3 195 yX1_width ∈ GW := in_t2 (i := 188) rfl rfl
theorem ml_X3_198 : Cond.methodLink RX3 198 yX1_lineLength ∈ GW := in_t2 (i := 189) rfl rfl
theorem ml_L_72 : Cond.methodLink RL 72 yX3_atOnce ∈ GW := in_t2 (i := 190) rfl rfl
theorem im_X3_atOnce : Cond.instanceMethod yX3_atOnce ∈ GW := in_t2 (i := 191) rfl rfl
theorem se_X3_atOnce : Cond.selects RX3 yX3_atOnce yX3_atOnce ∈ GW := in_t2 (i := 192) rfl rfl
theorem cd_X3_atOnce : Cond.code yX3_atOnce cX3_atOnce 6 (some .long) ∈ GW := in_t2 (i := 193) rfl rfl
theorem ml_X3_201 : Cond.methodLink RX3 201 yX1_xAtOnce ∈ GW := in_t2 (i := 194) rfl rfl
theorem im_X1_xAtOnce : Cond.instanceMethod yX1_xAtOnce ∈ GW := in_t2 (i := 195) rfl rfl
theorem se_X1_xAtOnce : Cond.selects RX1 yX1_xAtOnce yX1_xAtOnce ∈ GW := in_t2 (i := 196) rfl rfl
theorem cd_X1_xAtOnce : Cond.code yX1_xAtOnce cX1_xAtOnce 3 (some .long) ∈ GW := in_t2 (i := 197) rfl rfl
theorem ml_X3_205 : Cond.methodLink RX3 205 yX1_yAtOnce ∈ GW := in_t2 (i := 198) rfl rfl
theorem im_X1_yAtOnce : Cond.instanceMethod yX1_yAtOnce ∈ GW := in_t2 (i := 199) rfl rfl
theorem se_X1_yAtOnce : Cond.selects RX1 yX1_yAtOnce yX1_yAtOnce ∈ GW := in_t2 (i := 200) rfl rfl
theorem cd_X1_yAtOnce : Cond.code yX1_yAtOnce cX1_yAtOnce 3 (some .long) ∈ GW := in_t2 (i := 201) rfl rfl
theorem ml_L_36 : Cond.methodLink RL 36 yX3_alike ∈ GW := in_t3 (i := 32) rfl rfl
theorem im_X3_alike : Cond.instanceMethod yX3_alike ∈ GW := in_t3 (i := 33) rfl rfl
theorem se_X3_alike : Cond.selects RX3 yX3_alike yX3_alike ∈ GW := in_t3 (i := 34) rfl rfl
theorem cd_X3_alike : Cond.code yX3_alike cX3_alike 7 (some .int) ∈ GW := in_t3 (i := 35) rfl rfl
theorem ml_L_39 : Cond.methodLink RL 39 yX3_armFor ∈ GW := in_t3 (i := 36) rfl rfl
theorem im_X3_armFor : Cond.instanceMethod yX3_armFor ∈ GW := in_t3 (i := 37) rfl rfl
theorem se_X3_armFor : Cond.selects RX3 yX3_armFor yX3_armFor ∈ GW := in_t3 (i := 38) rfl rfl
theorem cd_X3_armFor : Cond.code yX3_armFor cX3_armFor 13 (some .int) ∈ GW := in_t3 (i := 39) rfl rfl
theorem kl_X3_208 : Cond.constantLong RX3 208 (20) ∈ GW := in_t3 (i := 40) rfl rfl
theorem kl_X3_210 : Cond.constantLong RX3 210 (100) ∈ GW := in_t3 (i := 41) rfl rfl
theorem ml_L_75 : Cond.methodLink RL 75 yX3_type ∈ GW := in_t3 (i := 76) rfl rfl
theorem im_X3_type : Cond.instanceMethod yX3_type ∈ GW := in_t3 (i := 77) rfl rfl
theorem se_X3_type : Cond.selects RX3 yX3_type yX3_type ∈ GW := in_t3 (i := 78) rfl rfl
theorem cd_X3_type : Cond.code yX3_type cX3_type 2 (some .int) ∈ GW := in_t3 (i := 79) rfl rfl
theorem ml_X3_212 : Cond.methodLink RX3 212 yX2_append ∈ GW := in_t3 (i := 80) rfl rfl
theorem im_X2_append : Cond.instanceMethod yX2_append ∈ GW := in_t3 (i := 81) rfl rfl
theorem se_X2_append : Cond.selects RX2 yX2_append yX2_append ∈ GW := in_t3 (i := 82) rfl rfl
theorem cd_X2_append : Cond.code yX2_append cX2_append 2 (some .boolean) ∈ GW := in_t3 (i := 83) rfl rfl
theorem ml_L_78 : Cond.methodLink RL 78 yX3_fault ∈ GW := in_t2 (i := 206) rfl rfl
theorem im_X3_fault : Cond.instanceMethod yX3_fault ∈ GW := in_t2 (i := 207) rfl rfl
theorem se_X3_fault : Cond.selects RX3 yX3_fault yX3_fault ∈ GW := in_t2 (i := 208) rfl rfl
theorem cd_X3_fault : Cond.code yX3_fault cX3_fault 2 (some .int) ∈ GW := in_t2 (i := 209) rfl rfl
theorem ml_X3_216 : Cond.methodLink RX3 216 yX2_parse ∈ GW := in_t2 (i := 210) rfl rfl
theorem im_X2_parse : Cond.instanceMethod yX2_parse ∈ GW := in_t2 (i := 211) rfl rfl
theorem se_X2_parse : Cond.selects RX2 yX2_parse yX2_parse ∈ GW := in_t2 (i := 212) rfl rfl
theorem cd_X2_parse : Cond.code yX2_parse cX2_parse 4 (some .int) ∈ GW := in_t2 (i := 213) rfl rfl
theorem ml_X2_42 : Cond.methodLink RX2 42 yX2_parsePoint ∈ GW := in_t2 (i := 214) rfl rfl
theorem im_X2_parsePoint : Cond.instanceMethod yX2_parsePoint ∈ GW := in_t2 (i := 216) rfl rfl
theorem se_X2_parsePoint : Cond.selects RX2 yX2_parsePoint yX2_parsePoint ∈ GW := in_p1 (i := 2) rfl
theorem cd_X2_parsePoint : Cond.code yX2_parsePoint cX2_parsePoint 4 none ∈ GW := in_t2 (i := 217) rfl rfl
theorem ml_X2_46 : Cond.methodLink RX2 46 yX2_here ∈ GW := in_t2 (i := 218) rfl rfl
theorem im_X2_here : Cond.instanceMethod yX2_here ∈ GW := in_t2 (i := 220) rfl rfl
theorem se_X2_here : Cond.selects RX2 yX2_here yX2_here ∈ GW := in_p1 (i := 3) rfl
theorem cd_X2_here : Cond.code yX2_here cX2_here 1 (some .char) ∈ GW := in_t2 (i := 221) rfl rfl
theorem ml_X2_61 : Cond.methodLink RX2 61 yX2_isDigit ∈ GW := in_t2 (i := 222) rfl rfl
theorem st_X2_isDigit : Cond.static yX2_isDigit ∈ GW := in_t2 (i := 223) rfl rfl
theorem cd_X2_isDigit : Cond.code yX2_isDigit cX2_isDigit 1 (some .boolean) ∈ GW := in_t2 (i := 224) rfl rfl
theorem ml_X2_64 : Cond.methodLink RX2 64 yX2_fail ∈ GW := in_t2 (i := 225) rfl rfl
theorem im_X2_fail : Cond.instanceMethod yX2_fail ∈ GW := in_t2 (i := 227) rfl rfl
theorem se_X2_fail : Cond.selects RX2 yX2_fail yX2_fail ∈ GW := in_p1 (i := 4) rfl
theorem cd_X2_fail : Cond.code yX2_fail cX2_fail 3 none ∈ GW := in_t2 (i := 228) rfl rfl
theorem ml_X2_68 : Cond.methodLink RX2 68 yX2_parseNumber ∈ GW := in_t2 (i := 229) rfl rfl
theorem im_X2_parseNumber : Cond.instanceMethod yX2_parseNumber ∈ GW := in_t2 (i := 231) rfl rfl
theorem se_X2_parseNumber : Cond.selects RX2 yX2_parseNumber yX2_parseNumber ∈ GW := in_p1 (i := 5) rfl
theorem cd_X2_parseNumber : Cond.code yX2_parseNumber cX2_parseNumber 4 (some .int) ∈ GW := in_t2 (i := 232) rfl rfl
theorem ml_X2_58 : Cond.methodLink RX2 58 yX2_failHere ∈ GW := in_t2 (i := 233) rfl rfl
theorem im_X2_failHere : Cond.instanceMethod yX2_failHere ∈ GW := in_t2 (i := 235) rfl rfl
theorem se_X2_failHere : Cond.selects RX2 yX2_failHere yX2_failHere ∈ GW := in_p1 (i := 6) rfl
theorem cd_X2_failHere : Cond.code yX2_failHere cX2_failHere 1 none ∈ GW := in_t2 (i := 236) rfl rfl
theorem ml_X2_54 : Cond.methodLink RX2 54 yX2_expect ∈ GW := in_t2 (i := 237) rfl rfl
theorem im_X2_expect : Cond.instanceMethod yX2_expect ∈ GW := in_t2 (i := 239) rfl rfl
theorem se_X2_expect : Cond.selects RX2 yX2_expect yX2_expect ∈ GW := in_p1 (i := 7) rfl
theorem cd_X2_expect : Cond.code yX2_expect cX2_expect 2 none ∈ GW := in_t3 (i := 0) rfl rfl
theorem ml_X2_50 : Cond.methodLink RX2 50 yX2_accept ∈ GW := in_t3 (i := 1) rfl rfl
theorem im_X2_accept : Cond.instanceMethod yX2_accept ∈ GW := in_t3 (i := 3) rfl rfl
theorem se_X2_accept : Cond.selects RX2 yX2_accept yX2_accept ∈ GW := in_p1 (i := 8) rfl
theorem cd_X2_accept : Cond.code yX2_accept cX2_accept 2 (some .boolean) ∈ GW := in_t3 (i := 4) rfl rfl
theorem ml_L_86 : Cond.methodLink RL 86 yX3_undo ∈ GW := in_t2 (i := 202) rfl rfl
theorem im_X3_undo : Cond.instanceMethod yX3_undo ∈ GW := in_t2 (i := 203) rfl rfl
theorem se_X3_undo : Cond.selects RX3 yX3_undo yX3_undo ∈ GW := in_t2 (i := 204) rfl rfl
theorem cd_X3_undo : Cond.code yX3_undo cX3_undo 3 (some .int) ∈ GW := in_t2 (i := 205) rfl rfl
theorem ml_L_90 : Cond.methodLink RL 90 yL_sound ∈ GW := in_t3 (i := 22) rfl rfl
theorem st_L_sound : Cond.static yL_sound ∈ GW := in_t3 (i := 23) rfl rfl
theorem cd_L_sound : Cond.code yL_sound cL_sound 21 (some .boolean) ∈ GW := in_t3 (i := 24) rfl rfl
theorem kl_L_23 : Cond.constantLong RL 23 (100000) ∈ GW := in_t3 (i := 25) rfl rfl
theorem kl_L_32 : Cond.constantLong RL 32 (1000) ∈ GW := in_t3 (i := 30) rfl rfl
theorem kl_L_34 : Cond.constantLong RL 34 (9) ∈ GW := in_t3 (i := 31) rfl rfl
theorem kc_L_45 : Cond.constant RL 45 (100000) ∈ GW := in_t3 (i := 46) rfl rfl
theorem ml_L_25 : Cond.methodLink RL 25 yL_common ∈ GW := in_t3 (i := 26) rfl rfl
theorem st_L_common : Cond.static yL_common ∈ GW := in_t3 (i := 27) rfl rfl
theorem cd_L_common : Cond.code yL_common cL_common 10 (some .long) ∈ GW := in_t3 (i := 28) rfl rfl
theorem ml_L_93 : Cond.methodLink RL 93 yX3_read ∈ GW := in_t3 (i := 5) rfl rfl
theorem im_X3_read : Cond.instanceMethod yX3_read ∈ GW := in_t3 (i := 6) rfl rfl
theorem se_X3_read : Cond.selects RX3 yX3_read yX3_read ∈ GW := in_t3 (i := 7) rfl rfl
theorem cd_X3_read : Cond.code yX3_read cX3_read 3 (some .int) ∈ GW := in_t3 (i := 8) rfl rfl
theorem ml_X3_92 : Cond.methodLink RX3 92 yX0_spare ∈ GW := in_t2 (i := 36) rfl rfl
theorem ml_X3_96 : Cond.methodLink RX3 96 yX0_beginOriginal ∈ GW := in_t2 (i := 40) rfl rfl
theorem im_X0_beginOriginal : Cond.instanceMethod yX0_beginOriginal ∈ GW := in_t2 (i := 41) rfl rfl
theorem se_X0_beginOriginal : Cond.selects RX0 yX0_beginOriginal yX0_beginOriginal ∈ GW := in_t2 (i := 42) rfl rfl
theorem cd_X0_beginOriginal : Cond.code yX0_beginOriginal cX0_beginOriginal 2 (some .int) ∈ GW := in_t2 (i := 43) rfl rfl
theorem ml_X3_225 : Cond.methodLink RX3 225 yX2_addPointsTo ∈ GW := in_t3 (i := 9) rfl rfl
theorem im_X2_addPointsTo : Cond.instanceMethod yX2_addPointsTo ∈ GW := in_t3 (i := 10) rfl rfl
theorem se_X2_addPointsTo : Cond.selects RX2 yX2_addPointsTo yX2_addPointsTo ∈ GW := in_t3 (i := 11) rfl rfl
theorem cd_X2_addPointsTo : Cond.code yX2_addPointsTo cX2_addPointsTo 3 none ∈ GW := in_t3 (i := 12) rfl rfl
theorem ml_X2_72 : Cond.methodLink RX2 72 yX1_add ∈ GW := in_t3 (i := 13) rfl rfl
theorem ml_L_96 : Cond.methodLink RL 96 yL_lot ∈ GW := in_t3 (i := 14) rfl rfl
theorem st_L_lot : Cond.static yL_lot ∈ GW := in_t3 (i := 15) rfl rfl
theorem cd_L_lot : Cond.code yL_lot cL_lot 2 (some .int) ∈ GW := in_t3 (i := 16) rfl rfl
theorem kc_L_7 : Cond.constant RL 7 (-1981822027) ∈ GW := in_t3 (i := 17) rfl rfl
theorem ml_L_100 : Cond.methodLink RL 100 yL_low ∈ GW := in_t3 (i := 18) rfl rfl
theorem st_L_low : Cond.static yL_low ∈ GW := in_t3 (i := 19) rfl rfl
theorem cd_L_low : Cond.code yL_low cL_low 2 (some .int) ∈ GW := in_t3 (i := 20) rfl rfl
theorem kc_L_8 : Cond.constant RL 8 (2147483647) ∈ GW := in_t3 (i := 21) rfl rfl
theorem ml_L_103 : Cond.methodLink RL 103 yX3_draw ∈ GW := in_t2 (i := 32) rfl rfl
theorem im_X3_draw : Cond.instanceMethod yX3_draw ∈ GW := in_t2 (i := 33) rfl rfl
theorem se_X3_draw : Cond.selects RX3 yX3_draw yX3_draw ∈ GW := in_t2 (i := 34) rfl rfl
theorem cd_X3_draw : Cond.code yX3_draw cX3_draw 1 (some .int) ∈ GW := in_t2 (i := 35) rfl rfl
theorem ml_L_107 : Cond.methodLink RL 107 yL_copies ∈ GW := in_t3 (i := 47) rfl rfl
theorem st_L_copies : Cond.static yL_copies ∈ GW := in_t3 (i := 48) rfl rfl
theorem cd_L_copies : Cond.code yL_copies cL_copies 41 (some .boolean) ∈ GW := in_t3 (i := 49) rfl rfl
theorem ml_L_111 : Cond.methodLink RL 111 yX3_sharpen ∈ GW := in_t2 (i := 27) rfl rfl
theorem im_X3_sharpen : Cond.instanceMethod yX3_sharpen ∈ GW := in_t2 (i := 28) rfl rfl
theorem se_X3_sharpen : Cond.selects RX3 yX3_sharpen yX3_sharpen ∈ GW := in_t2 (i := 29) rfl rfl
theorem cd_X3_sharpen : Cond.code yX3_sharpen cX3_sharpen 2 (some .int) ∈ GW := in_t2 (i := 30) rfl rfl
def isN : Cond → Bool
  | .fieldLinkNest .. => true
  | .methodLinkNest .. => true
  | _ => false
/-- the words of members that nest mates reach -/
def nws : List Cond := tables_1.filter isN
theorem nws_tbl : ∀ w ∈ nws, w ∈ lw_tbl := fun _ h => List.mem_append_right _ (List.mem_filter.mp h).1
theorem nws_on {w : Cond} (h : w ∈ nws) : w.onTables = true := by
  have h2 := (List.mem_filter.mp h).2
  cases w <;> first | rfl | cases h2
theorem nws_warm {s U : State} (hW : s.WarmedH U.vm) (h : ∀ w ∈ nws, va_Nw w s) : ∀ w ∈ nws, va_Nw w U := by
  intro w hw
  have h1 := h w hw
  have h2 := (List.mem_filter.mp hw).2
  cases w <;> first | exact va_Nw.warmF hW h1 | exact va_Nw.warmM hW h1 | cases h2
theorem in_n1 {w : Cond} {i : Nat} (h0 : tables_1_1[i]? = some w) (g : isN w = true) : w ∈ nws := List.mem_filter.mpr ⟨(have h := List.mem_of_getElem? h0; List.mem_append_left _ h), g⟩
theorem in_n2 {w : Cond} {i : Nat} (h0 : tables_1_2[i]? = some w) (g : isN w = true) : w ∈ nws := List.mem_filter.mpr ⟨(have h := List.mem_of_getElem? h0; List.mem_append_right _ (List.mem_append_left _ h)), g⟩
theorem in_n3 {w : Cond} {i : Nat} (h0 : tables_1_3[i]? = some w) (g : isN w = true) : w ∈ nws := List.mem_filter.mpr ⟨(have h := List.mem_of_getElem? h0; List.mem_append_right _ (List.mem_append_right _ (h))), g⟩
theorem fn_X0_24 : Cond.fieldLinkNest RX0 24 "PantographArm" "FIRST_SETTING" "[I" "PantographArm" ∈ nws := in_n1 (i := 20) rfl rfl
theorem fn_X0_76 : Cond.fieldLinkNest RX0 76 "PantographArm$Drawing" "parent" "I" "PantographArm" ∈ nws := in_n1 (i := 30) rfl rfl
theorem fn_X3_133 : Cond.fieldLinkNest RX3 133 "PantographArm$Drawing" "parent" "I" "PantographArm" ∈ nws := in_n1 (i := 31) rfl rfl
theorem fn_X3_169 : Cond.fieldLinkNest RX3 169 "PantographArm$Drawing" "scale" "J" "PantographArm" ∈ nws := in_n1 (i := 33) rfl rfl
theorem fn_X0_134 : Cond.fieldLinkNest RX0 134 "PantographArm$Drawing" "scale" "J" "PantographArm" ∈ nws := in_n1 (i := 34) rfl rfl
theorem fn_X3_173 : Cond.fieldLinkNest RX3 173 "PantographArm$Drawing" "parts" "J" "PantographArm" ∈ nws := in_n1 (i := 36) rfl rfl
theorem fn_X0_90 : Cond.fieldLinkNest RX0 90 "PantographArm$Drawing" "parts" "J" "PantographArm" ∈ nws := in_n1 (i := 37) rfl rfl
theorem fn_X3_143 : Cond.fieldLinkNest RX3 143 "PantographArm$Drawing" "signX" "I" "PantographArm" ∈ nws := in_n1 (i := 39) rfl rfl
theorem fn_X0_137 : Cond.fieldLinkNest RX0 137 "PantographArm$Drawing" "signX" "I" "PantographArm" ∈ nws := in_n1 (i := 40) rfl rfl
theorem fn_X3_146 : Cond.fieldLinkNest RX3 146 "PantographArm$Drawing" "signY" "I" "PantographArm" ∈ nws := in_n1 (i := 42) rfl rfl
theorem fn_X0_142 : Cond.fieldLinkNest RX0 142 "PantographArm$Drawing" "signY" "I" "PantographArm" ∈ nws := in_n1 (i := 43) rfl rfl
theorem fn_X0_147 : Cond.fieldLinkNest RX0 147 "PantographArm$Drawing" "shiftX" "J" "PantographArm" ∈ nws := in_n1 (i := 45) rfl rfl
theorem fn_X0_154 : Cond.fieldLinkNest RX0 154 "PantographArm$Drawing" "shiftY" "J" "PantographArm" ∈ nws := in_n1 (i := 47) rfl rfl
theorem fn_X3_121 : Cond.fieldLinkNest RX3 121 "PantographArm$Drawing" "size" "I" "PantographArm" ∈ nws := in_n1 (i := 49) rfl rfl
theorem fn_X0_94 : Cond.fieldLinkNest RX0 94 "PantographArm$Drawing" "size" "I" "PantographArm" ∈ nws := in_n1 (i := 50) rfl rfl
theorem fn_X3_36 : Cond.fieldLinkNest RX3 36 "PantographArm$Desk" "a" "I" "PantographArm" ∈ nws := in_n1 (i := 80) rfl rfl
theorem fn_X3_39 : Cond.fieldLinkNest RX3 39 "PantographArm$Desk" "b" "I" "PantographArm" ∈ nws := in_n1 (i := 82) rfl rfl
theorem fn_X3_45 : Cond.fieldLinkNest RX3 45 "PantographArm$Desk" "pivotX" "I" "PantographArm" ∈ nws := in_n1 (i := 84) rfl rfl
theorem fn_X3_48 : Cond.fieldLinkNest RX3 48 "PantographArm$Desk" "pivotY" "I" "PantographArm" ∈ nws := in_n1 (i := 86) rfl rfl
theorem fn_X3_69 : Cond.fieldLinkNest RX3 69 "PantographArm$Desk" "wear" "I" "PantographArm" ∈ nws := in_n1 (i := 89) rfl rfl
theorem fn_X3_76 : Cond.fieldLinkNest RX3 76 "PantographArm$Desk" "sharpenings" "I" "PantographArm" ∈ nws := in_n1 (i := 91) rfl rfl
theorem fn_X3_79 : Cond.fieldLinkNest RX3 79 "PantographArm$Desk" "drawnLines" "I" "PantographArm" ∈ nws := in_n1 (i := 93) rfl rfl
theorem fn_X3_82 : Cond.fieldLinkNest RX3 82 "PantographArm$Desk" "drawnLength" "I" "PantographArm" ∈ nws := in_n1 (i := 95) rfl rfl
theorem fn_X3_85 : Cond.fieldLinkNest RX3 85 "PantographArm$Desk" "leftOut" "I" "PantographArm" ∈ nws := in_n1 (i := 97) rfl rfl
theorem fn_X3_66 : Cond.fieldLinkNest RX3 66 "PantographArm$Desk" "size" "I" "PantographArm" ∈ nws := in_n1 (i := 100) rfl rfl
theorem fn_X3_88 : Cond.fieldLinkNest RX3 88 "PantographArm$PointText" "length" "I" "PantographArm" ∈ nws := in_n1 (i := 135) rfl rfl
theorem fn_X3_219 : Cond.fieldLinkNest RX3 219 "PantographArm$PointText" "faultAt" "I" "PantographArm" ∈ nws := in_n1 (i := 138) rfl rfl
theorem fn_X3_222 : Cond.fieldLinkNest RX3 222 "PantographArm$PointText" "reason" "I" "PantographArm" ∈ nws := in_n1 (i := 140) rfl rfl
theorem mn_X0_99 : Cond.methodLinkNest RX0 99 yX3_quotient "PantographArm" ∈ nws := in_n2 (i := 24) rfl rfl
theorem mn_X1_91 : Cond.methodLinkNest RX1 91 yX3_lowest "PantographArm" ∈ nws := in_n2 (i := 112) rfl rfl
theorem mn_X1_81 : Cond.methodLinkNest RX1 81 yX3_quotient "PantographArm" ∈ nws := in_n2 (i := 156) rfl rfl
theorem uf_X0_0 : u_lay RX0 TX0 0 ∈ GW := in_t1 (i := 101) rfl rfl
theorem uf_X0_1 : u_lay RX0 TX0 1 ∈ GW := in_t1 (i := 103) rfl rfl
theorem uf_X0_2 : u_lay RX0 TX0 2 ∈ GW := in_t1 (i := 105) rfl rfl
theorem uf_X0_3 : u_lay RX0 TX0 3 ∈ GW := in_t1 (i := 107) rfl rfl
theorem uf_X0_4 : u_lay RX0 TX0 4 ∈ GW := in_t1 (i := 109) rfl rfl
theorem uf_X0_5 : u_lay RX0 TX0 5 ∈ GW := in_t1 (i := 111) rfl rfl
theorem uf_X0_6 : u_lay RX0 TX0 6 ∈ GW := in_t1 (i := 113) rfl rfl
theorem uf_X0_7 : u_lay RX0 TX0 7 ∈ GW := in_t1 (i := 115) rfl rfl
theorem uf_X0_8 : u_lay RX0 TX0 8 ∈ GW := in_t1 (i := 117) rfl rfl
theorem uf_X0_9 : u_lay RX0 TX0 9 ∈ GW := in_t1 (i := 119) rfl rfl
theorem uf_X0_10 : u_lay RX0 TX0 10 ∈ GW := in_t1 (i := 121) rfl rfl
theorem uf_X0_11 : u_lay RX0 TX0 11 ∈ GW := in_t1 (i := 123) rfl rfl
theorem inGX0 : ∀ w ∈ u_ws RX0 TX0 12, w ∈ GW := by
  intro w h
  obtain ⟨k, hk, rfl⟩ := List.mem_map.mp h
  have hk := List.mem_range.mp hk
  rcases (show k = 0 ∨ k = 1 ∨ k = 2 ∨ k = 3 ∨ k = 4 ∨ k = 5 ∨ k = 6 ∨ k = 7 ∨ k = 8 ∨ k = 9 ∨ k = 10 ∨ k = 11 by omega) with rfl | rfl | rfl | rfl | rfl | rfl | rfl | rfl | rfl | rfl | rfl | rfl
  · exact uf_X0_0
  · exact uf_X0_1
  · exact uf_X0_2
  · exact uf_X0_3
  · exact uf_X0_4
  · exact uf_X0_5
  · exact uf_X0_6
  · exact uf_X0_7
  · exact uf_X0_8
  · exact uf_X0_9
  · exact uf_X0_10
  · exact uf_X0_11
theorem uf_X1_0 : u_lay RX1 TX1 0 ∈ GW := in_t1 (i := 54) rfl rfl
theorem uf_X1_1 : u_lay RX1 TX1 1 ∈ GW := in_t1 (i := 56) rfl rfl
theorem uf_X1_2 : u_lay RX1 TX1 2 ∈ GW := in_t1 (i := 58) rfl rfl
theorem uf_X1_3 : u_lay RX1 TX1 3 ∈ GW := in_t1 (i := 60) rfl rfl
theorem uf_X1_4 : u_lay RX1 TX1 4 ∈ GW := in_t1 (i := 62) rfl rfl
theorem uf_X1_5 : u_lay RX1 TX1 5 ∈ GW := in_t1 (i := 64) rfl rfl
theorem uf_X1_6 : u_lay RX1 TX1 6 ∈ GW := in_t1 (i := 66) rfl rfl
theorem uf_X1_7 : u_lay RX1 TX1 7 ∈ GW := in_t1 (i := 68) rfl rfl
theorem uf_X1_8 : u_lay RX1 TX1 8 ∈ GW := in_t1 (i := 70) rfl rfl
theorem uf_X1_9 : u_lay RX1 TX1 9 ∈ GW := in_t1 (i := 72) rfl rfl
theorem uf_X1_10 : u_lay RX1 TX1 10 ∈ GW := in_t1 (i := 74) rfl rfl
theorem inGX1 : ∀ w ∈ u_ws RX1 TX1 11, w ∈ GW := by
  intro w h
  obtain ⟨k, hk, rfl⟩ := List.mem_map.mp h
  have hk := List.mem_range.mp hk
  rcases (show k = 0 ∨ k = 1 ∨ k = 2 ∨ k = 3 ∨ k = 4 ∨ k = 5 ∨ k = 6 ∨ k = 7 ∨ k = 8 ∨ k = 9 ∨ k = 10 by omega) with rfl | rfl | rfl | rfl | rfl | rfl | rfl | rfl | rfl | rfl | rfl
  · exact uf_X1_0
  · exact uf_X1_1
  · exact uf_X1_2
  · exact uf_X1_3
  · exact uf_X1_4
  · exact uf_X1_5
  · exact uf_X1_6
  · exact uf_X1_7
  · exact uf_X1_8
  · exact uf_X1_9
  · exact uf_X1_10
theorem uf_X2_0 : u_lay RX2 TX2 0 ∈ GW := in_t1 (i := 145) rfl rfl
theorem uf_X2_1 : u_lay RX2 TX2 1 ∈ GW := in_t1 (i := 147) rfl rfl
theorem uf_X2_2 : u_lay RX2 TX2 2 ∈ GW := in_t1 (i := 149) rfl rfl
theorem uf_X2_3 : u_lay RX2 TX2 3 ∈ GW := in_t1 (i := 151) rfl rfl
theorem uf_X2_4 : u_lay RX2 TX2 4 ∈ GW := in_t1 (i := 153) rfl rfl
theorem uf_X2_5 : u_lay RX2 TX2 5 ∈ GW := in_t1 (i := 155) rfl rfl
theorem uf_X2_6 : u_lay RX2 TX2 6 ∈ GW := in_t1 (i := 157) rfl rfl
theorem uf_X2_7 : u_lay RX2 TX2 7 ∈ GW := in_t1 (i := 159) rfl rfl
theorem uf_X2_8 : u_lay RX2 TX2 8 ∈ GW := in_t1 (i := 161) rfl rfl
theorem inGX2 : ∀ w ∈ u_ws RX2 TX2 9, w ∈ GW := by
  intro w h
  obtain ⟨k, hk, rfl⟩ := List.mem_map.mp h
  have hk := List.mem_range.mp hk
  rcases (show k = 0 ∨ k = 1 ∨ k = 2 ∨ k = 3 ∨ k = 4 ∨ k = 5 ∨ k = 6 ∨ k = 7 ∨ k = 8 by omega) with rfl | rfl | rfl | rfl | rfl | rfl | rfl | rfl | rfl
  · exact uf_X2_0
  · exact uf_X2_1
  · exact uf_X2_2
  · exact uf_X2_3
  · exact uf_X2_4
  · exact uf_X2_5
  · exact uf_X2_6
  · exact uf_X2_7
  · exact uf_X2_8
theorem uf_X3_0 : u_lay RX3 TX3 0 ∈ GW := in_t1 (i := 170) rfl rfl
theorem uf_X3_1 : u_lay RX3 TX3 1 ∈ GW := in_t1 (i := 172) rfl rfl
theorem uf_X3_2 : u_lay RX3 TX3 2 ∈ GW := in_t1 (i := 174) rfl rfl
theorem uf_X3_3 : u_lay RX3 TX3 3 ∈ GW := in_t1 (i := 176) rfl rfl
theorem inGX3 : ∀ w ∈ u_ws RX3 TX3 4, w ∈ GW := by
  intro w h
  obtain ⟨k, hk, rfl⟩ := List.mem_map.mp h
  have hk := List.mem_range.mp hk
  rcases (show k = 0 ∨ k = 1 ∨ k = 2 ∨ k = 3 by omega) with rfl | rfl | rfl | rfl
  · exact uf_X3_0
  · exact uf_X3_1
  · exact uf_X3_2
  · exact uf_X3_3
