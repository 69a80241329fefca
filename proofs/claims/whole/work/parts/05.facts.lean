/-! facts of the tables, printed by a program of mine out of them -/
abbrev mX0_init : zM := (yX0_init, cX0_init, 1, none)
set_option maxRecDepth 100000 in
theorem kX0_init : Cond.code yX0_init cX0_init 1 (none) ∈ zT := zTm (i := 130) rfl rfl
abbrev mX0_begin : zM := (yX0_begin, cX0_begin, 1, none)
set_option maxRecDepth 100000 in
theorem kX0_begin : Cond.code yX0_begin cX0_begin 1 (none) ∈ zT := zTm (i := 483) rfl rfl
abbrev mX0_offer : zM := (yX0_offer, cX0_offer, 3, none)
set_option maxRecDepth 100000 in
theorem kX0_offer : Cond.code yX0_offer cX0_offer 3 (none) ∈ zT := zTm (i := 509) rfl rfl
abbrev mX0_many : zM := (yX0_many, cX0_many, 1, some .int)
set_option maxRecDepth 100000 in
theorem kX0_many : Cond.code yX0_many cX0_many 1 (some .int) ∈ zT := zTm (i := 518) rfl rfl
abbrev mX0_total : zM := (yX0_total, cX0_total, 1, some .int)
set_option maxRecDepth 100000 in
theorem kX0_total : Cond.code yX0_total cX0_total 1 (some .int) ∈ zT := zTm (i := 554) rfl rfl
abbrev mX0_signAt : zM := (yX0_signAt, cX0_signAt, 2, some .int)
set_option maxRecDepth 100000 in
theorem kX0_signAt : Cond.code yX0_signAt cX0_signAt 2 (some .int) ∈ zT := zTm (i := 613) rfl rfl
abbrev mX0_startAt : zM := (yX0_startAt, cX0_startAt, 2, some .int)
set_option maxRecDepth 100000 in
theorem kX0_startAt : Cond.code yX0_startAt cX0_startAt 2 (some .int) ∈ zT := zTm (i := 566) rfl rfl
abbrev mX0_lengthAt : zM := (yX0_lengthAt, cX0_lengthAt, 2, some .int)
set_option maxRecDepth 100000 in
theorem kX0_lengthAt : Cond.code yX0_lengthAt cX0_lengthAt 2 (some .int) ∈ zT := zTm (i := 570) rfl rfl
abbrev mX0_indexOf : zM := (yX0_indexOf, cX0_indexOf, 3, some .int)
set_option maxRecDepth 100000 in
theorem kX0_indexOf : Cond.code yX0_indexOf cX0_indexOf 3 (some .int) ∈ zT := zTm (i := 535) rfl rfl
abbrev mX0_indexOfPoint : zM := (yX0_indexOfPoint, cX0_indexOfPoint, 3, some .int)
set_option maxRecDepth 100000 in
theorem kX0_indexOfPoint : Cond.code yX0_indexOfPoint cX0_indexOfPoint 3 (some .int) ∈ zT := zTm (i := 558) rfl rfl
abbrev mX1_init : zM := (yX1_init, cX1_init, 2, none)
set_option maxRecDepth 100000 in
theorem kX1_init : Cond.code yX1_init cX1_init 2 (none) ∈ zT := zTm (i := 261) rfl rfl
abbrev mX1_begin : zM := (yX1_begin, cX1_begin, 1, none)
set_option maxRecDepth 100000 in
theorem kX1_begin : Cond.code yX1_begin cX1_begin 1 (none) ∈ zT := zTm (i := 452) rfl rfl
abbrev mX1_written : zM := (yX1_written, cX1_written, 1, some (.object "PpmTrees$Octets"))
set_option maxRecDepth 100000 in
theorem kX1_written : Cond.code yX1_written cX1_written 1 (some (.object "PpmTrees$Octets")) ∈ zT := zTm (i := 739) rfl rfl
abbrev mX1_bits : zM := (yX1_bits, cX1_bits, 1, some .int)
set_option maxRecDepth 100000 in
theorem kX1_bits : Cond.code yX1_bits cX1_bits 1 (some .int) ∈ zT := zTm (i := 689) rfl rfl
abbrev mX1_low : zM := (yX1_low, cX1_low, 1, some .int)
set_option maxRecDepth 100000 in
theorem kX1_low : Cond.code yX1_low cX1_low 1 (some .int) ∈ zT := zTm (i := 550) rfl rfl
abbrev mX1_width : zM := (yX1_width, cX1_width, 1, some .int)
set_option maxRecDepth 100000 in
theorem kX1_width : Cond.code yX1_width cX1_width 1 (some .int) ∈ zT := zTm (i := 544) rfl rfl
abbrev mX1_take : zM := (yX1_take, cX1_take, 7, none)
set_option maxRecDepth 100000 in
theorem kX1_take : Cond.code yX1_take cX1_take 7 (none) ∈ zT := zTm (i := 580) rfl rfl
abbrev mX1_settledPart : zM := (yX1_settledPart, cX1_settledPart, 1, some .int)
set_option maxRecDepth 100000 in
theorem kX1_settledPart : Cond.code yX1_settledPart cX1_settledPart 1 (some .int) ∈ zT := zTm (i := 585) rfl rfl
abbrev mX1_putBit : zM := (yX1_putBit, cX1_putBit, 2, none)
set_option maxRecDepth 100000 in
theorem kX1_putBit : Cond.code yX1_putBit cX1_putBit 2 (none) ∈ zT := zTm (i := 591) rfl rfl
abbrev mX1_finish : zM := (yX1_finish, cX1_finish, 1, none)
set_option maxRecDepth 100000 in
theorem kX1_finish : Cond.code yX1_finish cX1_finish 1 (none) ∈ zT := zTm (i := 683) rfl rfl
abbrev mX2_init : zM := (yX2_init, cX2_init, 1, none)
set_option maxRecDepth 100000 in
theorem kX2_init : Cond.code yX2_init cX2_init 1 (none) ∈ zT := zTm (i := 165) rfl rfl
abbrev mX2_begin : zM := (yX2_begin, cX2_begin, 2, none)
set_option maxRecDepth 100000 in
theorem kX2_begin : Cond.code yX2_begin cX2_begin 2 (none) ∈ zT := zTm (i := 913) rfl rfl
abbrev mX2_sum : zM := (yX2_sum, cX2_sum, 1, some .int)
set_option maxRecDepth 100000 in
theorem kX2_sum : Cond.code yX2_sum cX2_sum 1 (some .int) ∈ zT := zTm (i := 917) rfl rfl
abbrev mX2_choose : zM := (yX2_choose, cX2_choose, 2, some .int)
set_option maxRecDepth 100000 in
theorem kX2_choose : Cond.code yX2_choose cX2_choose 2 (some .int) ∈ zT := zTm (i := 531) rfl rfl
abbrev mX2_take : zM := (yX2_take, cX2_take, 5, none)
set_option maxRecDepth 100000 in
theorem kX2_take : Cond.code yX2_take cX2_take 5 (none) ∈ zT := zTm (i := 577) rfl rfl
abbrev mX3_init : zM := (yX3_init, cX3_init, 3, none)
set_option maxRecDepth 100000 in
theorem kX3_init : Cond.code yX3_init cX3_init 3 (none) ∈ zT := zTm (i := 210) rfl rfl
abbrev mX3_begin : zM := (yX3_begin, cX3_begin, 1, none)
set_option maxRecDepth 100000 in
theorem kX3_begin : Cond.code yX3_begin cX3_begin 1 (none) ∈ zT := zTm (i := 216) rfl rfl
abbrev mX3_become : zM := (yX3_become, cX3_become, 2, none)
set_option maxRecDepth 100000 in
theorem kX3_become : Cond.code yX3_become cX3_become 2 (none) ∈ zT := zTm (i := 705) rfl rfl
abbrev mX3_isLike : zM := (yX3_isLike, cX3_isLike, 2, some .boolean)
set_option maxRecDepth 100000 in
theorem kX3_isLike : Cond.code yX3_isLike cX3_isLike 2 (some .boolean) ∈ zT := zTm (i := 819) rfl rfl
abbrev mX3_sameFirst : zM := (yX3_sameFirst, cX3_sameFirst, 4, some .boolean)
set_option maxRecDepth 100000 in
theorem kX3_sameFirst : Cond.code yX3_sameFirst cX3_sameFirst 4 (some .boolean) ∈ zT := zTm (i := 822) rfl rfl
abbrev mX3_nodeMany : zM := (yX3_nodeMany, cX3_nodeMany, 1, some .int)
set_option maxRecDepth 100000 in
theorem kX3_nodeMany : Cond.code yX3_nodeMany cX3_nodeMany 1 (some .int) ∈ zT := zTm (i := 488) rfl rfl
abbrev mX3_parentOf : zM := (yX3_parentOf, cX3_parentOf, 2, some .int)
set_option maxRecDepth 100000 in
theorem kX3_parentOf : Cond.code yX3_parentOf cX3_parentOf 2 (some .int) ∈ zT := zTm (i := 1003) rfl rfl
abbrev mX3_byteOf : zM := (yX3_byteOf, cX3_byteOf, 2, some .int)
set_option maxRecDepth 100000 in
theorem kX3_byteOf : Cond.code yX3_byteOf cX3_byteOf 2 (some .int) ∈ zT := zTm (i := 496) rfl rfl
abbrev mX3_countOf : zM := (yX3_countOf, cX3_countOf, 2, some .int)
set_option maxRecDepth 100000 in
theorem kX3_countOf : Cond.code yX3_countOf cX3_countOf 2 (some .int) ∈ zT := zTm (i := 505) rfl rfl
abbrev mX3_firstChild : zM := (yX3_firstChild, cX3_firstChild, 2, some .int)
set_option maxRecDepth 100000 in
theorem kX3_firstChild : Cond.code yX3_firstChild cX3_firstChild 2 (some .int) ∈ zT := zTm (i := 492) rfl rfl
abbrev mX3_nextSibling : zM := (yX3_nextSibling, cX3_nextSibling, 2, some .int)
set_option maxRecDepth 100000 in
theorem kX3_nextSibling : Cond.code yX3_nextSibling cX3_nextSibling 2 (some .int) ∈ zT := zTm (i := 514) rfl rfl
abbrev mX3_stepsTo : zM := (yX3_stepsTo, cX3_stepsTo, 4, some .int)
set_option maxRecDepth 100000 in
theorem kX3_stepsTo : Cond.code yX3_stepsTo cX3_stepsTo 4 (some .int) ∈ zT := zTm (i := 1009) rfl rfl
abbrev mX3_latestMany : zM := (yX3_latestMany, cX3_latestMany, 1, some .int)
set_option maxRecDepth 100000 in
theorem kX3_latestMany : Cond.code yX3_latestMany cX3_latestMany 1 (some .int) ∈ zT := zTm (i := 470) rfl rfl
abbrev mX3_latestByte : zM := (yX3_latestByte, cX3_latestByte, 2, some .int)
set_option maxRecDepth 100000 in
theorem kX3_latestByte : Cond.code yX3_latestByte cX3_latestByte 2 (some .int) ∈ zT := zTm (i := 802) rfl rfl
abbrev mX3_context : zM := (yX3_context, cX3_context, 2, some .int)
set_option maxRecDepth 100000 in
theorem kX3_context : Cond.code yX3_context cX3_context 2 (some .int) ∈ zT := zTm (i := 474) rfl rfl
abbrev mX3_learn : zM := (yX3_learn, cX3_learn, 6, some .boolean)
set_option maxRecDepth 100000 in
theorem kX3_learn : Cond.code yX3_learn cX3_learn 6 (some .boolean) ∈ zT := zTm (i := 648) rfl rfl
abbrev mX3_childOf : zM := (yX3_childOf, cX3_childOf, 5, some .int)
set_option maxRecDepth 100000 in
theorem kX3_childOf : Cond.code yX3_childOf cX3_childOf 5 (some .int) ∈ zT := zTm (i := 653) rfl rfl
abbrev mX3_growChild : zM := (yX3_growChild, cX3_growChild, 6, none)
set_option maxRecDepth 100000 in
theorem kX3_growChild : Cond.code yX3_growChild cX3_growChild 6 (none) ∈ zT := zTm (i := 661) rfl rfl
abbrev mX3_lessenCounts : zM := (yX3_lessenCounts, cX3_lessenCounts, 4, none)
set_option maxRecDepth 100000 in
theorem kX3_lessenCounts : Cond.code yX3_lessenCounts cX3_lessenCounts 4 (none) ∈ zT := zTm (i := 665) rfl rfl
abbrev mX3_countsTogether : zM := (yX3_countsTogether, cX3_countsTogether, 5, some .int)
set_option maxRecDepth 100000 in
theorem kX3_countsTogether : Cond.code yX3_countsTogether cX3_countsTogether 5 (some .int) ∈ zT := zTm (i := 669) rfl rfl
abbrev mX3_remember : zM := (yX3_remember, cX3_remember, 3, none)
set_option maxRecDepth 100000 in
theorem kX3_remember : Cond.code yX3_remember cX3_remember 3 (none) ∈ zT := zTm (i := 673) rfl rfl
abbrev mX4_init : zM := (yX4_init, cX4_init, 2, none)
set_option maxRecDepth 100000 in
theorem kX4_init : Cond.code yX4_init cX4_init 2 (none) ∈ zT := zTm (i := 81) rfl rfl
abbrev mX4_many : zM := (yX4_many, cX4_many, 1, some .int)
set_option maxRecDepth 100000 in
theorem kX4_many : Cond.code yX4_many cX4_many 1 (some .int) ∈ zT := zTm (i := 371) rfl rfl
abbrev mX4_has : zM := (yX4_has, cX4_has, 2, some .boolean)
set_option maxRecDepth 100000 in
theorem kX4_has : Cond.code yX4_has cX4_has 2 (some .boolean) ∈ zT := zTm (i := 404) rfl rfl
abbrev mX4_byteAt : zM := (yX4_byteAt, cX4_byteAt, 2, some .int)
set_option maxRecDepth 100000 in
theorem kX4_byteAt : Cond.code yX4_byteAt cX4_byteAt 2 (some .int) ∈ zT := zTm (i := 408) rfl rfl
abbrev mX4_change : zM := (yX4_change, cX4_change, 3, none)
set_option maxRecDepth 100000 in
theorem kX4_change : Cond.code yX4_change cX4_change 3 (none) ∈ zT := zTm (i := 434) rfl rfl
abbrev mX4_append : zM := (yX4_append, cX4_append, 2, none)
set_option maxRecDepth 100000 in
theorem kX4_append : Cond.code yX4_append cX4_append 2 (none) ∈ zT := zTm (i := 386) rfl rfl
abbrev mX4_keepFirst : zM := (yX4_keepFirst, cX4_keepFirst, 2, none)
set_option maxRecDepth 100000 in
theorem kX4_keepFirst : Cond.code yX4_keepFirst cX4_keepFirst 2 (none) ∈ zT := zTm (i := 375) rfl rfl
abbrev mX4_bitAt : zM := (yX4_bitAt, cX4_bitAt, 3, some .int)
set_option maxRecDepth 100000 in
theorem kX4_bitAt : Cond.code yX4_bitAt cX4_bitAt 3 (some .int) ∈ zT := zTm (i := 605) rfl rfl
abbrev mX4_setBit : zM := (yX4_setBit, cX4_setBit, 4, none)
set_option maxRecDepth 100000 in
theorem kX4_setBit : Cond.code yX4_setBit cX4_setBit 4 (none) ∈ zT := zTm (i := 595) rfl rfl
abbrev mX4_firstDifference : zM := (yX4_firstDifference, cX4_firstDifference, 4, some .int)
set_option maxRecDepth 100000 in
theorem kX4_firstDifference : Cond.code yX4_firstDifference cX4_firstDifference 4 (some .int) ∈ zT := zTm (i := 743) rfl rfl
abbrev mX5_init : zM := (yX5_init, cX5_init, 1, none)
set_option maxRecDepth 100000 in
theorem kX5_init : Cond.code yX5_init cX5_init 1 (none) ∈ zT := zTm (i := 181) rfl rfl
abbrev mX5_begin : zM := (yX5_begin, cX5_begin, 1, none)
set_option maxRecDepth 100000 in
theorem kX5_begin : Cond.code yX5_begin cX5_begin 1 (none) ∈ zT := zTm (i := 446) rfl rfl
abbrev mX5_noteSign : zM := (yX5_noteSign, cX5_noteSign, 2, none)
set_option maxRecDepth 100000 in
theorem kX5_noteSign : Cond.code yX5_noteSign cX5_noteSign 2 (none) ∈ zT := zTm (i := 627) rfl rfl
abbrev mX5_noteRestart : zM := (yX5_noteRestart, cX5_noteRestart, 1, none)
set_option maxRecDepth 100000 in
theorem kX5_noteRestart : Cond.code yX5_noteRestart cX5_noteRestart 1 (none) ∈ zT := zTm (i := 677) rfl rfl
abbrev mX5_noteBits : zM := (yX5_noteBits, cX5_noteBits, 2, none)
set_option maxRecDepth 100000 in
theorem kX5_noteBits : Cond.code yX5_noteBits cX5_noteBits 2 (none) ∈ zT := zTm (i := 693) rfl rfl
abbrev mX5_signs : zM := (yX5_signs, cX5_signs, 1, some .int)
set_option maxRecDepth 100000 in
theorem kX5_signs : Cond.code yX5_signs cX5_signs 1 (some .int) ∈ zT := zTm (i := 760) rfl rfl
abbrev mX5_bits : zM := (yX5_bits, cX5_bits, 1, some .int)
set_option maxRecDepth 100000 in
theorem kX5_bits : Cond.code yX5_bits cX5_bits 1 (some .int) ∈ zT := zTm (i := 764) rfl rfl
abbrev mX5_escapes : zM := (yX5_escapes, cX5_escapes, 1, some .int)
set_option maxRecDepth 100000 in
theorem kX5_escapes : Cond.code yX5_escapes cX5_escapes 1 (some .int) ∈ zT := zTm (i := 768) rfl rfl
abbrev mX5_restarts : zM := (yX5_restarts, cX5_restarts, 1, some .int)
set_option maxRecDepth 100000 in
theorem kX5_restarts : Cond.code yX5_restarts cX5_restarts 1 (some .int) ∈ zT := zTm (i := 697) rfl rfl
abbrev mX5_excludedOf : zM := (yX5_excludedOf, cX5_excludedOf, 2, some .int)
set_option maxRecDepth 100000 in
theorem kX5_excludedOf : Cond.code yX5_excludedOf cX5_excludedOf 2 (some .int) ∈ zT := zTm (i := 776) rfl rfl
abbrev mX5_contextOf : zM := (yX5_contextOf, cX5_contextOf, 2, some .int)
set_option maxRecDepth 100000 in
theorem kX5_contextOf : Cond.code yX5_contextOf cX5_contextOf 2 (some .int) ∈ zT := zTm (i := 781) rfl rfl
abbrev mX6_init : zM := (yX6_init, cX6_init, 3, none)
set_option maxRecDepth 100000 in
theorem kX6_init : Cond.code yX6_init cX6_init 3 (none) ∈ zT := zTm (i := 286) rfl rfl
abbrev mX6_begin : zM := (yX6_begin, cX6_begin, 2, none)
set_option maxRecDepth 100000 in
theorem kX6_begin : Cond.code yX6_begin cX6_begin 2 (none) ∈ zT := zTm (i := 715) rfl rfl
abbrev mX6_takenBehind : zM := (yX6_takenBehind, cX6_takenBehind, 1, some .int)
set_option maxRecDepth 100000 in
theorem kX6_takenBehind : Cond.code yX6_takenBehind cX6_takenBehind 1 (some .int) ∈ zT := zTm (i := 725) rfl rfl
abbrev mX6_firstDifference : zM := (yX6_firstDifference, cX6_firstDifference, 1, some .int)
set_option maxRecDepth 100000 in
theorem kX6_firstDifference : Cond.code yX6_firstDifference cX6_firstDifference 1 (some .int) ∈ zT := zTm (i := 733) rfl rfl
abbrev mX6_choose : zM := (yX6_choose, cX6_choose, 3, some .int)
set_option maxRecDepth 100000 in
theorem kX6_choose : Cond.code yX6_choose cX6_choose 3 (some .int) ∈ zT := zTm (i := 538) rfl rfl
abbrev mX6_shifted : zM := (yX6_shifted, cX6_shifted, 2, none)
set_option maxRecDepth 100000 in
theorem kX6_shifted : Cond.code yX6_shifted cX6_shifted 2 (none) ∈ zT := zTm (i := 601) rfl rfl
abbrev mX7_init : zM := (yX7_init, cX7_init, 1, none)
set_option maxRecDepth 100000 in
theorem kX7_init : Cond.code yX7_init cX7_init 1 (none) ∈ zT := zTm (i := 168) rfl rfl
abbrev mX7_say : zM := (yX7_say, cX7_say, 3, some .int)
set_option maxRecDepth 100000 in
theorem kX7_say : Cond.code yX7_say cX7_say 3 (some .int) ∈ zT := zTm (i := 525) rfl rfl
abbrev mX8_init : zM := (yX8_init, cX8_init, 1, none)
set_option maxRecDepth 100000 in
theorem kX8_init : Cond.code yX8_init cX8_init 1 (none) ∈ zT := zTm (i := 124) rfl rfl
abbrev mX8_excludedMany : zM := (yX8_excludedMany, cX8_excludedMany, 1, some .int)
set_option maxRecDepth 100000 in
theorem kX8_excludedMany : Cond.code yX8_excludedMany cX8_excludedMany 1 (some .int) ∈ zT := zTm (i := 631) rfl rfl
abbrev mX8_escapes : zM := (yX8_escapes, cX8_escapes, 1, some .int)
set_option maxRecDepth 100000 in
theorem kX8_escapes : Cond.code yX8_escapes cX8_escapes 1 (some .int) ∈ zT := zTm (i := 640) rfl rfl
abbrev mX8_foundIn : zM := (yX8_foundIn, cX8_foundIn, 1, some .int)
set_option maxRecDepth 100000 in
theorem kX8_foundIn : Cond.code yX8_foundIn cX8_foundIn 1 (some .int) ∈ zT := zTm (i := 636) rfl rfl
abbrev mX8_lowestToLearn : zM := (yX8_lowestToLearn, cX8_lowestToLearn, 1, some .int)
set_option maxRecDepth 100000 in
theorem kX8_lowestToLearn : Cond.code yX8_lowestToLearn cX8_lowestToLearn 1 (some .int) ∈ zT := zTm (i := 644) rfl rfl
abbrev mX8_tell : zM := (yX8_tell, cX8_tell, 5, some .int)
set_option maxRecDepth 100000 in
theorem kX8_tell : Cond.code yX8_tell cX8_tell 5 (some .int) ∈ zT := zTm (i := 466) rfl rfl
abbrev mX8_isExcluded : zM := (yX8_isExcluded, cX8_isExcluded, 2, some .boolean)
set_option maxRecDepth 100000 in
theorem kX8_isExcluded : Cond.code yX8_isExcluded cX8_isExcluded 2 (some .boolean) ∈ zT := zTm (i := 500) rfl rfl
abbrev mX8_offerChildren : zM := (yX8_offerChildren, cX8_offerChildren, 6, none)
set_option maxRecDepth 100000 in
theorem kX8_offerChildren : Cond.code yX8_offerChildren cX8_offerChildren 6 (none) ∈ zT := zTm (i := 479) rfl rfl
abbrev mX8_offerFlat : zM := (yX8_offerFlat, cX8_offerFlat, 2, none)
set_option maxRecDepth 100000 in
theorem kX8_offerFlat : Cond.code yX8_offerFlat cX8_offerFlat 2 (none) ∈ zT := zTm (i := 623) rfl rfl
abbrev mX8_excludeOffered : zM := (yX8_excludeOffered, cX8_excludeOffered, 2, none)
set_option maxRecDepth 100000 in
theorem kX8_excludeOffered : Cond.code yX8_excludeOffered cX8_excludeOffered 2 (none) ∈ zT := zTm (i := 617) rfl rfl
abbrev mX9_init : zM := (yX9_init, cX9_init, 2, none)
set_option maxRecDepth 100000 in
theorem kX9_init : Cond.code yX9_init cX9_init 2 (none) ∈ zT := zTm (i := 258) rfl rfl
abbrev mX9_want : zM := (yX9_want, cX9_want, 2, none)
set_option maxRecDepth 100000 in
theorem kX9_want : Cond.code yX9_want cX9_want 2 (none) ∈ zT := zTm (i := 462) rfl rfl
abbrev mX9_choose : zM := (yX9_choose, cX9_choose, 2, some .int)
set_option maxRecDepth 100000 in
theorem kX9_choose : Cond.code yX9_choose cX9_choose 2 (some .int) ∈ zT := zTm (i := 561) rfl rfl
abbrev mX9_shifted : zM := (yX9_shifted, cX9_shifted, 2, none)
set_option maxRecDepth 100000 in
theorem kX9_shifted : Cond.code yX9_shifted cX9_shifted 2 (none) ∈ zT := zTm (i := 608) rfl rfl
abbrev mX10_init : zM := (yX10_init, cX10_init, 3, none)
set_option maxRecDepth 100000 in
theorem kX10_init : Cond.code yX10_init cX10_init 3 (none) ∈ zT := zTm (i := 73) rfl rfl
abbrev mX10_clear : zM := (yX10_clear, cX10_clear, 2, some .int)
set_option maxRecDepth 100000 in
theorem kX10_clear : Cond.code yX10_clear cX10_clear 2 (some .int) ∈ zT := zTm (i := 367) rfl rfl
abbrev mX10_add : zM := (yX10_add, cX10_add, 2, some .int)
set_option maxRecDepth 100000 in
theorem kX10_add : Cond.code yX10_add cX10_add 2 (some .int) ∈ zT := zTm (i := 379) rfl rfl
abbrev mX10_fill : zM := (yX10_fill, cX10_fill, 7, some .int)
set_option maxRecDepth 100000 in
theorem kX10_fill : Cond.code yX10_fill cX10_fill 7 (some .int) ∈ zT := zTm (i := 391) rfl rfl
abbrev mX10_madeByte : zM := (yX10_madeByte, cX10_madeByte, 5, some .int)
set_option maxRecDepth 100000 in
theorem kX10_madeByte : Cond.code yX10_madeByte cX10_madeByte 5 (some .int) ∈ zT := zTm (i := 396) rfl rfl
abbrev mX10_echoedByte : zM := (yX10_echoedByte, cX10_echoedByte, 4, some .int)
set_option maxRecDepth 100000 in
theorem kX10_echoedByte : Cond.code yX10_echoedByte cX10_echoedByte 4 (some .int) ∈ zT := zTm (i := 400) rfl rfl
abbrev mX10_size : zM := (yX10_size, cX10_size, 2, some .int)
set_option maxRecDepth 100000 in
theorem kX10_size : Cond.code yX10_size cX10_size 2 (some .int) ∈ zT := zTm (i := 415) rfl rfl
abbrev mX10_octet : zM := (yX10_octet, cX10_octet, 3, some .int)
set_option maxRecDepth 100000 in
theorem kX10_octet : Cond.code yX10_octet cX10_octet 3 (some .int) ∈ zT := zTm (i := 426) rfl rfl
abbrev mX10_alter : zM := (yX10_alter, cX10_alter, 4, some .int)
set_option maxRecDepth 100000 in
theorem kX10_alter : Cond.code yX10_alter cX10_alter 4 (some .int) ∈ zT := zTm (i := 430) rfl rfl
abbrev mX10_cut : zM := (yX10_cut, cX10_cut, 3, some .int)
set_option maxRecDepth 100000 in
theorem kX10_cut : Cond.code yX10_cut cX10_cut 3 (some .int) ∈ zT := zTm (i := 438) rfl rfl
abbrev mX10_pack : zM := (yX10_pack, cX10_pack, 3, some .int)
set_option maxRecDepth 100000 in
theorem kX10_pack : Cond.code yX10_pack cX10_pack 3 (some .int) ∈ zT := zTm (i := 442) rfl rfl
abbrev mX10_write : zM := (yX10_write, cX10_write, 2, none)
set_option maxRecDepth 100000 in
theorem kX10_write : Cond.code yX10_write cX10_write 2 (none) ∈ zT := zTm (i := 458) rfl rfl
abbrev mX10_open : zM := (yX10_open, cX10_open, 2, some .int)
set_option maxRecDepth 100000 in
theorem kX10_open : Cond.code yX10_open cX10_open 2 (some .int) ∈ zT := zTm (i := 701) rfl rfl
abbrev mX10_read : zM := (yX10_read, cX10_read, 3, some .int)
set_option maxRecDepth 100000 in
theorem kX10_read : Cond.code yX10_read cX10_read 3 (some .int) ∈ zT := zTm (i := 721) rfl rfl
abbrev mX10_takeTrial : zM := (yX10_takeTrial, cX10_takeTrial, 3, none)
set_option maxRecDepth 100000 in
theorem kX10_takeTrial : Cond.code yX10_takeTrial cX10_takeTrial 3 (none) ∈ zT := zTm (i := 748) rfl rfl
abbrev mX10_place : zM := (yX10_place, cX10_place, 1, some .int)
set_option maxRecDepth 100000 in
theorem kX10_place : Cond.code yX10_place cX10_place 1 (some .int) ∈ zT := zTm (i := 752) rfl rfl
abbrev mX10_told : zM := (yX10_told, cX10_told, 2, some .int)
set_option maxRecDepth 100000 in
theorem kX10_told : Cond.code yX10_told cX10_told 2 (some .int) ∈ zT := zTm (i := 756) rfl rfl
abbrev mX10_sign : zM := (yX10_sign, cX10_sign, 4, some .int)
set_option maxRecDepth 100000 in
theorem kX10_sign : Cond.code yX10_sign cX10_sign 4 (some .int) ∈ zT := zTm (i := 772) rfl rfl
abbrev mX10_nodes : zM := (yX10_nodes, cX10_nodes, 2, some .int)
set_option maxRecDepth 100000 in
theorem kX10_nodes : Cond.code yX10_nodes cX10_nodes 2 (some .int) ∈ zT := zTm (i := 785) rfl rfl
abbrev mX10_node : zM := (yX10_node, cX10_node, 5, some .int)
set_option maxRecDepth 100000 in
theorem kX10_node : Cond.code yX10_node cX10_node 5 (some .int) ∈ zT := zTm (i := 928) rfl rfl
abbrev mX10_latest : zM := (yX10_latest, cX10_latest, 3, some .int)
set_option maxRecDepth 100000 in
theorem kX10_latest : Cond.code yX10_latest cX10_latest 3 (some .int) ∈ zT := zTm (i := 797) rfl rfl
abbrev mX10_restarted : zM := (yX10_restarted, cX10_restarted, 2, some .int)
set_option maxRecDepth 100000 in
theorem kX10_restarted : Cond.code yX10_restarted cX10_restarted 2 (some .int) ∈ zT := zTm (i := 806) rfl rfl
abbrev mX10_reset : zM := (yX10_reset, cX10_reset, 3, some .int)
set_option maxRecDepth 100000 in
theorem kX10_reset : Cond.code yX10_reset cX10_reset 3 (some .int) ∈ zT := zTm (i := 810) rfl rfl
abbrev mX10_equal : zM := (yX10_equal, cX10_equal, 1, some .int)
set_option maxRecDepth 100000 in
theorem kX10_equal : Cond.code yX10_equal cX10_equal 1 (some .int) ∈ zT := zTm (i := 815) rfl rfl
abbrev mX10_save : zM := (yX10_save, cX10_save, 2, some .int)
set_option maxRecDepth 100000 in
theorem kX10_save : Cond.code yX10_save cX10_save 2 (some .int) ∈ zT := zTm (i := 826) rfl rfl
abbrev mX10_restore : zM := (yX10_restore, cX10_restore, 3, some .int)
set_option maxRecDepth 100000 in
theorem kX10_restore : Cond.code yX10_restore cX10_restore 3 (some .int) ∈ zT := zTm (i := 901) rfl rfl
abbrev mX10_forget : zM := (yX10_forget, cX10_forget, 2, some .int)
set_option maxRecDepth 100000 in
theorem kX10_forget : Cond.code yX10_forget cX10_forget 2 (some .int) ∈ zT := zTm (i := 905) rfl rfl
abbrev mX10_cost : zM := (yX10_cost, cX10_cost, 3, some .int)
set_option maxRecDepth 100000 in
theorem kX10_cost : Cond.code yX10_cost cX10_cost 3 (some .int) ∈ zT := zTm (i := 909) rfl rfl
abbrev mX10_model : zM := (yX10_model, cX10_model, 2, some (.object "PpmTrees$Model"))
set_option maxRecDepth 100000 in
theorem kX10_model : Cond.code yX10_model cX10_model 2 (some (.object "PpmTrees$Model")) ∈ zT := zTm (i := 792) rfl rfl
abbrev mX10_row : zM := (yX10_row, cX10_row, 2, some (.object "PpmTrees$Octets"))
set_option maxRecDepth 100000 in
theorem kX10_row : Cond.code yX10_row cX10_row 2 (some (.object "PpmTrees$Octets")) ∈ zT := zTm (i := 422) rfl rfl
abbrev mX10_isEnd : zM := (yX10_isEnd, cX10_isEnd, 1, some .boolean)
set_option maxRecDepth 100000 in
theorem kX10_isEnd : Cond.code yX10_isEnd cX10_isEnd 1 (some .boolean) ∈ zT := zTm (i := 788) rfl rfl
abbrev mX10_isRow : zM := (yX10_isRow, cX10_isRow, 1, some .boolean)
set_option maxRecDepth 100000 in
theorem kX10_isRow : Cond.code yX10_isRow cX10_isRow 1 (some .boolean) ∈ zT := zTm (i := 418) rfl rfl
abbrev mX10_isByte : zM := (yX10_isByte, cX10_isByte, 1, some .boolean)
set_option maxRecDepth 100000 in
theorem kX10_isByte : Cond.code yX10_isByte cX10_isByte 1 (some .boolean) ∈ zT := zTm (i := 382) rfl rfl
abbrev mX10_at : zM := (yX10_at, cX10_at, 2, some .int)
set_option maxRecDepth 100000 in
theorem kX10_at : Cond.code yX10_at cX10_at 2 (some .int) ∈ zT := zTm (i := 411) rfl rfl
abbrev mX10_put : zM := (yX10_put, cX10_put, 3, none)
set_option maxRecDepth 100000 in
theorem kX10_put : Cond.code yX10_put cX10_put 3 (none) ∈ zT := zTm (i := 219) rfl rfl
abbrev mX10_copyFirst : zM := (yX10_copyFirst, cX10_copyFirst, 3, none)
set_option maxRecDepth 100000 in
theorem kX10_copyFirst : Cond.code yX10_copyFirst cX10_copyFirst 3 (none) ∈ zT := zTm (i := 708) rfl rfl
abbrev mX11_init : zM := (yX11_init, cX11_init, 3, none)
set_option maxRecDepth 100000 in
theorem kX11_init : Cond.code yX11_init cX11_init 3 (none) ∈ zT := zTm (i := 1015) rfl rfl
abbrev mX11_thrown : zM := (yX11_thrown, cX11_thrown, 1, some .int)
set_option maxRecDepth 100000 in
theorem kX11_thrown : Cond.code yX11_thrown cX11_thrown 1 (some .int) ∈ zT := zTm (i := 1164) rfl rfl
abbrev mX11_in : zM := (yX11_in, cX11_in, 3, some .boolean)
set_option maxRecDepth 100000 in
theorem kX11_in : Cond.code yX11_in cX11_in 3 (some .boolean) ∈ zT := zTm (i := 1175) rfl rfl
abbrev mX11_clear : zM := (yX11_clear, cX11_clear, 2, some .int)
set_option maxRecDepth 100000 in
theorem kX11_clear : Cond.code yX11_clear cX11_clear 2 (some .int) ∈ zT := zTm (i := 1168) rfl rfl
abbrev mX11_add : zM := (yX11_add, cX11_add, 2, some .int)
set_option maxRecDepth 100000 in
theorem kX11_add : Cond.code yX11_add cX11_add 2 (some .int) ∈ zT := zTm (i := 1172) rfl rfl
abbrev mX11_fill : zM := (yX11_fill, cX11_fill, 10, some .int)
set_option maxRecDepth 100000 in
theorem kX11_fill : Cond.code yX11_fill cX11_fill 10 (some .int) ∈ zT := zTm (i := 1179) rfl rfl
abbrev mX11_size : zM := (yX11_size, cX11_size, 2, some .int)
set_option maxRecDepth 100000 in
theorem kX11_size : Cond.code yX11_size cX11_size 2 (some .int) ∈ zT := zTm (i := 1184) rfl rfl
abbrev mX11_octet : zM := (yX11_octet, cX11_octet, 3, some .int)
set_option maxRecDepth 100000 in
theorem kX11_octet : Cond.code yX11_octet cX11_octet 3 (some .int) ∈ zT := zTm (i := 1188) rfl rfl
abbrev mX11_alter : zM := (yX11_alter, cX11_alter, 4, some .int)
set_option maxRecDepth 100000 in
theorem kX11_alter : Cond.code yX11_alter cX11_alter 4 (some .int) ∈ zT := zTm (i := 1192) rfl rfl
abbrev mX11_cut : zM := (yX11_cut, cX11_cut, 3, some .int)
set_option maxRecDepth 100000 in
theorem kX11_cut : Cond.code yX11_cut cX11_cut 3 (some .int) ∈ zT := zTm (i := 1196) rfl rfl
abbrev mX11_begin : zM := (yX11_begin, cX11_begin, 2, none)
set_option maxRecDepth 100000 in
theorem kX11_begin : Cond.code yX11_begin cX11_begin 2 (none) ∈ zT := zTm (i := 1020) rfl rfl
abbrev mX11_copy : zM := (yX11_copy, cX11_copy, 4, none)
set_option maxRecDepth 100000 in
theorem kX11_copy : Cond.code yX11_copy cX11_copy 4 (none) ∈ zT := zTm (i := 1279) rfl rfl
abbrev mX11_child : zM := (yX11_child, cX11_child, 6, some .int)
set_option maxRecDepth 100000 in
theorem kX11_child : Cond.code yX11_child cX11_child 6 (some .int) ∈ zT := zTm (i := 1221) rfl rfl
abbrev mX11_context : zM := (yX11_context, cX11_context, 5, some .int)
set_option maxRecDepth 100000 in
theorem kX11_context : Cond.code yX11_context cX11_context 5 (some .int) ∈ zT := zTm (i := 1217) rfl rfl
abbrev mX11_beginSign : zM := (yX11_beginSign, cX11_beginSign, 2, none)
set_option maxRecDepth 100000 in
theorem kX11_beginSign : Cond.code yX11_beginSign cX11_beginSign 2 (none) ∈ zT := zTm (i := 1209) rfl rfl
abbrev mX11_look : zM := (yX11_look, cX11_look, 6, none)
set_option maxRecDepth 100000 in
theorem kX11_look : Cond.code yX11_look cX11_look 6 (none) ∈ zT := zTm (i := 1213) rfl rfl
abbrev mX11_exclude : zM := (yX11_exclude, cX11_exclude, 2, none)
set_option maxRecDepth 100000 in
theorem kX11_exclude : Cond.code yX11_exclude cX11_exclude 2 (none) ∈ zT := zTm (i := 1233) rfl rfl
abbrev mX11_below : zM := (yX11_below, cX11_below, 4, some .int)
set_option maxRecDepth 100000 in
theorem kX11_below : Cond.code yX11_below cX11_below 4 (some .int) ∈ zT := zTm (i := 1229) rfl rfl
abbrev mX11_isFound : zM := (yX11_isFound, cX11_isFound, 3, some .boolean)
set_option maxRecDepth 100000 in
theorem kX11_isFound : Cond.code yX11_isFound cX11_isFound 3 (some .boolean) ∈ zT := zTm (i := 1225) rfl rfl
abbrev mX11_flat : zM := (yX11_flat, cX11_flat, 3, none)
set_option maxRecDepth 100000 in
theorem kX11_flat : Cond.code yX11_flat cX11_flat 3 (none) ∈ zT := zTm (i := 1255) rfl rfl
abbrev mX11_learn : zM := (yX11_learn, cX11_learn, 8, none)
set_option maxRecDepth 100000 in
theorem kX11_learn : Cond.code yX11_learn cX11_learn 8 (none) ∈ zT := zTm (i := 1259) rfl rfl
abbrev mX11_halve : zM := (yX11_halve, cX11_halve, 5, none)
set_option maxRecDepth 100000 in
theorem kX11_halve : Cond.code yX11_halve cX11_halve 5 (none) ∈ zT := zTm (i := 1263) rfl rfl
abbrev mX11_bit : zM := (yX11_bit, cX11_bit, 2, none)
set_option maxRecDepth 100000 in
theorem kX11_bit : Cond.code yX11_bit cX11_bit 2 (none) ∈ zT := zTm (i := 1250) rfl rfl
abbrev mX11_put : zM := (yX11_put, cX11_put, 2, none)
set_option maxRecDepth 100000 in
theorem kX11_put : Cond.code yX11_put cX11_put 2 (none) ∈ zT := zTm (i := 1246) rfl rfl
abbrev mX11_narrow : zM := (yX11_narrow, cX11_narrow, 2, none)
set_option maxRecDepth 100000 in
theorem kX11_narrow : Cond.code yX11_narrow cX11_narrow 2 (none) ∈ zT := zTm (i := 1241) rfl rfl
abbrev mX11_write : zM := (yX11_write, cX11_write, 2, none)
set_option maxRecDepth 100000 in
theorem kX11_write : Cond.code yX11_write cX11_write 2 (none) ∈ zT := zTm (i := 1237) rfl rfl
abbrev mX11_writeAll : zM := (yX11_writeAll, cX11_writeAll, 8, none)
set_option maxRecDepth 100000 in
theorem kX11_writeAll : Cond.code yX11_writeAll cX11_writeAll 8 (none) ∈ zT := zTm (i := 1204) rfl rfl
abbrev mX11_pack : zM := (yX11_pack, cX11_pack, 2, some .int)
set_option maxRecDepth 100000 in
theorem kX11_pack : Cond.code yX11_pack cX11_pack 2 (some .int) ∈ zT := zTm (i := 1200) rfl rfl
abbrev mX11_told : zM := (yX11_told, cX11_told, 2, some .int)
set_option maxRecDepth 100000 in
theorem kX11_told : Cond.code yX11_told cX11_told 2 (some .int) ∈ zT := zTm (i := 1267) rfl rfl
abbrev mX11_sign : zM := (yX11_sign, cX11_sign, 3, some .int)
set_option maxRecDepth 100000 in
theorem kX11_sign : Cond.code yX11_sign cX11_sign 3 (some .int) ∈ zT := zTm (i := 1271) rfl rfl
abbrev mX11_next : zM := (yX11_next, cX11_next, 2, some .int)
set_option maxRecDepth 100000 in
theorem kX11_next : Cond.code yX11_next cX11_next 2 (some .int) ∈ zT := zTm (i := 1283) rfl rfl
abbrev mX11_asked : zM := (yX11_asked, cX11_asked, 2, some .int)
set_option maxRecDepth 100000 in
theorem kX11_asked : Cond.code yX11_asked cX11_asked 2 (some .int) ∈ zT := zTm (i := 1291) rfl rfl
abbrev mX11_read : zM := (yX11_read, cX11_read, 3, none)
set_option maxRecDepth 100000 in
theorem kX11_read : Cond.code yX11_read cX11_read 3 (none) ∈ zT := zTm (i := 1295) rfl rfl
abbrev mX11_readSign : zM := (yX11_readSign, cX11_readSign, 6, some .int)
set_option maxRecDepth 100000 in
theorem kX11_readSign : Cond.code yX11_readSign cX11_readSign 6 (some .int) ∈ zT := zTm (i := 1287) rfl rfl
abbrev mX11_open : zM := (yX11_open, cX11_open, 6, some .int)
set_option maxRecDepth 100000 in
theorem kX11_open : Cond.code yX11_open cX11_open 6 (some .int) ∈ zT := zTm (i := 1275) rfl rfl
abbrev mX11_place : zM := (yX11_place, cX11_place, 1, some .int)
set_option maxRecDepth 100000 in
theorem kX11_place : Cond.code yX11_place cX11_place 1 (some .int) ∈ zT := zTm (i := 1299) rfl rfl
abbrev mX11_nodes : zM := (yX11_nodes, cX11_nodes, 2, some .int)
set_option maxRecDepth 100000 in
theorem kX11_nodes : Cond.code yX11_nodes cX11_nodes 2 (some .int) ∈ zT := zTm (i := 1303) rfl rfl
abbrev mX11_node : zM := (yX11_node, cX11_node, 7, some .int)
set_option maxRecDepth 100000 in
theorem kX11_node : Cond.code yX11_node cX11_node 7 (some .int) ∈ zT := zTm (i := 1307) rfl rfl
abbrev mX11_latest : zM := (yX11_latest, cX11_latest, 3, some .int)
set_option maxRecDepth 100000 in
theorem kX11_latest : Cond.code yX11_latest cX11_latest 3 (some .int) ∈ zT := zTm (i := 1311) rfl rfl
abbrev mX11_restarted : zM := (yX11_restarted, cX11_restarted, 2, some .int)
set_option maxRecDepth 100000 in
theorem kX11_restarted : Cond.code yX11_restarted cX11_restarted 2 (some .int) ∈ zT := zTm (i := 1315) rfl rfl
abbrev mX11_reset : zM := (yX11_reset, cX11_reset, 3, some .int)
set_option maxRecDepth 100000 in
theorem kX11_reset : Cond.code yX11_reset cX11_reset 3 (some .int) ∈ zT := zTm (i := 1319) rfl rfl
abbrev mX11_equal : zM := (yX11_equal, cX11_equal, 3, some .int)
set_option maxRecDepth 100000 in
theorem kX11_equal : Cond.code yX11_equal cX11_equal 3 (some .int) ∈ zT := zTm (i := 1323) rfl rfl
abbrev mX11_save : zM := (yX11_save, cX11_save, 2, some .int)
set_option maxRecDepth 100000 in
theorem kX11_save : Cond.code yX11_save cX11_save 2 (some .int) ∈ zT := zTm (i := 1327) rfl rfl
abbrev mX11_restore : zM := (yX11_restore, cX11_restore, 3, some .int)
set_option maxRecDepth 100000 in
theorem kX11_restore : Cond.code yX11_restore cX11_restore 3 (some .int) ∈ zT := zTm (i := 1331) rfl rfl
abbrev mX11_forget : zM := (yX11_forget, cX11_forget, 2, some .int)
set_option maxRecDepth 100000 in
theorem kX11_forget : Cond.code yX11_forget cX11_forget 2 (some .int) ∈ zT := zTm (i := 1335) rfl rfl
abbrev mX11_bitsOf : zM := (yX11_bitsOf, cX11_bitsOf, 2, some .int)
set_option maxRecDepth 100000 in
theorem kX11_bitsOf : Cond.code yX11_bitsOf cX11_bitsOf 2 (some .int) ∈ zT := zTm (i := 1343) rfl rfl
abbrev mX11_cost : zM := (yX11_cost, cX11_cost, 6, some .int)
set_option maxRecDepth 100000 in
theorem kX11_cost : Cond.code yX11_cost cX11_cost 6 (some .int) ∈ zT := zTm (i := 1339) rfl rfl
abbrev mJx00060_init_a7421 : zM := (yJx00060_init_a7421, cJx00060_init_a7421, 2, none)
set_option maxRecDepth 100000 in
theorem kJx00060_init_a7421 : Cond.code yJx00060_init_a7421 cJx00060_init_a7421 2 (none) ∈ zT := zTm (i := 973) rfl rfl
abbrev mJ9_max_7cf53 : zM := (yJ9_max_7cf53, cJ9_max_7cf53, 2, some .int)
set_option maxRecDepth 100000 in
theorem kJ9_max_7cf53 : Cond.code yJ9_max_7cf53 cJ9_max_7cf53 2 (some .int) ∈ zT := zTm (i := 85) rfl rfl
abbrev mJ9_min_7cf53 : zM := (yJ9_min_7cf53, cJ9_min_7cf53, 2, some .int)
set_option maxRecDepth 100000 in
theorem kJ9_min_7cf53 : Cond.code yJ9_min_7cf53 cJ9_min_7cf53 2 (some .int) ∈ zT := zTm (i := 204) rfl rfl
abbrev mJxa1e45_init_da8c8 : zM := (yJxa1e45_init_da8c8, cJxa1e45_init_da8c8, 1, none)
set_option maxRecDepth 100000 in
theorem kJxa1e45_init_da8c8 : Cond.code yJxa1e45_init_da8c8 cJxa1e45_init_da8c8 1 (none) ∈ zT := zTm (i := 104) rfl rfl
abbrev mJxc12de_init_da8c8 : zM := (yJxc12de_init_da8c8, cJxc12de_init_da8c8, 1, none)
set_option maxRecDepth 100000 in
theorem kJxc12de_init_da8c8 : Cond.code yJxc12de_init_da8c8 cJxc12de_init_da8c8 1 (none) ∈ zT := zTm (i := 101) rfl rfl
abbrev mJx4a65c_init_da8c8 : zM := (yJx4a65c_init_da8c8, cJx4a65c_init_da8c8, 1, none)
set_option maxRecDepth 100000 in
theorem kJx4a65c_init_da8c8 : Cond.code yJx4a65c_init_da8c8 cJx4a65c_init_da8c8 1 (none) ∈ zT := zTm (i := 98) rfl rfl
abbrev mJx4a65c_grow_92f84 : zM := (yJx4a65c_grow_92f84, cJx4a65c_grow_92f84, 4, some (.array (.object "java/lang/Object")))
set_option maxRecDepth 100000 in
theorem kJx4a65c_grow_92f84 : Cond.code yJx4a65c_grow_92f84 cJx4a65c_grow_92f84 4 (some (.array (.object "java/lang/Object"))) ∈ zT := zTm (i := 846) rfl rfl
abbrev mJx4a65c_grow_d5877 : zM := (yJx4a65c_grow_d5877, cJx4a65c_grow_d5877, 1, some (.array (.object "java/lang/Object")))
set_option maxRecDepth 100000 in
theorem kJx4a65c_grow_d5877 : Cond.code yJx4a65c_grow_d5877 cJx4a65c_grow_d5877 1 (some (.array (.object "java/lang/Object"))) ∈ zT := zTm (i := 842) rfl rfl
abbrev mJx4a65c_size_8abf5 : zM := (yJx4a65c_size_8abf5, cJx4a65c_size_8abf5, 1, some .int)
set_option maxRecDepth 100000 in
theorem kJx4a65c_size_8abf5 : Cond.code yJx4a65c_size_8abf5 cJx4a65c_size_8abf5 1 (some .int) ∈ zT := zTm (i := 830) rfl rfl
abbrev mJx4a65c_elementData_915e3 : zM := (yJx4a65c_elementData_915e3, cJx4a65c_elementData_915e3, 2, some (.object "java/lang/Object"))
set_option maxRecDepth 100000 in
theorem kJx4a65c_elementData_915e3 : Cond.code yJx4a65c_elementData_915e3 cJx4a65c_elementData_915e3 2 (some (.object "java/lang/Object")) ∈ zT := zTm (i := 897) rfl rfl
abbrev mJx4a65c_get_915e3 : zM := (yJx4a65c_get_915e3, cJx4a65c_get_915e3, 2, some (.object "java/lang/Object"))
set_option maxRecDepth 100000 in
theorem kJx4a65c_get_915e3 : Cond.code yJx4a65c_get_915e3 cJx4a65c_get_915e3 2 (some (.object "java/lang/Object")) ∈ zT := zTm (i := 887) rfl rfl
abbrev mJx4a65c_add_72be8 : zM := (yJx4a65c_add_72be8, cJx4a65c_add_72be8, 4, none)
set_option maxRecDepth 100000 in
theorem kJx4a65c_add_72be8 : Cond.code yJx4a65c_add_72be8 cJx4a65c_add_72be8 4 (none) ∈ zT := zTm (i := 838) rfl rfl
abbrev mJx4a65c_add_9ea2d : zM := (yJx4a65c_add_9ea2d, cJx4a65c_add_9ea2d, 2, some .boolean)
set_option maxRecDepth 100000 in
theorem kJx4a65c_add_9ea2d : Cond.code yJx4a65c_add_9ea2d cJx4a65c_add_9ea2d 2 (some .boolean) ∈ zT := zTm (i := 834) rfl rfl
abbrev mJ7_copyOf_1904c : zM := (yJ7_copyOf_1904c, cJ7_copyOf_1904c, 2, some (.array (.object "java/lang/Object")))
set_option maxRecDepth 100000 in
theorem kJ7_copyOf_1904c : Cond.code yJ7_copyOf_1904c cJ7_copyOf_1904c 2 (some (.array (.object "java/lang/Object"))) ∈ zT := zTm (i := 857) rfl rfl
abbrev mJ7_copyOf_6403c : zM := (yJ7_copyOf_6403c, cJ7_copyOf_6403c, 4, some (.array (.object "java/lang/Object")))
set_option maxRecDepth 100000 in
theorem kJ7_copyOf_6403c : Cond.code yJ7_copyOf_6403c cJ7_copyOf_6403c 4 (some (.array (.object "java/lang/Object"))) ∈ zT := zTm (i := 876) rfl rfl
abbrev mJ15_checkIndex_7cf53 : zM := (yJ15_checkIndex_7cf53, cJ15_checkIndex_7cf53, 2, some .int)
set_option maxRecDepth 100000 in
theorem kJ15_checkIndex_7cf53 : Cond.code yJ15_checkIndex_7cf53 cJ15_checkIndex_7cf53 2 (some .int) ∈ zT := zTm (i := 890) rfl rfl
abbrev mJ8_newLength_cabcc : zM := (yJ8_newLength_cabcc, cJ8_newLength_cabcc, 4, some .int)
set_option maxRecDepth 100000 in
theorem kJ8_newLength_cabcc : Cond.code yJ8_newLength_cabcc cJ8_newLength_cabcc 4 (some .int) ∈ zT := zTm (i := 849) rfl rfl
abbrev mJ8_hugeLength_7cf53 : zM := (yJ8_hugeLength_7cf53, cJ8_hugeLength_7cf53, 3, some .int)
set_option maxRecDepth 100000 in
theorem kJ8_hugeLength_7cf53 : Cond.code yJ8_hugeLength_7cf53 cJ8_hugeLength_7cf53 3 (some .int) ∈ zT := zTm (i := 854) rfl rfl
abbrev mJ3_checkIndex_8e157 : zM := (yJ3_checkIndex_8e157, cJ3_checkIndex_8e157, 3, some .int)
set_option maxRecDepth 100000 in
theorem kJ3_checkIndex_8e157 : Cond.code yJ3_checkIndex_8e157 cJ3_checkIndex_8e157 3 (some .int) ∈ zT := zTm (i := 893) rfl rfl
abbrev mL_cell : zM := (yL_cell, cL_cell, 2, some .int)
set_option maxRecDepth 100000 in
theorem kL_cell : Cond.code yL_cell cL_cell 2 (some .int) ∈ zT := zTm (i := 920) rfl rfl
theorem fX4_15_5 : zfOk ⟨RX4, "", ""⟩ (15, 5, 0, 0) = true := by decide +kernel
theorem fiX4_15_5 : zfOk ⟨RX4, "<init>", ""⟩ (15, 5, 0, 2) = true := by decide +kernel
theorem fX4_21_5 : zfOk ⟨RX4, "", ""⟩ (21, 5, 1, 1) = true := by decide +kernel
theorem fJx4a65c_9_1 : zfOk ⟨RJx4a65c, "", ""⟩ (9, 1, 1, 2) = true := by decide +kernel
theorem fJx4a65c_48_1 : zfOk ⟨RJx4a65c, "", ""⟩ (48, 1, 2, 1) = true := by decide +kernel
theorem fJxc12de_7_1 : zfOk ⟨RJxc12de, "", ""⟩ (7, 1, 0, 1) = true := by decide +kernel
theorem fX0_9_2 : zfOk ⟨RX0, "", ""⟩ (9, 2, 0, 0) = true := by decide +kernel
theorem fiX0_9_2 : zfOk ⟨RX0, "<init>", ""⟩ (9, 2, 0, 2) = true := by decide +kernel
theorem fX0_15_2 : zfOk ⟨RX0, "", ""⟩ (15, 2, 1, 0) = true := by decide +kernel
theorem fiX0_15_2 : zfOk ⟨RX0, "<init>", ""⟩ (15, 2, 1, 2) = true := by decide +kernel
theorem fX0_18_2 : zfOk ⟨RX0, "", ""⟩ (18, 2, 2, 1) = true := by decide +kernel
theorem fX8_12_8 : zfOk ⟨RX8, "", ""⟩ (12, 8, 0, 0) = true := by decide +kernel
theorem fiX8_12_8 : zfOk ⟨RX8, "<init>", ""⟩ (12, 8, 0, 2) = true := by decide +kernel
theorem fX8_18_8 : zfOk ⟨RX8, "", ""⟩ (18, 8, 1, 0) = true := by decide +kernel
theorem fiX8_18_8 : zfOk ⟨RX8, "<init>", ""⟩ (18, 8, 1, 2) = true := by decide +kernel
theorem fX8_32_8 : zfOk ⟨RX8, "", ""⟩ (32, 8, 2, 1) = true := by decide +kernel
theorem fX8_22_8 : zfOk ⟨RX8, "", ""⟩ (22, 8, 3, 1) = true := by decide +kernel
theorem fX8_26_8 : zfOk ⟨RX8, "", ""⟩ (26, 8, 4, 1) = true := by decide +kernel
theorem fX8_29_8 : zfOk ⟨RX8, "", ""⟩ (29, 8, 5, 1) = true := by decide +kernel
theorem fX2_9_3 : zfOk ⟨RX2, "", ""⟩ (9, 3, 0, 1) = true := by decide +kernel
theorem fX2_15_3 : zfOk ⟨RX2, "", ""⟩ (15, 3, 1, 1) = true := by decide +kernel
theorem fX5_9_6 : zfOk ⟨RX5, "", ""⟩ (9, 6, 0, 0) = true := by decide +kernel
theorem fiX5_9_6 : zfOk ⟨RX5, "<init>", ""⟩ (9, 6, 0, 2) = true := by decide +kernel
theorem fX5_15_6 : zfOk ⟨RX5, "", ""⟩ (15, 6, 1, 0) = true := by decide +kernel
theorem fiX5_15_6 : zfOk ⟨RX5, "<init>", ""⟩ (15, 6, 1, 2) = true := by decide +kernel
theorem fX5_18_6 : zfOk ⟨RX5, "", ""⟩ (18, 6, 2, 1) = true := by decide +kernel
theorem fX5_22_6 : zfOk ⟨RX5, "", ""⟩ (22, 6, 3, 1) = true := by decide +kernel
theorem fX5_25_6 : zfOk ⟨RX5, "", ""⟩ (25, 6, 4, 1) = true := by decide +kernel
theorem fX5_28_6 : zfOk ⟨RX5, "", ""⟩ (28, 6, 5, 1) = true := by decide +kernel
theorem fX3_15_4 : zfOk ⟨RX3, "", ""⟩ (15, 4, 0, 0) = true := by decide +kernel
theorem fiX3_15_4 : zfOk ⟨RX3, "<init>", ""⟩ (15, 4, 0, 1) = true := by decide +kernel
theorem fX3_21_4 : zfOk ⟨RX3, "", ""⟩ (21, 4, 1, 0) = true := by decide +kernel
theorem fiX3_21_4 : zfOk ⟨RX3, "<init>", ""⟩ (21, 4, 1, 1) = true := by decide +kernel
theorem fX3_24_4 : zfOk ⟨RX3, "", ""⟩ (24, 4, 2, 0) = true := by decide +kernel
theorem fiX3_24_4 : zfOk ⟨RX3, "<init>", ""⟩ (24, 4, 2, 2) = true := by decide +kernel
theorem fX3_28_4 : zfOk ⟨RX3, "", ""⟩ (28, 4, 3, 0) = true := by decide +kernel
theorem fiX3_28_4 : zfOk ⟨RX3, "<init>", ""⟩ (28, 4, 3, 2) = true := by decide +kernel
theorem fX3_31_4 : zfOk ⟨RX3, "", ""⟩ (31, 4, 4, 0) = true := by decide +kernel
theorem fiX3_31_4 : zfOk ⟨RX3, "<init>", ""⟩ (31, 4, 4, 2) = true := by decide +kernel
theorem fX3_34_4 : zfOk ⟨RX3, "", ""⟩ (34, 4, 5, 0) = true := by decide +kernel
theorem fiX3_34_4 : zfOk ⟨RX3, "<init>", ""⟩ (34, 4, 5, 2) = true := by decide +kernel
theorem fX3_37_4 : zfOk ⟨RX3, "", ""⟩ (37, 4, 6, 0) = true := by decide +kernel
theorem fiX3_37_4 : zfOk ⟨RX3, "<init>", ""⟩ (37, 4, 6, 2) = true := by decide +kernel
theorem fX3_53_4 : zfOk ⟨RX3, "", ""⟩ (53, 4, 7, 1) = true := by decide +kernel
theorem fX3_40_4 : zfOk ⟨RX3, "", ""⟩ (40, 4, 8, 0) = true := by decide +kernel
theorem fiX3_40_4 : zfOk ⟨RX3, "<init>", ""⟩ (40, 4, 8, 2) = true := by decide +kernel
theorem fX3_56_4 : zfOk ⟨RX3, "", ""⟩ (56, 4, 9, 1) = true := by decide +kernel
theorem fX3_43_4 : zfOk ⟨RX3, "", ""⟩ (43, 4, 10, 0) = true := by decide +kernel
theorem fiX3_43_4 : zfOk ⟨RX3, "<init>", ""⟩ (43, 4, 10, 2) = true := by decide +kernel
theorem fX9_7_9 : zfOk ⟨RX9, "", ""⟩ (7, 9, 5, 1) = true := by decide +kernel
theorem fX1_9_7 : zfOk ⟨RX1, "", ""⟩ (9, 7, 0, 0) = true := by decide +kernel
theorem fiX1_9_7 : zfOk ⟨RX1, "<init>", ""⟩ (9, 7, 0, 2) = true := by decide +kernel
theorem fX1_9_9 : zfOk ⟨RX1, "", ""⟩ (9, 9, 0, 0) = true := by decide +kernel
theorem fiX1_9_9 : zfOk ⟨RX1, "<init>", ""⟩ (9, 9, 0, 2) = true := by decide +kernel
theorem fX1_21_7 : zfOk ⟨RX1, "", ""⟩ (21, 7, 1, 1) = true := by decide +kernel
theorem fX1_21_9 : zfOk ⟨RX1, "", ""⟩ (21, 9, 1, 1) = true := by decide +kernel
theorem fX1_25_7 : zfOk ⟨RX1, "", ""⟩ (25, 7, 2, 1) = true := by decide +kernel
theorem fX1_25_9 : zfOk ⟨RX1, "", ""⟩ (25, 9, 2, 1) = true := by decide +kernel
theorem fX1_29_7 : zfOk ⟨RX1, "", ""⟩ (29, 7, 3, 1) = true := by decide +kernel
theorem fX1_29_9 : zfOk ⟨RX1, "", ""⟩ (29, 9, 3, 1) = true := by decide +kernel
theorem fX1_32_7 : zfOk ⟨RX1, "", ""⟩ (32, 7, 4, 1) = true := by decide +kernel
theorem fX1_32_9 : zfOk ⟨RX1, "", ""⟩ (32, 9, 4, 1) = true := by decide +kernel
theorem fX6_9_7 : zfOk ⟨RX6, "", ""⟩ (9, 7, 5, 0) = true := by decide +kernel
theorem fiX6_9_7 : zfOk ⟨RX6, "<init>", ""⟩ (9, 7, 5, 2) = true := by decide +kernel
theorem fX6_19_7 : zfOk ⟨RX6, "", ""⟩ (19, 7, 6, 1) = true := by decide +kernel
theorem fX6_23_7 : zfOk ⟨RX6, "", ""⟩ (23, 7, 7, 1) = true := by decide +kernel
theorem fX10_68_10 : zfOk ⟨RX10, "", ""⟩ (68, 10, 0, 0) = true := by decide +kernel
theorem fiX10_68_10 : zfOk ⟨RX10, "<init>", ""⟩ (68, 10, 0, 1) = true := by decide +kernel
theorem fX10_71_10 : zfOk ⟨RX10, "", ""⟩ (71, 10, 1, 0) = true := by decide +kernel
theorem fiX10_71_10 : zfOk ⟨RX10, "<init>", ""⟩ (71, 10, 1, 1) = true := by decide +kernel
theorem fX10_14_10 : zfOk ⟨RX10, "", ""⟩ (14, 10, 2, 0) = true := by decide +kernel
theorem fiX10_14_10 : zfOk ⟨RX10, "<init>", ""⟩ (14, 10, 2, 2) = true := by decide +kernel
theorem fX10_18_10 : zfOk ⟨RX10, "", ""⟩ (18, 10, 3, 0) = true := by decide +kernel
theorem fiX10_18_10 : zfOk ⟨RX10, "<init>", ""⟩ (18, 10, 3, 2) = true := by decide +kernel
theorem fX10_21_10 : zfOk ⟨RX10, "", ""⟩ (21, 10, 4, 2) = true := by decide +kernel
theorem fX10_24_10 : zfOk ⟨RX10, "", ""⟩ (24, 10, 5, 2) = true := by decide +kernel
theorem fX10_79_10 : zfOk ⟨RX10, "", ""⟩ (79, 10, 6, 0) = true := by decide +kernel
theorem fiX10_79_10 : zfOk ⟨RX10, "<init>", ""⟩ (79, 10, 6, 2) = true := by decide +kernel
theorem fX10_83_10 : zfOk ⟨RX10, "", ""⟩ (83, 10, 7, 2) = true := by decide +kernel
theorem fX10_86_10 : zfOk ⟨RX10, "", ""⟩ (86, 10, 8, 2) = true := by decide +kernel
theorem fX10_172_10 : zfOk ⟨RX10, "", ""⟩ (172, 10, 9, 1) = true := by decide +kernel
theorem fX10_210_10 : zfOk ⟨RX10, "", ""⟩ (210, 10, 10, 1) = true := by decide +kernel
theorem fX10_193_10 : zfOk ⟨RX10, "", ""⟩ (193, 10, 11, 1) = true := by decide +kernel
theorem fX10_30_10 : zfOk ⟨RX10, "", ""⟩ (30, 10, 12, 0) = true := by decide +kernel
theorem fiX10_30_10 : zfOk ⟨RX10, "<init>", ""⟩ (30, 10, 12, 2) = true := by decide +kernel
theorem fX10_266_10 : zfOk ⟨RX10, "", ""⟩ (266, 10, 13, 1) = true := by decide +kernel
theorem fX10_37_10 : zfOk ⟨RX10, "", ""⟩ (37, 10, 14, 0) = true := by decide +kernel
theorem fiX10_37_10 : zfOk ⟨RX10, "<init>", ""⟩ (37, 10, 14, 2) = true := by decide +kernel
theorem fX10_94_10 : zfOk ⟨RX10, "", ""⟩ (94, 10, 15, 0) = true := by decide +kernel
theorem fiX10_94_10 : zfOk ⟨RX10, "<init>", ""⟩ (94, 10, 15, 2) = true := by decide +kernel
theorem fX10_103_10 : zfOk ⟨RX10, "", ""⟩ (103, 10, 16, 0) = true := by decide +kernel
theorem fiX10_103_10 : zfOk ⟨RX10, "<init>", ""⟩ (103, 10, 16, 2) = true := by decide +kernel
theorem fX10_44_10 : zfOk ⟨RX10, "", ""⟩ (44, 10, 17, 0) = true := by decide +kernel
theorem fiX10_44_10 : zfOk ⟨RX10, "<init>", ""⟩ (44, 10, 17, 2) = true := by decide +kernel
theorem fX10_51_10 : zfOk ⟨RX10, "", ""⟩ (51, 10, 18, 0) = true := by decide +kernel
theorem fiX10_51_10 : zfOk ⟨RX10, "<init>", ""⟩ (51, 10, 18, 2) = true := by decide +kernel
theorem fX10_55_10 : zfOk ⟨RX10, "", ""⟩ (55, 10, 19, 1) = true := by decide +kernel
theorem fX11_82_11 : zfOk ⟨RX11, "", ""⟩ (82, 11, 0, 1) = true := by decide +kernel
theorem fX11_72_11 : zfOk ⟨RX11, "", ""⟩ (72, 11, 1, 0) = true := by decide +kernel
theorem fiX11_72_11 : zfOk ⟨RX11, "<init>", ""⟩ (72, 11, 1, 1) = true := by decide +kernel
theorem fX11_75_11 : zfOk ⟨RX11, "", ""⟩ (75, 11, 2, 0) = true := by decide +kernel
theorem fiX11_75_11 : zfOk ⟨RX11, "<init>", ""⟩ (75, 11, 2, 1) = true := by decide +kernel
theorem fX11_85_11 : zfOk ⟨RX11, "", ""⟩ (85, 11, 3, 1) = true := by decide +kernel
theorem fX11_7_11 : zfOk ⟨RX11, "", ""⟩ (7, 11, 4, 0) = true := by decide +kernel
theorem fiX11_7_11 : zfOk ⟨RX11, "<init>", ""⟩ (7, 11, 4, 2) = true := by decide +kernel
theorem fX11_93_11 : zfOk ⟨RX11, "", ""⟩ (93, 11, 5, 1) = true := by decide +kernel
theorem fX11_13_11 : zfOk ⟨RX11, "", ""⟩ (13, 11, 6, 0) = true := by decide +kernel
theorem fiX11_13_11 : zfOk ⟨RX11, "<init>", ""⟩ (13, 11, 6, 2) = true := by decide +kernel
theorem fX11_96_11 : zfOk ⟨RX11, "", ""⟩ (96, 11, 7, 1) = true := by decide +kernel
theorem fX11_16_11 : zfOk ⟨RX11, "", ""⟩ (16, 11, 8, 0) = true := by decide +kernel
theorem fiX11_16_11 : zfOk ⟨RX11, "<init>", ""⟩ (16, 11, 8, 2) = true := by decide +kernel
theorem fX11_19_11 : zfOk ⟨RX11, "", ""⟩ (19, 11, 9, 0) = true := by decide +kernel
theorem fiX11_19_11 : zfOk ⟨RX11, "<init>", ""⟩ (19, 11, 9, 2) = true := by decide +kernel
theorem fX11_22_11 : zfOk ⟨RX11, "", ""⟩ (22, 11, 10, 0) = true := by decide +kernel
theorem fiX11_22_11 : zfOk ⟨RX11, "<init>", ""⟩ (22, 11, 10, 2) = true := by decide +kernel
theorem fX11_25_11 : zfOk ⟨RX11, "", ""⟩ (25, 11, 11, 0) = true := by decide +kernel
theorem fiX11_25_11 : zfOk ⟨RX11, "<init>", ""⟩ (25, 11, 11, 2) = true := by decide +kernel
theorem fX11_28_11 : zfOk ⟨RX11, "", ""⟩ (28, 11, 12, 0) = true := by decide +kernel
theorem fiX11_28_11 : zfOk ⟨RX11, "<init>", ""⟩ (28, 11, 12, 2) = true := by decide +kernel
theorem fX11_31_11 : zfOk ⟨RX11, "", ""⟩ (31, 11, 13, 0) = true := by decide +kernel
theorem fiX11_31_11 : zfOk ⟨RX11, "<init>", ""⟩ (31, 11, 13, 2) = true := by decide +kernel
theorem fX11_34_11 : zfOk ⟨RX11, "", ""⟩ (34, 11, 14, 0) = true := by decide +kernel
theorem fiX11_34_11 : zfOk ⟨RX11, "<init>", ""⟩ (34, 11, 14, 2) = true := by decide +kernel
theorem fX11_37_11 : zfOk ⟨RX11, "", ""⟩ (37, 11, 15, 0) = true := by decide +kernel
theorem fiX11_37_11 : zfOk ⟨RX11, "<init>", ""⟩ (37, 11, 15, 2) = true := by decide +kernel
theorem fX11_228_11 : zfOk ⟨RX11, "", ""⟩ (228, 11, 16, 1) = true := by decide +kernel
theorem fX11_40_11 : zfOk ⟨RX11, "", ""⟩ (40, 11, 17, 0) = true := by decide +kernel
theorem fiX11_40_11 : zfOk ⟨RX11, "<init>", ""⟩ (40, 11, 17, 2) = true := by decide +kernel
theorem fX11_103_11 : zfOk ⟨RX11, "", ""⟩ (103, 11, 18, 1) = true := by decide +kernel
theorem fX11_44_11 : zfOk ⟨RX11, "", ""⟩ (44, 11, 19, 0) = true := by decide +kernel
theorem fiX11_44_11 : zfOk ⟨RX11, "<init>", ""⟩ (44, 11, 19, 2) = true := by decide +kernel
theorem fX11_110_11 : zfOk ⟨RX11, "", ""⟩ (110, 11, 20, 1) = true := by decide +kernel
theorem fX11_113_11 : zfOk ⟨RX11, "", ""⟩ (113, 11, 21, 1) = true := by decide +kernel
theorem fX11_123_11 : zfOk ⟨RX11, "", ""⟩ (123, 11, 22, 1) = true := by decide +kernel
theorem fX11_126_11 : zfOk ⟨RX11, "", ""⟩ (126, 11, 23, 1) = true := by decide +kernel
theorem fX11_116_11 : zfOk ⟨RX11, "", ""⟩ (116, 11, 24, 1) = true := by decide +kernel
theorem fX11_129_11 : zfOk ⟨RX11, "", ""⟩ (129, 11, 25, 3) = true := by decide +kernel
theorem fX11_149_11 : zfOk ⟨RX11, "", ""⟩ (149, 11, 26, 1) = true := by decide +kernel
theorem fX11_146_11 : zfOk ⟨RX11, "", ""⟩ (146, 11, 27, 1) = true := by decide +kernel
theorem fX11_143_11 : zfOk ⟨RX11, "", ""⟩ (143, 11, 28, 1) = true := by decide +kernel
theorem fX11_137_11 : zfOk ⟨RX11, "", ""⟩ (137, 11, 29, 1) = true := by decide +kernel
theorem fX11_47_11 : zfOk ⟨RX11, "", ""⟩ (47, 11, 30, 0) = true := by decide +kernel
theorem fiX11_47_11 : zfOk ⟨RX11, "<init>", ""⟩ (47, 11, 30, 2) = true := by decide +kernel
theorem fX11_161_11 : zfOk ⟨RX11, "", ""⟩ (161, 11, 31, 1) = true := by decide +kernel
theorem fX11_164_11 : zfOk ⟨RX11, "", ""⟩ (164, 11, 32, 1) = true := by decide +kernel
theorem fX11_50_11 : zfOk ⟨RX11, "", ""⟩ (50, 11, 33, 0) = true := by decide +kernel
theorem fiX11_50_11 : zfOk ⟨RX11, "<init>", ""⟩ (50, 11, 33, 2) = true := by decide +kernel
theorem fX11_53_11 : zfOk ⟨RX11, "", ""⟩ (53, 11, 34, 0) = true := by decide +kernel
theorem fiX11_53_11 : zfOk ⟨RX11, "<init>", ""⟩ (53, 11, 34, 2) = true := by decide +kernel
theorem fX11_194_11 : zfOk ⟨RX11, "", ""⟩ (194, 11, 35, 3) = true := by decide +kernel
theorem fX11_56_11 : zfOk ⟨RX11, "", ""⟩ (56, 11, 36, 0) = true := by decide +kernel
theorem fiX11_56_11 : zfOk ⟨RX11, "<init>", ""⟩ (56, 11, 36, 2) = true := by decide +kernel
theorem fX11_197_11 : zfOk ⟨RX11, "", ""⟩ (197, 11, 37, 1) = true := by decide +kernel
theorem fX11_59_11 : zfOk ⟨RX11, "", ""⟩ (59, 11, 38, 0) = true := by decide +kernel
theorem fiX11_59_11 : zfOk ⟨RX11, "<init>", ""⟩ (59, 11, 38, 2) = true := by decide +kernel
theorem fX11_62_11 : zfOk ⟨RX11, "", ""⟩ (62, 11, 39, 0) = true := by decide +kernel
theorem fiX11_62_11 : zfOk ⟨RX11, "<init>", ""⟩ (62, 11, 39, 2) = true := by decide +kernel
theorem fX11_203_11 : zfOk ⟨RX11, "", ""⟩ (203, 11, 40, 1) = true := by decide +kernel
theorem fX11_200_11 : zfOk ⟨RX11, "", ""⟩ (200, 11, 41, 1) = true := by decide +kernel
theorem fX11_65_11 : zfOk ⟨RX11, "", ""⟩ (65, 11, 42, 1) = true := by decide +kernel
theorem fX11_222_11 : zfOk ⟨RX11, "", ""⟩ (222, 11, 43, 1) = true := by decide +kernel
theorem fX11_69_11 : zfOk ⟨RX11, "", ""⟩ (69, 11, 44, 0) = true := by decide +kernel
theorem fiX11_69_11 : zfOk ⟨RX11, "<init>", ""⟩ (69, 11, 44, 2) = true := by decide +kernel
theorem fX11_216_11 : zfOk ⟨RX11, "", ""⟩ (216, 11, 45, 1) = true := by decide +kernel
theorem lX0_3 : zall [.methodLink RX0 3 objectInit, .instanceMethod objectInit] = true := by decide +kernel
theorem nX0_22 : Cond.methodLinkNest RX0 22 yX10_put "PpmTrees" ∈ zNest := by decide +kernel
theorem lX0_22 : zall [.static yX10_put, .initialized (yX10_put).cls] = true := by decide +kernel
theorem nX0_26 : Cond.methodLinkNest RX0 26 yX10_at "PpmTrees" ∈ zNest := by decide +kernel
theorem lX0_26 : zall [.static yX10_at, .initialized (yX10_at).cls] = true := by decide +kernel
theorem nX1_3 : Cond.methodLinkNest RX1 3 yX7_init "PpmTrees" ∈ zNest := by decide +kernel
theorem lX1_3 : zall [.instanceMethod yX7_init, .initialized (yX7_init).cls] = true := by decide +kernel
theorem lX1_15 : zall [.methodLink RX1 15 yX4_keepFirst, .instanceMethod yX4_keepFirst, .selects (yX4_keepFirst).cls yX4_keepFirst yX4_keepFirst, .initialized (yX4_keepFirst).cls] = true := by decide +kernel
-- later: PpmTrees$Coder 35 virtual ('PpmTrees$Coder', 'width', '()I')
-- later: PpmTrees$Coder 39 virtual ('PpmTrees$Coder', 'settledPart', '()I')
-- later: PpmTrees$Coder 43 virtual ('PpmTrees$Coder', 'putBit', '(I)V')
-- later: PpmTrees$Coder 46 virtual ('PpmTrees$Coder', 'shifted', '(I)V')
theorem lX1_50 : zall [.methodLink RX1 50 yX4_setBit, .instanceMethod yX4_setBit, .selects (yX4_setBit).cls yX4_setBit yX4_setBit, .initialized (yX4_setBit).cls] = true := by decide +kernel
theorem nX2_3 : Cond.methodLinkNest RX2 3 yX7_init "PpmTrees" ∈ zNest := by decide +kernel
theorem lX2_3 : zall [.instanceMethod yX7_init, .initialized (yX7_init).cls] = true := by decide +kernel
theorem lX2_18 : zall [.methodLink RX2 18 yX0_indexOf, .instanceMethod yX0_indexOf, .selects (yX0_indexOf).cls yX0_indexOf yX0_indexOf, .initialized (yX0_indexOf).cls] = true := by decide +kernel
theorem lX3_3 : zall [.methodLink RX3 3 objectInit, .instanceMethod objectInit] = true := by decide +kernel
theorem lX3_46 : zall [.methodLink RX3 46 yX3_begin, .instanceMethod yX3_begin, .selects (yX3_begin).cls yX3_begin yX3_begin, .initialized (yX3_begin).cls] = true := by decide +kernel
theorem nX3_49 : Cond.methodLinkNest RX3 49 yX10_put "PpmTrees" ∈ zNest := by decide +kernel
theorem lX3_49 : zall [.static yX10_put, .initialized (yX10_put).cls] = true := by decide +kernel
theorem nX3_59 : Cond.methodLinkNest RX3 59 yX10_copyFirst "PpmTrees" ∈ zNest := by decide +kernel
theorem lX3_59 : zall [.static yX10_copyFirst, .initialized (yX10_copyFirst).cls] = true := by decide +kernel
theorem lX3_63 : zall [.methodLink RX3 63 yX3_sameFirst, .static yX3_sameFirst, .initialized (yX3_sameFirst).cls] = true := by decide +kernel
theorem nX3_67 : Cond.methodLinkNest RX3 67 yX10_at "PpmTrees" ∈ zNest := by decide +kernel
theorem lX3_67 : zall [.static yX10_at, .initialized (yX10_at).cls] = true := by decide +kernel
theorem lX3_71 : zall [.methodLink RX3 71 yX3_parentOf, .instanceMethod yX3_parentOf, .selects (yX3_parentOf).cls yX3_parentOf yX3_parentOf, .initialized (yX3_parentOf).cls] = true := by decide +kernel
theorem lX3_75 : zall [.methodLink RX3 75 yX3_context, .instanceMethod yX3_context, .selects (yX3_context).cls yX3_context yX3_context, .initialized (yX3_context).cls] = true := by decide +kernel
theorem lX3_78 : zall [.methodLink RX3 78 yX3_childOf, .instanceMethod yX3_childOf, .selects (yX3_childOf).cls yX3_childOf yX3_childOf, .initialized (yX3_childOf).cls] = true := by decide +kernel
theorem lX3_81 : zall [.methodLink RX3 81 yX3_countOf, .instanceMethod yX3_countOf, .selects (yX3_countOf).cls yX3_countOf yX3_countOf, .initialized (yX3_countOf).cls] = true := by decide +kernel
theorem lX3_84 : zall [.methodLink RX3 84 yX3_growChild, .instanceMethod yX3_growChild, .selects (yX3_growChild).cls yX3_growChild yX3_growChild, .initialized (yX3_growChild).cls] = true := by decide +kernel
theorem lX3_88 : zall [.methodLink RX3 88 yX3_lessenCounts, .instanceMethod yX3_lessenCounts, .selects (yX3_lessenCounts).cls yX3_lessenCounts yX3_lessenCounts, .initialized (yX3_lessenCounts).cls] = true := by decide +kernel
theorem lX3_92 : zall [.methodLink RX3 92 yX3_remember, .instanceMethod yX3_remember, .selects (yX3_remember).cls yX3_remember yX3_remember, .initialized (yX3_remember).cls] = true := by decide +kernel
theorem lX3_95 : zall [.methodLink RX3 95 yX3_firstChild, .instanceMethod yX3_firstChild, .selects (yX3_firstChild).cls yX3_firstChild yX3_firstChild, .initialized (yX3_firstChild).cls] = true := by decide +kernel
theorem lX3_98 : zall [.methodLink RX3 98 yX3_byteOf, .instanceMethod yX3_byteOf, .selects (yX3_byteOf).cls yX3_byteOf yX3_byteOf, .initialized (yX3_byteOf).cls] = true := by decide +kernel
theorem lX3_101 : zall [.methodLink RX3 101 yX3_nextSibling, .instanceMethod yX3_nextSibling, .selects (yX3_nextSibling).cls yX3_nextSibling yX3_nextSibling, .initialized (yX3_nextSibling).cls] = true := by decide +kernel
theorem lX3_104 : zall [.methodLink RX3 104 yX3_countsTogether, .instanceMethod yX3_countsTogether, .selects (yX3_countsTogether).cls yX3_countsTogether yX3_countsTogether, .initialized (yX3_countsTogether).cls] = true := by decide +kernel
theorem lX4_3 : zall [.methodLink RX4 3 objectInit, .instanceMethod objectInit] = true := by decide +kernel
theorem nX4_25 : Cond.methodLinkNest RX4 25 yX10_at "PpmTrees" ∈ zNest := by decide +kernel
theorem lX4_25 : zall [.static yX10_at, .initialized (yX10_at).cls] = true := by decide +kernel
theorem nX4_29 : Cond.methodLinkNest RX4 29 yX10_put "PpmTrees" ∈ zNest := by decide +kernel
theorem lX4_29 : zall [.static yX10_put, .initialized (yX10_put).cls] = true := by decide +kernel
theorem lX5_3 : zall [.methodLink RX5 3 objectInit, .instanceMethod objectInit] = true := by decide +kernel
theorem lX5_31 : zall [.methodLink RX5 31 yX8_excludedMany, .instanceMethod yX8_excludedMany, .selects (yX8_excludedMany).cls yX8_excludedMany yX8_excludedMany, .initialized (yX8_excludedMany).cls] = true := by decide +kernel
theorem nX5_37 : Cond.methodLinkNest RX5 37 yX10_put "PpmTrees" ∈ zNest := by decide +kernel
theorem lX5_37 : zall [.static yX10_put, .initialized (yX10_put).cls] = true := by decide +kernel
theorem lX5_41 : zall [.methodLink RX5 41 yX8_foundIn, .instanceMethod yX8_foundIn, .selects (yX8_foundIn).cls yX8_foundIn yX8_foundIn, .initialized (yX8_foundIn).cls] = true := by decide +kernel
theorem lX5_44 : zall [.methodLink RX5 44 yX8_escapes, .instanceMethod yX8_escapes, .selects (yX8_escapes).cls yX8_escapes yX8_escapes, .initialized (yX8_escapes).cls] = true := by decide +kernel
theorem nX5_46 : Cond.methodLinkNest RX5 46 yX10_at "PpmTrees" ∈ zNest := by decide +kernel
theorem lX5_46 : zall [.static yX10_at, .initialized (yX10_at).cls] = true := by decide +kernel
theorem lX6_3 : zall [.methodLink RX6 3 yX1_init, .instanceMethod yX1_init, .initialized (yX1_init).cls] = true := by decide +kernel
theorem lX6_15 : zall [.methodLink RX6 15 yX1_begin, .instanceMethod yX1_begin, .initialized (yX1_begin).cls] = true := by decide +kernel
theorem lX6_26 : zall [.methodLink RX6 26 yX6_shifted, .instanceMethod yX6_shifted, .selects (yX6_shifted).cls yX6_shifted yX6_shifted, .initialized (yX6_shifted).cls] = true := by decide +kernel
theorem lX6_30 : zall [.methodLink RX6 30 yX4_many, .instanceMethod yX4_many, .selects (yX4_many).cls yX4_many yX4_many, .initialized (yX4_many).cls] = true := by decide +kernel
-- later: PpmTrees$Reader 36 virtual ('PpmTrees$Reader', 'written', '()LPpmTrees$Octets;')
theorem lX6_40 : zall [.methodLink RX6 40 yX4_firstDifference, .instanceMethod yX4_firstDifference, .selects (yX4_firstDifference).cls yX4_firstDifference yX4_firstDifference, .initialized (yX4_firstDifference).cls] = true := by decide +kernel
-- later: PpmTrees$Reader 44 virtual ('PpmTrees$Reader', 'width', '()I')
-- later: PpmTrees$Reader 47 virtual ('PpmTrees$Reader', 'low', '()I')
theorem lX6_50 : zall [.methodLink RX6 50 yX0_total, .instanceMethod yX0_total, .selects (yX0_total).cls yX0_total yX0_total, .initialized (yX0_total).cls] = true := by decide +kernel
theorem lX6_55 : zall [.methodLink RX6 55 yX0_indexOfPoint, .instanceMethod yX0_indexOfPoint, .selects (yX0_indexOfPoint).cls yX0_indexOfPoint yX0_indexOfPoint, .initialized (yX0_indexOfPoint).cls] = true := by decide +kernel
theorem lX6_59 : zall [.methodLink RX6 59 yX4_bitAt, .instanceMethod yX4_bitAt, .selects (yX4_bitAt).cls yX4_bitAt yX4_bitAt, .initialized (yX4_bitAt).cls] = true := by decide +kernel
theorem lX7_1 : zall [.methodLink RX7 1 objectInit, .instanceMethod objectInit] = true := by decide +kernel
-- later: PpmTrees$Speaker 7 virtual ('PpmTrees$Speaker', 'choose', '(LPpmTrees$Choices;)I')
theorem lX7_13 : zall [.methodLink RX7 13 yX0_startAt, .instanceMethod yX0_startAt, .selects (yX0_startAt).cls yX0_startAt yX0_startAt, .initialized (yX0_startAt).cls] = true := by decide +kernel
theorem lX7_19 : zall [.methodLink RX7 19 yX0_lengthAt, .instanceMethod yX0_lengthAt, .selects (yX0_lengthAt).cls yX0_lengthAt yX0_lengthAt, .initialized (yX0_lengthAt).cls] = true := by decide +kernel
theorem lX7_22 : zall [.methodLink RX7 22 yX0_total, .instanceMethod yX0_total, .selects (yX0_total).cls yX0_total yX0_total, .initialized (yX0_total).cls] = true := by decide +kernel
-- later: PpmTrees$Speaker 26 virtual ('PpmTrees$Speaker', 'take', '(III)V')
theorem lX7_30 : zall [.methodLink RX7 30 yX0_signAt, .instanceMethod yX0_signAt, .selects (yX0_signAt).cls yX0_signAt yX0_signAt, .initialized (yX0_signAt).cls] = true := by decide +kernel
theorem lX8_3 : zall [.methodLink RX8 3 objectInit, .instanceMethod objectInit] = true := by decide +kernel
theorem nX8_11 : Cond.methodLinkNest RX8 11 yX0_init "PpmTrees" ∈ zNest := by decide +kernel
theorem lX8_11 : zall [.instanceMethod yX0_init, .initialized (yX0_init).cls] = true := by decide +kernel
theorem lX8_35 : zall [.methodLink RX8 35 yX3_latestMany, .instanceMethod yX3_latestMany, .selects (yX3_latestMany).cls yX3_latestMany yX3_latestMany, .initialized (yX3_latestMany).cls] = true := by decide +kernel
theorem lX8_41 : zall [.methodLink RX8 41 yX3_context, .instanceMethod yX3_context, .selects (yX3_context).cls yX3_context yX3_context, .initialized (yX3_context).cls] = true := by decide +kernel
theorem lX8_45 : zall [.methodLink RX8 45 yX8_offerChildren, .instanceMethod yX8_offerChildren, .selects (yX8_offerChildren).cls yX8_offerChildren yX8_offerChildren, .initialized (yX8_offerChildren).cls] = true := by decide +kernel
theorem lX8_49 : zall [.methodLink RX8 49 yX0_many, .instanceMethod yX0_many, .selects (yX0_many).cls yX0_many yX0_many, .initialized (yX0_many).cls] = true := by decide +kernel
theorem lX8_52 : zall [.methodLink RX8 52 yX0_offer, .instanceMethod yX0_offer, .selects (yX0_offer).cls yX0_offer yX0_offer, .initialized (yX0_offer).cls] = true := by decide +kernel
-- later: PpmTrees$Teller 56 virtual ('PpmTrees$Speaker', 'say', '(LPpmTrees$Choices;)I')
theorem lX8_62 : zall [.methodLink RX8 62 yX8_excludeOffered, .instanceMethod yX8_excludeOffered, .selects (yX8_excludeOffered).cls yX8_excludeOffered yX8_excludeOffered, .initialized (yX8_excludeOffered).cls] = true := by decide +kernel
theorem lX8_65 : zall [.methodLink RX8 65 yX8_offerFlat, .instanceMethod yX8_offerFlat, .selects (yX8_offerFlat).cls yX8_offerFlat yX8_offerFlat, .initialized (yX8_offerFlat).cls] = true := by decide +kernel
theorem nX8_68 : Cond.methodLinkNest RX8 68 yX10_at "PpmTrees" ∈ zNest := by decide +kernel
theorem lX8_68 : zall [.static yX10_at, .initialized (yX10_at).cls] = true := by decide +kernel
theorem lX8_72 : zall [.methodLink RX8 72 yX0_begin, .instanceMethod yX0_begin, .selects (yX0_begin).cls yX0_begin yX0_begin, .initialized (yX0_begin).cls] = true := by decide +kernel
theorem lX8_75 : zall [.methodLink RX8 75 yX3_nodeMany, .instanceMethod yX3_nodeMany, .selects (yX3_nodeMany).cls yX3_nodeMany yX3_nodeMany, .initialized (yX3_nodeMany).cls] = true := by decide +kernel
theorem lX8_78 : zall [.methodLink RX8 78 yX3_firstChild, .instanceMethod yX3_firstChild, .selects (yX3_firstChild).cls yX3_firstChild yX3_firstChild, .initialized (yX3_firstChild).cls] = true := by decide +kernel
theorem lX8_81 : zall [.methodLink RX8 81 yX3_byteOf, .instanceMethod yX3_byteOf, .selects (yX3_byteOf).cls yX3_byteOf yX3_byteOf, .initialized (yX3_byteOf).cls] = true := by decide +kernel
theorem lX8_84 : zall [.methodLink RX8 84 yX8_isExcluded, .instanceMethod yX8_isExcluded, .selects (yX8_isExcluded).cls yX8_isExcluded yX8_isExcluded, .initialized (yX8_isExcluded).cls] = true := by decide +kernel
theorem lX8_88 : zall [.methodLink RX8 88 yX3_countOf, .instanceMethod yX3_countOf, .selects (yX3_countOf).cls yX3_countOf yX3_countOf, .initialized (yX3_countOf).cls] = true := by decide +kernel
theorem lX8_91 : zall [.methodLink RX8 91 yX3_nextSibling, .instanceMethod yX3_nextSibling, .selects (yX3_nextSibling).cls yX3_nextSibling yX3_nextSibling, .initialized (yX3_nextSibling).cls] = true := by decide +kernel
theorem lX8_94 : zall [.methodLink RX8 94 yX0_signAt, .instanceMethod yX0_signAt, .selects (yX0_signAt).cls yX0_signAt yX0_signAt, .initialized (yX0_signAt).cls] = true := by decide +kernel
theorem nX8_97 : Cond.methodLinkNest RX8 97 yX10_put "PpmTrees" ∈ zNest := by decide +kernel
theorem lX8_97 : zall [.static yX10_put, .initialized (yX10_put).cls] = true := by decide +kernel
theorem lX9_1 : zall [.methodLink RX9 1 yX1_init, .instanceMethod yX1_init, .initialized (yX1_init).cls] = true := by decide +kernel
theorem lX9_13 : zall [.methodLink RX9 13 yX0_indexOf, .instanceMethod yX0_indexOf, .selects (yX0_indexOf).cls yX0_indexOf yX0_indexOf, .initialized (yX0_indexOf).cls] = true := by decide +kernel
theorem lX10_3 : zall [.methodLink RX10 3 objectInit, .instanceMethod objectInit] = true := by decide +kernel
theorem lX10_11 : zall [.methodLink RX10 11 yX4_init, .instanceMethod yX4_init, .initialized (yX4_init).cls] = true := by decide +kernel
theorem lX10_29 : zall [.methodLink RX10 29 yJx4a65c_init_da8c8, .instanceMethod yJx4a65c_init_da8c8, .initialized (yJx4a65c_init_da8c8).cls] = true := by decide +kernel
theorem nX10_36 : Cond.methodLinkNest RX10 36 yX8_init "PpmTrees" ∈ zNest := by decide +kernel
theorem lX10_36 : zall [.instanceMethod yX8_init, .initialized (yX8_init).cls] = true := by decide +kernel
theorem nX10_43 : Cond.methodLinkNest RX10 43 yX2_init "PpmTrees" ∈ zNest := by decide +kernel
theorem lX10_43 : zall [.instanceMethod yX2_init, .initialized (yX2_init).cls] = true := by decide +kernel
theorem nX10_50 : Cond.methodLinkNest RX10 50 yX5_init "PpmTrees" ∈ zNest := by decide +kernel
theorem lX10_50 : zall [.instanceMethod yX5_init, .initialized (yX5_init).cls] = true := by decide +kernel
theorem lX10_76 : zall [.methodLink RX10 76 yX3_init, .instanceMethod yX3_init, .initialized (yX3_init).cls] = true := by decide +kernel
theorem lX10_91 : zall [.methodLink RX10 91 yX9_init, .instanceMethod yX9_init, .initialized (yX9_init).cls] = true := by decide +kernel
theorem lX10_100 : zall [.methodLink RX10 100 yX6_init, .instanceMethod yX6_init, .initialized (yX6_init).cls] = true := by decide +kernel
theorem lX10_107 : zall [.methodLink RX10 107 yX4_many, .instanceMethod yX4_many, .selects (yX4_many).cls yX4_many yX4_many, .initialized (yX4_many).cls] = true := by decide +kernel
theorem lX10_111 : zall [.methodLink RX10 111 yX4_keepFirst, .instanceMethod yX4_keepFirst, .selects (yX4_keepFirst).cls yX4_keepFirst yX4_keepFirst, .initialized (yX4_keepFirst).cls] = true := by decide +kernel
theorem lX10_114 : zall [.methodLink RX10 114 yX10_isByte, .static yX10_isByte, .initialized (yX10_isByte).cls] = true := by decide +kernel
theorem lX10_118 : zall [.methodLink RX10 118 yX4_append, .instanceMethod yX4_append, .selects (yX4_append).cls yX4_append yX4_append, .initialized (yX4_append).cls] = true := by decide +kernel
theorem lX10_122 : zall [.methodLink RX10 122 yX10_madeByte, .instanceMethod yX10_madeByte, .selects (yX10_madeByte).cls yX10_madeByte yX10_madeByte, .initialized (yX10_madeByte).cls] = true := by decide +kernel
theorem lX10_126 : zall [.methodLink RX10 126 yX10_echoedByte, .instanceMethod yX10_echoedByte, .selects (yX10_echoedByte).cls yX10_echoedByte yX10_echoedByte, .initialized (yX10_echoedByte).cls] = true := by decide +kernel
theorem lX10_129 : zall [.methodLink RX10 129 yX4_has, .instanceMethod yX4_has, .selects (yX4_has).cls yX4_has yX4_has, .initialized (yX4_has).cls] = true := by decide +kernel
theorem lX10_132 : zall [.methodLink RX10 132 yX4_byteAt, .instanceMethod yX4_byteAt, .selects (yX4_byteAt).cls yX4_byteAt yX4_byteAt, .initialized (yX4_byteAt).cls] = true := by decide +kernel
theorem lX10_136 : zall [.methodLink RX10 136 yX10_isRow, .static yX10_isRow, .initialized (yX10_isRow).cls] = true := by decide +kernel
theorem lX10_139 : zall [.methodLink RX10 139 yX10_row, .instanceMethod yX10_row, .selects (yX10_row).cls yX10_row yX10_row, .initialized (yX10_row).cls] = true := by decide +kernel
theorem lX10_143 : zall [.methodLink RX10 143 yX4_change, .instanceMethod yX4_change, .selects (yX4_change).cls yX4_change yX4_change, .initialized (yX4_change).cls] = true := by decide +kernel
theorem lX10_146 : zall [.methodLink RX10 146 yX5_begin, .instanceMethod yX5_begin, .selects (yX5_begin).cls yX5_begin yX5_begin, .initialized (yX5_begin).cls] = true := by decide +kernel
-- later: PpmTrees 149 virtual ('PpmTrees$Writer', 'begin', '()V')
theorem lX10_150 : zall [.methodLink RX10 150 yX10_write, .instanceMethod yX10_write, .selects (yX10_write).cls yX10_write yX10_write, .initialized (yX10_write).cls] = true := by decide +kernel
theorem lX10_153 : zall [.methodLink RX10 153 yX8_lowestToLearn, .instanceMethod yX8_lowestToLearn, .selects (yX8_lowestToLearn).cls yX8_lowestToLearn yX8_lowestToLearn, .initialized (yX8_lowestToLearn).cls] = true := by decide +kernel
theorem lX10_156 : zall [.methodLink RX10 156 yX3_learn, .instanceMethod yX3_learn, .selects (yX3_learn).cls yX3_learn yX3_learn, .initialized (yX3_learn).cls] = true := by decide +kernel
theorem lX10_160 : zall [.methodLink RX10 160 yX5_noteRestart, .instanceMethod yX5_noteRestart, .selects (yX5_noteRestart).cls yX5_noteRestart yX5_noteRestart, .initialized (yX5_noteRestart).cls] = true := by decide +kernel
-- later: PpmTrees 163 virtual ('PpmTrees$Writer', 'finish', '()V')
-- later: PpmTrees 166 virtual ('PpmTrees$Writer', 'bits', '()I')
theorem lX10_169 : zall [.methodLink RX10 169 yX5_noteBits, .instanceMethod yX5_noteBits, .selects (yX5_noteBits).cls yX5_noteBits yX5_noteBits, .initialized (yX5_noteBits).cls] = true := by decide +kernel
theorem lX10_175 : zall [.methodLink RX10 175 yX5_restarts, .instanceMethod yX5_restarts, .selects (yX5_restarts).cls yX5_restarts yX5_restarts, .initialized (yX5_restarts).cls] = true := by decide +kernel
theorem lX10_178 : zall [.methodLink RX10 178 yX9_want, .instanceMethod yX9_want, .selects (yX9_want).cls yX9_want yX9_want, .initialized (yX9_want).cls] = true := by decide +kernel
theorem lX10_181 : zall [.methodLink RX10 181 yX8_tell, .instanceMethod yX8_tell, .selects (yX8_tell).cls yX8_tell yX8_tell, .initialized (yX8_tell).cls] = true := by decide +kernel
theorem lX10_185 : zall [.methodLink RX10 185 yX5_noteSign, .instanceMethod yX5_noteSign, .selects (yX5_noteSign).cls yX5_noteSign yX5_noteSign, .initialized (yX5_noteSign).cls] = true := by decide +kernel
theorem lX10_189 : zall [.methodLink RX10 189 yX3_become, .instanceMethod yX3_become, .selects (yX3_become).cls yX3_become yX3_become, .initialized (yX3_become).cls] = true := by decide +kernel
theorem lX10_196 : zall [.methodLink RX10 196 yX6_begin, .instanceMethod yX6_begin, .selects (yX6_begin).cls yX6_begin yX6_begin, .initialized (yX6_begin).cls] = true := by decide +kernel
theorem lX10_197 : zall [.methodLink RX10 197 yX10_read, .instanceMethod yX10_read, .selects (yX10_read).cls yX10_read yX10_read, .initialized (yX10_read).cls] = true := by decide +kernel
theorem lX10_200 : zall [.methodLink RX10 200 yX6_firstDifference, .instanceMethod yX6_firstDifference, .selects (yX6_firstDifference).cls yX6_firstDifference yX6_firstDifference, .initialized (yX6_firstDifference).cls] = true := by decide +kernel
theorem lX10_203 : zall [.methodLink RX10 203 yX10_takeTrial, .instanceMethod yX10_takeTrial, .selects (yX10_takeTrial).cls yX10_takeTrial yX10_takeTrial, .initialized (yX10_takeTrial).cls] = true := by decide +kernel
theorem lX10_206 : zall [.methodLink RX10 206 yX6_takenBehind, .instanceMethod yX6_takenBehind, .selects (yX6_takenBehind).cls yX6_takenBehind yX6_takenBehind, .initialized (yX6_takenBehind).cls] = true := by decide +kernel
-- later: PpmTrees 209 virtual ('PpmTrees$Reader', 'finish', '()V')
theorem lX10_213 : zall [.methodLink RX10 213 yX5_signs, .instanceMethod yX5_signs, .selects (yX5_signs).cls yX5_signs yX5_signs, .initialized (yX5_signs).cls] = true := by decide +kernel
theorem lX10_216 : zall [.methodLink RX10 216 yX5_bits, .instanceMethod yX5_bits, .selects (yX5_bits).cls yX5_bits yX5_bits, .initialized (yX5_bits).cls] = true := by decide +kernel
theorem lX10_217 : zall [.methodLink RX10 217 yX5_escapes, .instanceMethod yX5_escapes, .selects (yX5_escapes).cls yX5_escapes yX5_escapes, .initialized (yX5_escapes).cls] = true := by decide +kernel
theorem lX10_220 : zall [.methodLink RX10 220 yX5_excludedOf, .instanceMethod yX5_excludedOf, .selects (yX5_excludedOf).cls yX5_excludedOf yX5_excludedOf, .initialized (yX5_excludedOf).cls] = true := by decide +kernel
theorem lX10_223 : zall [.methodLink RX10 223 yX5_contextOf, .instanceMethod yX5_contextOf, .selects (yX5_contextOf).cls yX5_contextOf yX5_contextOf, .initialized (yX5_contextOf).cls] = true := by decide +kernel
theorem lX10_226 : zall [.methodLink RX10 226 yX10_isEnd, .static yX10_isEnd, .initialized (yX10_isEnd).cls] = true := by decide +kernel
theorem lX10_229 : zall [.methodLink RX10 229 yX10_model, .instanceMethod yX10_model, .selects (yX10_model).cls yX10_model yX10_model, .initialized (yX10_model).cls] = true := by decide +kernel
theorem lX10_233 : zall [.methodLink RX10 233 yX3_nodeMany, .instanceMethod yX3_nodeMany, .selects (yX3_nodeMany).cls yX3_nodeMany yX3_nodeMany, .initialized (yX3_nodeMany).cls] = true := by decide +kernel
theorem lX10_240 : zall [.methodLink RX10 240 yJx00060_init_a7421, .instanceMethod yJx00060_init_a7421, .initialized (yJx00060_init_a7421).cls] = true := by decide +kernel
theorem lX10_243 : zall [.methodLink RX10 243 yX3_parentOf, .instanceMethod yX3_parentOf, .selects (yX3_parentOf).cls yX3_parentOf yX3_parentOf, .initialized (yX3_parentOf).cls] = true := by decide +kernel
theorem lX10_246 : zall [.methodLink RX10 246 yX3_byteOf, .instanceMethod yX3_byteOf, .selects (yX3_byteOf).cls yX3_byteOf yX3_byteOf, .initialized (yX3_byteOf).cls] = true := by decide +kernel
theorem lX10_249 : zall [.methodLink RX10 249 yX3_countOf, .instanceMethod yX3_countOf, .selects (yX3_countOf).cls yX3_countOf yX3_countOf, .initialized (yX3_countOf).cls] = true := by decide +kernel
theorem lX10_252 : zall [.methodLink RX10 252 yX3_stepsTo, .instanceMethod yX3_stepsTo, .selects (yX3_stepsTo).cls yX3_stepsTo yX3_stepsTo, .initialized (yX3_stepsTo).cls] = true := by decide +kernel
theorem lX10_255 : zall [.methodLink RX10 255 yX3_latestMany, .instanceMethod yX3_latestMany, .selects (yX3_latestMany).cls yX3_latestMany yX3_latestMany, .initialized (yX3_latestMany).cls] = true := by decide +kernel
theorem lX10_258 : zall [.methodLink RX10 258 yX3_latestByte, .instanceMethod yX3_latestByte, .selects (yX3_latestByte).cls yX3_latestByte yX3_latestByte, .initialized (yX3_latestByte).cls] = true := by decide +kernel
theorem lX10_261 : zall [.methodLink RX10 261 yX3_begin, .instanceMethod yX3_begin, .selects (yX3_begin).cls yX3_begin yX3_begin, .initialized (yX3_begin).cls] = true := by decide +kernel
theorem lX10_262 : zall [.methodLink RX10 262 yX3_isLike, .instanceMethod yX3_isLike, .selects (yX3_isLike).cls yX3_isLike yX3_isLike, .initialized (yX3_isLike).cls] = true := by decide +kernel
theorem lX10_269 : zall [.methodLink RX10 269 yJx4a65c_size_8abf5, .instanceMethod yJx4a65c_size_8abf5, .selects (yJx4a65c_size_8abf5).cls yJx4a65c_size_8abf5 yJx4a65c_size_8abf5, .initialized (yJx4a65c_size_8abf5).cls] = true := by decide +kernel
theorem lX10_272 : zall [.methodLink RX10 272 yJx4a65c_add_9ea2d, .instanceMethod yJx4a65c_add_9ea2d, .selects (yJx4a65c_add_9ea2d).cls yJx4a65c_add_9ea2d yJx4a65c_add_9ea2d, .initialized (yJx4a65c_add_9ea2d).cls] = true := by decide +kernel
theorem lX10_276 : zall [.methodLink RX10 276 yJx4a65c_get_915e3, .instanceMethod yJx4a65c_get_915e3, .selects (yJx4a65c_get_915e3).cls yJx4a65c_get_915e3 yJx4a65c_get_915e3, .initialized (yJx4a65c_get_915e3).cls] = true := by decide +kernel
theorem lX10_280 : zall [.methodLink RX10 280 yX2_begin, .instanceMethod yX2_begin, .selects (yX2_begin).cls yX2_begin yX2_begin, .initialized (yX2_begin).cls] = true := by decide +kernel
theorem lX10_282 : zall [.methodLink RX10 282 yX2_sum, .instanceMethod yX2_sum, .selects (yX2_sum).cls yX2_sum yX2_sum, .initialized (yX2_sum).cls] = true := by decide +kernel
theorem lX11_1 : zall [.methodLink RX11 1 objectInit, .instanceMethod objectInit] = true := by decide +kernel
theorem lX11_78 : zall [.methodLink RX11 78 yX11_begin, .instanceMethod yX11_begin, .selects (yX11_begin).cls yX11_begin yX11_begin, .initialized (yX11_begin).cls] = true := by decide +kernel
theorem lX11_88 : zall [.methodLink RX11 88 yX11_in, .static yX11_in, .initialized (yX11_in).cls] = true := by decide +kernel
theorem lX11_99 : zall [.methodLink RX11 99 yX11_child, .instanceMethod yX11_child, .selects (yX11_child).cls yX11_child yX11_child, .initialized (yX11_child).cls] = true := by decide +kernel
theorem lX11_106 : zall [.methodLink RX11 106 yX11_context, .instanceMethod yX11_context, .selects (yX11_context).cls yX11_context yX11_context, .initialized (yX11_context).cls] = true := by decide +kernel
theorem lX11_119 : zall [.methodLink RX11 119 yX11_below, .instanceMethod yX11_below, .selects (yX11_below).cls yX11_below yX11_below, .initialized (yX11_below).cls] = true := by decide +kernel
theorem lX11_133 : zall [.methodLink RX11 133 yX11_halve, .instanceMethod yX11_halve, .selects (yX11_halve).cls yX11_halve yX11_halve, .initialized (yX11_halve).cls] = true := by decide +kernel
theorem lX11_140 : zall [.methodLink RX11 140 yX11_bit, .instanceMethod yX11_bit, .selects (yX11_bit).cls yX11_bit yX11_bit, .initialized (yX11_bit).cls] = true := by decide +kernel
theorem lX11_152 : zall [.methodLink RX11 152 yX11_narrow, .instanceMethod yX11_narrow, .selects (yX11_narrow).cls yX11_narrow yX11_narrow, .initialized (yX11_narrow).cls] = true := by decide +kernel
theorem lX11_156 : zall [.methodLink RX11 156 yX11_put, .instanceMethod yX11_put, .selects (yX11_put).cls yX11_put yX11_put, .initialized (yX11_put).cls] = true := by decide +kernel
theorem lX11_167 : zall [.methodLink RX11 167 yX11_beginSign, .instanceMethod yX11_beginSign, .selects (yX11_beginSign).cls yX11_beginSign yX11_beginSign, .initialized (yX11_beginSign).cls] = true := by decide +kernel
theorem lX11_170 : zall [.methodLink RX11 170 yX11_look, .instanceMethod yX11_look, .selects (yX11_look).cls yX11_look yX11_look, .initialized (yX11_look).cls] = true := by decide +kernel
theorem lX11_173 : zall [.methodLink RX11 173 yX11_isFound, .instanceMethod yX11_isFound, .selects (yX11_isFound).cls yX11_isFound yX11_isFound, .initialized (yX11_isFound).cls] = true := by decide +kernel
theorem lX11_177 : zall [.methodLink RX11 177 yX11_exclude, .instanceMethod yX11_exclude, .selects (yX11_exclude).cls yX11_exclude yX11_exclude, .initialized (yX11_exclude).cls] = true := by decide +kernel
theorem lX11_180 : zall [.methodLink RX11 180 yX11_write, .instanceMethod yX11_write, .selects (yX11_write).cls yX11_write yX11_write, .initialized (yX11_write).cls] = true := by decide +kernel
theorem lX11_183 : zall [.methodLink RX11 183 yX11_flat, .instanceMethod yX11_flat, .selects (yX11_flat).cls yX11_flat yX11_flat, .initialized (yX11_flat).cls] = true := by decide +kernel
theorem lX11_186 : zall [.methodLink RX11 186 yX11_learn, .instanceMethod yX11_learn, .selects (yX11_learn).cls yX11_learn yX11_learn, .initialized (yX11_learn).cls] = true := by decide +kernel
theorem lX11_190 : zall [.methodLink RX11 190 yX11_writeAll, .instanceMethod yX11_writeAll, .selects (yX11_writeAll).cls yX11_writeAll yX11_writeAll, .initialized (yX11_writeAll).cls] = true := by decide +kernel
theorem lX11_206 : zall [.methodLink RX11 206 yX11_next, .instanceMethod yX11_next, .selects (yX11_next).cls yX11_next yX11_next, .initialized (yX11_next).cls] = true := by decide +kernel
theorem lX11_210 : zall [.methodLink RX11 210 yX11_asked, .instanceMethod yX11_asked, .selects (yX11_asked).cls yX11_asked yX11_asked, .initialized (yX11_asked).cls] = true := by decide +kernel
theorem lX11_213 : zall [.methodLink RX11 213 yX11_read, .instanceMethod yX11_read, .selects (yX11_read).cls yX11_read yX11_read, .initialized (yX11_read).cls] = true := by decide +kernel
theorem lX11_219 : zall [.methodLink RX11 219 yX11_copy, .instanceMethod yX11_copy, .selects (yX11_copy).cls yX11_copy yX11_copy, .initialized (yX11_copy).cls] = true := by decide +kernel
theorem lX11_225 : zall [.methodLink RX11 225 yX11_readSign, .instanceMethod yX11_readSign, .selects (yX11_readSign).cls yX11_readSign yX11_readSign, .initialized (yX11_readSign).cls] = true := by decide +kernel
theorem lX11_231 : zall [.methodLink RX11 231 yX11_bitsOf, .instanceMethod yX11_bitsOf, .selects (yX11_bitsOf).cls yX11_bitsOf yX11_bitsOf, .initialized (yX11_bitsOf).cls] = true := by decide +kernel
theorem lL_7 : zall [.methodLink RL 7 yX10_node, .instanceMethod yX10_node, .selects (yX10_node).cls yX10_node yX10_node, .initialized (yX10_node).cls] = true := by decide +kernel
theorem lL_15 : zall [.methodLink RL 15 yL_cell, .static yL_cell, .initialized (yL_cell).cls] = true := by decide +kernel
theorem lL_21 : zall [.methodLink RL 21 yX10_init, .instanceMethod yX10_init, .initialized (yX10_init).cls] = true := by decide +kernel
theorem lL_26 : zall [.methodLink RL 26 yX11_init, .instanceMethod yX11_init, .initialized (yX11_init).cls] = true := by decide +kernel
theorem lL_27 : zall [.methodLink RL 27 yX10_clear, .instanceMethod yX10_clear, .selects (yX10_clear).cls yX10_clear yX10_clear, .initialized (yX10_clear).cls] = true := by decide +kernel
theorem lL_31 : zall [.methodLink RL 31 yX11_clear, .instanceMethod yX11_clear, .selects (yX11_clear).cls yX11_clear yX11_clear, .initialized (yX11_clear).cls] = true := by decide +kernel
theorem lL_32 : zall [.methodLink RL 32 yX10_add, .instanceMethod yX10_add, .selects (yX10_add).cls yX10_add yX10_add, .initialized (yX10_add).cls] = true := by decide +kernel
theorem lL_36 : zall [.methodLink RL 36 yX11_add, .instanceMethod yX11_add, .selects (yX11_add).cls yX11_add yX11_add, .initialized (yX11_add).cls] = true := by decide +kernel
theorem lL_37 : zall [.methodLink RL 37 yX10_fill, .instanceMethod yX10_fill, .selects (yX10_fill).cls yX10_fill yX10_fill, .initialized (yX10_fill).cls] = true := by decide +kernel
theorem lL_40 : zall [.methodLink RL 40 yX11_fill, .instanceMethod yX11_fill, .selects (yX11_fill).cls yX11_fill yX11_fill, .initialized (yX11_fill).cls] = true := by decide +kernel
theorem lL_41 : zall [.methodLink RL 41 yX10_size, .instanceMethod yX10_size, .selects (yX10_size).cls yX10_size yX10_size, .initialized (yX10_size).cls] = true := by decide +kernel
theorem lL_44 : zall [.methodLink RL 44 yX11_size, .instanceMethod yX11_size, .selects (yX11_size).cls yX11_size yX11_size, .initialized (yX11_size).cls] = true := by decide +kernel
theorem lL_45 : zall [.methodLink RL 45 yX10_octet, .instanceMethod yX10_octet, .selects (yX10_octet).cls yX10_octet yX10_octet, .initialized (yX10_octet).cls] = true := by decide +kernel
theorem lL_49 : zall [.methodLink RL 49 yX11_octet, .instanceMethod yX11_octet, .selects (yX11_octet).cls yX11_octet yX11_octet, .initialized (yX11_octet).cls] = true := by decide +kernel
theorem lL_50 : zall [.methodLink RL 50 yX10_alter, .instanceMethod yX10_alter, .selects (yX10_alter).cls yX10_alter yX10_alter, .initialized (yX10_alter).cls] = true := by decide +kernel
theorem lL_53 : zall [.methodLink RL 53 yX11_alter, .instanceMethod yX11_alter, .selects (yX11_alter).cls yX11_alter yX11_alter, .initialized (yX11_alter).cls] = true := by decide +kernel
theorem lL_54 : zall [.methodLink RL 54 yX10_cut, .instanceMethod yX10_cut, .selects (yX10_cut).cls yX10_cut yX10_cut, .initialized (yX10_cut).cls] = true := by decide +kernel
theorem lL_57 : zall [.methodLink RL 57 yX11_cut, .instanceMethod yX11_cut, .selects (yX11_cut).cls yX11_cut yX11_cut, .initialized (yX11_cut).cls] = true := by decide +kernel
theorem lL_58 : zall [.methodLink RL 58 yX10_pack, .instanceMethod yX10_pack, .selects (yX10_pack).cls yX10_pack yX10_pack, .initialized (yX10_pack).cls] = true := by decide +kernel
theorem lL_61 : zall [.methodLink RL 61 yX11_pack, .instanceMethod yX11_pack, .selects (yX11_pack).cls yX11_pack yX11_pack, .initialized (yX11_pack).cls] = true := by decide +kernel
theorem lL_62 : zall [.methodLink RL 62 yX10_open, .instanceMethod yX10_open, .selects (yX10_open).cls yX10_open yX10_open, .initialized (yX10_open).cls] = true := by decide +kernel
theorem lL_65 : zall [.methodLink RL 65 yX11_open, .instanceMethod yX11_open, .selects (yX11_open).cls yX11_open yX11_open, .initialized (yX11_open).cls] = true := by decide +kernel
theorem lL_66 : zall [.methodLink RL 66 yX10_place, .instanceMethod yX10_place, .selects (yX10_place).cls yX10_place yX10_place, .initialized (yX10_place).cls] = true := by decide +kernel
theorem lL_69 : zall [.methodLink RL 69 yX11_place, .instanceMethod yX11_place, .selects (yX11_place).cls yX11_place yX11_place, .initialized (yX11_place).cls] = true := by decide +kernel
theorem lL_70 : zall [.methodLink RL 70 yX10_told, .instanceMethod yX10_told, .selects (yX10_told).cls yX10_told yX10_told, .initialized (yX10_told).cls] = true := by decide +kernel
theorem lL_73 : zall [.methodLink RL 73 yX11_told, .instanceMethod yX11_told, .selects (yX11_told).cls yX11_told yX11_told, .initialized (yX11_told).cls] = true := by decide +kernel
theorem lL_74 : zall [.methodLink RL 74 yX10_sign, .instanceMethod yX10_sign, .selects (yX10_sign).cls yX10_sign yX10_sign, .initialized (yX10_sign).cls] = true := by decide +kernel
theorem lL_77 : zall [.methodLink RL 77 yX11_sign, .instanceMethod yX11_sign, .selects (yX11_sign).cls yX11_sign yX11_sign, .initialized (yX11_sign).cls] = true := by decide +kernel
theorem lL_78 : zall [.methodLink RL 78 yX10_nodes, .instanceMethod yX10_nodes, .selects (yX10_nodes).cls yX10_nodes yX10_nodes, .initialized (yX10_nodes).cls] = true := by decide +kernel
theorem lL_81 : zall [.methodLink RL 81 yX11_nodes, .instanceMethod yX11_nodes, .selects (yX11_nodes).cls yX11_nodes yX11_nodes, .initialized (yX11_nodes).cls] = true := by decide +kernel
theorem lL_82 : zall [.methodLink RL 82 yL_node, .static yL_node, .initialized (yL_node).cls] = true := by decide +kernel
theorem lL_85 : zall [.methodLink RL 85 yX11_node, .instanceMethod yX11_node, .selects (yX11_node).cls yX11_node yX11_node, .initialized (yX11_node).cls] = true := by decide +kernel
theorem lL_86 : zall [.methodLink RL 86 yX11_thrown, .instanceMethod yX11_thrown, .selects (yX11_thrown).cls yX11_thrown yX11_thrown, .initialized (yX11_thrown).cls] = true := by decide +kernel
theorem lL_89 : zall [.methodLink RL 89 yX10_latest, .instanceMethod yX10_latest, .selects (yX10_latest).cls yX10_latest yX10_latest, .initialized (yX10_latest).cls] = true := by decide +kernel
theorem lL_92 : zall [.methodLink RL 92 yX11_latest, .instanceMethod yX11_latest, .selects (yX11_latest).cls yX11_latest yX11_latest, .initialized (yX11_latest).cls] = true := by decide +kernel
theorem lL_93 : zall [.methodLink RL 93 yX10_restarted, .instanceMethod yX10_restarted, .selects (yX10_restarted).cls yX10_restarted yX10_restarted, .initialized (yX10_restarted).cls] = true := by decide +kernel
theorem lL_96 : zall [.methodLink RL 96 yX11_restarted, .instanceMethod yX11_restarted, .selects (yX11_restarted).cls yX11_restarted yX11_restarted, .initialized (yX11_restarted).cls] = true := by decide +kernel
theorem lL_97 : zall [.methodLink RL 97 yX10_reset, .instanceMethod yX10_reset, .selects (yX10_reset).cls yX10_reset yX10_reset, .initialized (yX10_reset).cls] = true := by decide +kernel
theorem lL_100 : zall [.methodLink RL 100 yX11_reset, .instanceMethod yX11_reset, .selects (yX11_reset).cls yX11_reset yX11_reset, .initialized (yX11_reset).cls] = true := by decide +kernel
theorem lL_101 : zall [.methodLink RL 101 yX10_equal, .instanceMethod yX10_equal, .selects (yX10_equal).cls yX10_equal yX10_equal, .initialized (yX10_equal).cls] = true := by decide +kernel
theorem lL_104 : zall [.methodLink RL 104 yX11_equal, .instanceMethod yX11_equal, .selects (yX11_equal).cls yX11_equal yX11_equal, .initialized (yX11_equal).cls] = true := by decide +kernel
theorem lL_105 : zall [.methodLink RL 105 yX10_save, .instanceMethod yX10_save, .selects (yX10_save).cls yX10_save yX10_save, .initialized (yX10_save).cls] = true := by decide +kernel
theorem lL_108 : zall [.methodLink RL 108 yX11_save, .instanceMethod yX11_save, .selects (yX11_save).cls yX11_save yX11_save, .initialized (yX11_save).cls] = true := by decide +kernel
theorem lL_109 : zall [.methodLink RL 109 yX10_restore, .instanceMethod yX10_restore, .selects (yX10_restore).cls yX10_restore yX10_restore, .initialized (yX10_restore).cls] = true := by decide +kernel
theorem lL_112 : zall [.methodLink RL 112 yX11_restore, .instanceMethod yX11_restore, .selects (yX11_restore).cls yX11_restore yX11_restore, .initialized (yX11_restore).cls] = true := by decide +kernel
theorem lL_113 : zall [.methodLink RL 113 yX10_forget, .instanceMethod yX10_forget, .selects (yX10_forget).cls yX10_forget yX10_forget, .initialized (yX10_forget).cls] = true := by decide +kernel
theorem lL_116 : zall [.methodLink RL 116 yX11_forget, .instanceMethod yX11_forget, .selects (yX11_forget).cls yX11_forget yX11_forget, .initialized (yX11_forget).cls] = true := by decide +kernel
theorem lL_117 : zall [.methodLink RL 117 yX10_cost, .instanceMethod yX10_cost, .selects (yX10_cost).cls yX10_cost yX10_cost, .initialized (yX10_cost).cls] = true := by decide +kernel
theorem lL_120 : zall [.methodLink RL 120 yX11_cost, .instanceMethod yX11_cost, .selects (yX11_cost).cls yX11_cost yX11_cost, .initialized (yX11_cost).cls] = true := by decide +kernel
theorem nwL_8 : znOk ⟨RL, "", ""⟩ (8, 10, [.int 0, .int 0, .null, .null, .null, .null, .null, .null, .null, .int 0, .int 0, .int 0, .null, .int 0, .null, .null, .null, .null, .null, .int 0]) = true := by decide +kernel
theorem nwX10_9 : znOk ⟨RX10, "", ""⟩ (9, 5, [.null, .int 0]) = true := by decide +kernel
theorem nwX10_27 : znOk ⟨RX10, "", ""⟩ (27, 1, [.int 0, .null, .int 0]) = true := by decide +kernel
theorem nwX10_34 : znOk ⟨RX10, "", ""⟩ (34, 8, [.null, .null, .int 0, .int 0, .int 0, .int 0]) = true := by decide +kernel
theorem nwX8_9 : znOk ⟨RX8, "", ""⟩ (9, 2, [.null, .null, .int 0]) = true := by decide +kernel
theorem nwX10_41 : znOk ⟨RX10, "", ""⟩ (41, 3, [.int 0, .int 0]) = true := by decide +kernel
theorem nwX10_48 : znOk ⟨RX10, "", ""⟩ (48, 6, [.null, .null, .int 0, .int 0, .int 0, .int 0]) = true := by decide +kernel
theorem nwX10_74 : znOk ⟨RX10, "", ""⟩ (74, 4, [.int 0, .int 0, .null, .null, .null, .null, .null, .int 0, .null, .int 0, .null]) = true := by decide +kernel
theorem nwX10_89 : znOk ⟨RX10, "", ""⟩ (89, 9, [.null, .int 0, .int 0, .int 0, .int 0, .int 0]) = true := by decide +kernel
theorem nwX10_98 : znOk ⟨RX10, "", ""⟩ (98, 7, [.null, .int 0, .int 0, .int 0, .int 0, .null, .int 0, .int 0]) = true := by decide +kernel
theorem nwL_13 : znOk ⟨RL, "", ""⟩ (13, 0, [.null, .null, .null, .null, .null, .int 0]) = true := by decide +kernel
theorem nwX10_236 : znOk ⟨RX10, "", ""⟩ (236, 0, [.null, .null, .null, .null, .null, .int 0]) = true := by decide +kernel
theorem nwL_24 : znOk ⟨RL, "", ""⟩ (24, 11, [.int 0, .int 0, .int 0, .int 0, .null, .int 0, .null, .int 0, .null, .null, .null, .null, .null, .null, .null, .null, .int 0, .null, .int 0, .null, .int 0, .int 0, .int 0, .int 0, .int 0, .int 0, .int 0, .int 0, .int 0, .int 0, .null, .int 0, .int 0, .null, .null, .int 0, .null, .int 0, .null, .null, .int 0, .int 0, .int 0, .int 0, .null, .int 0]) = true := by decide +kernel
theorem coX10_121 : Cond.constant RX10 121 (1103515245) ∈ zT := zall_spec (ws := [.constant RX10 121 (1103515245)]) (by decide +kernel) _ (by simp)
theorem coX1_28 : Cond.constant RX1 28 (65535) ∈ zT := zall_spec (ws := [.constant RX1 28 (65535)]) (by decide +kernel) _ (by simp)
theorem coX1_42 : Cond.constant RX1 42 (32768) ∈ zT := zall_spec (ws := [.constant RX1 42 (32768)]) (by decide +kernel) _ (by simp)
theorem coX1_49 : Cond.constant RX1 49 (49152) ∈ zT := zall_spec (ws := [.constant RX1 49 (49152)]) (by decide +kernel) _ (by simp)
theorem coJ8_200 : Cond.constant RJ8 200 (2147483639) ∈ zT := zall_spec (ws := [.constant RJ8 200 (2147483639)]) (by decide +kernel) _ (by simp)
theorem coX11_92 : Cond.constant RX11 92 (1103515245) ∈ zT := zall_spec (ws := [.constant RX11 92 (1103515245)]) (by decide +kernel) _ (by simp)
theorem coX11_160 : Cond.constant RX11 160 (65535) ∈ zT := zall_spec (ws := [.constant RX11 160 (65535)]) (by decide +kernel) _ (by simp)
theorem coX11_155 : Cond.constant RX11 155 (32768) ∈ zT := zall_spec (ws := [.constant RX11 155 (32768)]) (by decide +kernel) _ (by simp)
theorem coX11_159 : Cond.constant RX11 159 (49152) ∈ zT := zall_spec (ws := [.constant RX11 159 (49152)]) (by decide +kernel) _ (by simp)
