def wsL_law0_r1 : List Cond := [Cond.classLink RL 8 RX6, Cond.instantiable RX6 5, Cond.initialized RX6, Cond.classLink RL 54 RX7, Cond.instantiable RX7 24, Cond.initialized RX7, Cond.arrayClass .long, Cond.constantLong RL 103 (4294967295), Cond.methodLink RL 53 yX6_init, Cond.instanceMethod yX6_init, Cond.code yX6_init cX6_init 2 none, Cond.methodLink RX6 1 objectInit, Cond.instanceMethod objectInit, Cond.code objectInit ⟨#[0xb1]⟩ 1 none, Cond.classLink RX6 9 RX5, Cond.fieldLink RX6 11 "DriftLog" "tracks" "[LDriftLog$Track;", Cond.classLink RX6 15 RX4, Cond.instantiable RX4 1, Cond.initialized RX4, Cond.fieldLink RX6 18 "DriftLog" "thinner" "LDriftLog$Thinner;", Cond.classLink RX6 22 RX0, Cond.instantiable RX0 2, Cond.initialized RX0, Cond.fieldLink RX6 25 "DriftLog" "log" "LDriftLog$ByteRow;"]
def wsL_law0_r2 : List Cond := [Cond.classLink RX6 29 RX1, Cond.instantiable RX1 3, Cond.initialized RX1, Cond.fieldLink RX6 32 "DriftLog" "reader" "LDriftLog$Reader;", Cond.classLink RX6 36 RX3, Cond.instantiable RX3 9, Cond.initialized RX3, Cond.fieldLink RX6 39 "DriftLog" "found" "LDriftLog$SpanRow;", Cond.instantiable RX5 3, Cond.initialized RX5, Cond.instanceMethod yX4_init, Cond.code yX4_init cX4_init 1 none, Cond.methodLink RX4 3 objectInit, Cond.arrayClass .int, Cond.fieldLink RX4 9 "DriftLog$Thinner" "steps" "[I", Cond.instanceMethod yX0_init, Cond.code yX0_init cX0_init 1 none, Cond.methodLink RX0 3 objectInit, Cond.fieldLink RX0 9 "DriftLog$ByteRow" "data" "[I", Cond.instanceMethod yX1_init, Cond.code yX1_init cX1_init 1 none, Cond.methodLink RX1 3 objectInit, Cond.classLink RX1 9 RX2, Cond.instantiable RX2 4]
def wsL_law0_r3 : List Cond := [Cond.initialized RX2, Cond.fieldLink RX1 12 "DriftLog$Reader" "row" "LDriftLog$Row;", Cond.instanceMethod yX2_init, Cond.code yX2_init cX2_init 1 none, Cond.methodLink RX2 3 objectInit, Cond.fieldLink RX2 9 "DriftLog$Row" "times" "[I", Cond.fieldLink RX2 15 "DriftLog$Row" "xs" "[I", Cond.fieldLink RX2 18 "DriftLog$Row" "ys" "[I", Cond.instanceMethod yX3_init, Cond.code yX3_init cX3_init 1 none, Cond.methodLink RX3 3 objectInit, Cond.fieldLink RX3 9 "DriftLog$SpanRow" "beginFirsts" "[J", Cond.fieldLink RX3 15 "DriftLog$SpanRow" "beginSeconds" "[J", Cond.fieldLink RX3 18 "DriftLog$SpanRow" "endFirsts" "[J", Cond.fieldLink RX3 21 "DriftLog$SpanRow" "endSeconds" "[J", Cond.instanceMethod yX5_init, Cond.code yX5_init cX5_init 1 none, Cond.methodLink RX5 3 objectInit, Cond.classLink RX5 9 RX2, Cond.fieldLink RX5 12 "DriftLog$Track" "row" "LDriftLog$Row;", Cond.fieldLink RX5 18 "DriftLog$Track" "state" "I", Cond.fieldLink RX5 22 "DriftLog$Track" "bound" "I", Cond.methodLink RL 56 yX7_init, Cond.instanceMethod yX7_init]
def wsL_law0_r4 : List Cond := [Cond.code yX7_init cX7_init 1 none, Cond.methodLink RX7 1 objectInit, Cond.fieldLink RX7 7 "DriftLogModel" "state" "[I", Cond.fieldLink RX7 13 "DriftLogModel" "many" "[I", Cond.fieldLink RX7 16 "DriftLogModel" "bound" "[I", Cond.fieldLink RX7 19 "DriftLogModel" "time" "[I", Cond.fieldLink RX7 22 "DriftLogModel" "px" "[I", Cond.fieldLink RX7 25 "DriftLogModel" "py" "[I", Cond.fieldLink RX7 28 "DriftLogModel" "least" "[I", Cond.fieldLink RX7 31 "DriftLogModel" "row" "[I", Cond.fieldLink RX7 34 "DriftLogModel" "readTime" "[I", Cond.fieldLink RX7 37 "DriftLogModel" "readX" "[I", Cond.fieldLink RX7 40 "DriftLogModel" "readY" "[I", Cond.fieldLink RX7 43 "DriftLogModel" "from" "[J", Cond.fieldLink RX7 47 "DriftLogModel" "fromBy" "[J", Cond.fieldLink RX7 50 "DriftLogModel" "until" "[J", Cond.fieldLink RX7 53 "DriftLogModel" "untilBy" "[J", Cond.methodLink RL 57 yL_open, Cond.static yL_open, Cond.initialized RL, Cond.codeWith yL_open cL_open 3 (some .int) [(0, 5, 8, 13), (0, 5, 11, 15)], Cond.classLink RL 13 "java/lang/IndexOutOfBoundsException", Cond.classLink RL 15 "java/lang/IllegalStateException", Cond.methodLink RL 7 yX6_open]
def wsL_law0_r5 : List Cond := [Cond.instanceMethod yX6_open, Cond.selects RX6 yX6_open yX6_open, Cond.code yX6_open cX6_open 3 none, Cond.fieldLink RX6 48 "DriftLog$Track" "state" "I", Cond.methodLink RX6 44 yX6_trackIn, Cond.instanceMethod yX6_trackIn, Cond.selects RX6 yX6_trackIn yX6_trackIn, Cond.code yX6_trackIn cX6_trackIn 4 (some (.object "DriftLog$Track")), Cond.classLink RX6 61 "java/lang/IllegalStateException", Cond.initialized "java/lang/IllegalStateException", Cond.methodLink RX6 113 yX6_trackAt, Cond.instanceMethod yX6_trackAt, Cond.selects RX6 yX6_trackAt yX6_trackAt, Cond.code yX6_trackAt cX6_trackAt 2 (some (.object "DriftLog$Track")), Cond.classLink RX6 117 "java/lang/IndexOutOfBoundsException", Cond.initialized "java/lang/IndexOutOfBoundsException", Cond.methodLink RX6 110 yX6_isTrack, Cond.static yX6_isTrack, Cond.code yX6_isTrack cX6_isTrack 1 (some .boolean), Cond.methodLink RL 62 yX7_open, Cond.instanceMethod yX7_open, Cond.selects RX7 yX7_open yX7_open, Cond.code yX7_open cX7_open 2 none, Cond.fieldLink RX7 56 "DriftLogModel" "thrown" "I"]
def wsL_law0_r6 : List Cond := [Cond.methodLink RX7 60 yX7_isTrack, Cond.static yX7_isTrack, Cond.code yX7_isTrack cX7_isTrack 1 (some .boolean), Cond.methodLink RX7 64 yX7_is, Cond.instanceMethod yX7_is, Cond.selects RX7 yX7_is yX7_is, Cond.code yX7_is cX7_is 3 (some .boolean), Cond.methodLink RL 63 yX7_thrown, Cond.instanceMethod yX7_thrown, Cond.selects RX7 yX7_thrown yX7_thrown, Cond.code yX7_thrown cX7_thrown 1 (some .int), Cond.methodLink RL 67 yL_add, Cond.static yL_add, Cond.codeWith yL_add cL_add 7 (some .int) [(0, 14, 17, 13), (0, 14, 21, 15), (0, 14, 25, 21)], Cond.classLink RL 21 "java/lang/IllegalArgumentException", Cond.methodLink RL 17 yX6_add, Cond.instanceMethod yX6_add, Cond.selects RX6 yX6_add yX6_add, Cond.code yX6_add cX6_add 6 (some .int), Cond.classLink RX6 73 "java/lang/IllegalArgumentException", Cond.initialized "java/lang/IllegalArgumentException", Cond.fieldLink RX6 52 "DriftLog$Track" "row" "LDriftLog$Row;", Cond.fieldLink RX6 56 "DriftLog$Row" "size" "I", Cond.constant RX6 68 (8388608)]
def wsL_law0_r7 : List Cond := [Cond.fieldLink RX6 78 "DriftLog$Row" "times" "[I", Cond.methodLink RX6 69 yX6_isBeyond, Cond.static yX6_isBeyond, Cond.code yX6_isBeyond cX6_isBeyond 2 (some .boolean), Cond.methodLink RX6 84 yX2_append, Cond.instanceMethod yX2_append, Cond.selects RX2 yX2_append yX2_append, Cond.code yX2_append cX2_append 4 none, Cond.fieldLink RX2 21 "DriftLog$Row" "size" "I", Cond.methodLink RL 70 yX7_add, Cond.instanceMethod yX7_add, Cond.selects RX7 yX7_add yX7_add, Cond.code yX7_add cX7_add 7 (some .int), Cond.methodLink RX7 70 yX7_isPlace, Cond.static yX7_isPlace, Cond.code yX7_isPlace cX7_isPlace 1 (some .boolean), Cond.constant RX7 68 (-8388608), Cond.constant RX7 69 (8388608), Cond.methodLink RL 71 yL_seal, Cond.static yL_seal, Cond.codeWith yL_seal cL_seal 5 (some .int) [(0, 10, 13, 13), (0, 10, 17, 15), (0, 10, 21, 21)], Cond.methodLink RL 23 yX6_seal, Cond.instanceMethod yX6_seal, Cond.selects RX6 yX6_seal yX6_seal]
def wsL_law0_r8 : List Cond := [Cond.code yX6_seal cX6_seal 4 (some .int), Cond.methodLink RX6 90 yX6_isBound, Cond.static yX6_isBound, Cond.code yX6_isBound cX6_isBound 1 (some .boolean), Cond.constant RX6 104 (65535), Cond.methodLink RX6 96 yX4_thin, Cond.instanceMethod yX4_thin, Cond.selects RX4 yX4_thin yX4_thin, Cond.code yX4_thin cX4_thin 6 none, Cond.fieldLink RX4 19 "DriftLog$Row" "size" "I", Cond.fieldLink RX4 29 "DriftLog$Row" "times" "[I", Cond.fieldLink RX4 32 "DriftLog$Row" "xs" "[I", Cond.fieldLink RX4 35 "DriftLog$Row" "ys" "[I", Cond.methodLink RX4 15 yX4_countSteps, Cond.instanceMethod yX4_countSteps, Cond.selects RX4 yX4_countSteps yX4_countSteps, Cond.code yX4_countSteps cX4_countSteps 7 none, Cond.methodLink RX4 25 yX4_canStep, Cond.static yX4_canStep, Cond.code yX4_canStep cX4_canStep 5 (some .boolean), Cond.methodLink RX4 42 yX4_isNear, Cond.static yX4_isNear, Cond.code yX4_isNear cX4_isNear 12 (some .boolean), Cond.methodLink RX4 38 yX2_append]
def wsL_law0_r9 : List Cond := [Cond.methodLink RX6 100 yX5_become, Cond.instanceMethod yX5_become, Cond.selects RX5 yX5_become yX5_become, Cond.code yX5_become cX5_become 3 none, Cond.methodLink RL 74 yX7_seal, Cond.instanceMethod yX7_seal, Cond.selects RX7 yX7_seal yX7_seal, Cond.code yX7_seal cX7_seal 3 (some .int), Cond.constant RX7 85 (65535), Cond.methodLink RX7 86 yX7_thin, Cond.instanceMethod yX7_thin, Cond.selects RX7 yX7_thin yX7_thin, Cond.code yX7_thin cX7_thin 9 none, Cond.methodLink RX7 77 yX7_follows, Cond.instanceMethod yX7_follows, Cond.selects RX7 yX7_follows yX7_follows, Cond.code yX7_follows cX7_follows 13 (some .boolean), Cond.methodLink RX7 73 yX7_amount, Cond.static yX7_amount, Cond.code yX7_amount cX7_amount 2 (some .long), Cond.methodLink RX7 81 yX7_keep, Cond.instanceMethod yX7_keep, Cond.selects RX7 yX7_keep yX7_keep, Cond.code yX7_keep cX7_keep 3 none]
def wsL_law0_r10 : List Cond := [Cond.methodLink RL 75 yL_again, Cond.static yL_again, Cond.codeWith yL_again cL_again 5 (some .int) [(0, 10, 13, 13), (0, 10, 17, 15), (0, 10, 21, 21)], Cond.methodLink RL 27 yX6_again, Cond.instanceMethod yX6_again, Cond.selects RX6 yX6_again yX6_again, Cond.code yX6_again cX6_again 4 (some .int), Cond.fieldLink RX6 105 "DriftLog$Track" "bound" "I", Cond.methodLink RL 77 yX7_again, Cond.instanceMethod yX7_again, Cond.selects RX7 yX7_again yX7_again, Cond.code yX7_again cX7_again 3 (some .int), Cond.methodLink RL 78 yX6_drop, Cond.instanceMethod yX6_drop, Cond.selects RX6 yX6_drop yX6_drop, Cond.code yX6_drop cX6_drop 2 (some .boolean), Cond.methodLink RL 82 yX7_drop, Cond.instanceMethod yX7_drop, Cond.selects RX7 yX7_drop yX7_drop, Cond.code yX7_drop cX7_drop 3 (some .boolean), Cond.methodLink RL 83 yX6_track, Cond.instanceMethod yX6_track, Cond.selects RX6 yX6_track yX6_track, Cond.code yX6_track cX6_track 3 (some .int)]
def wsL_law0_r11 : List Cond := [Cond.methodLink RL 86 yX7_track, Cond.instanceMethod yX7_track, Cond.selects RX7 yX7_track yX7_track, Cond.code yX7_track cX7_track 3 (some .int), Cond.methodLink RL 87 yL_sample, Cond.static yL_sample, Cond.codeWith yL_sample cL_sample 6 (some .int) [(0, 12, 15, 13)], Cond.methodLink RL 30 yX6_sample, Cond.instanceMethod yX6_sample, Cond.selects RX6 yX6_sample yX6_sample, Cond.code yX6_sample cX6_sample 5 (some .int), Cond.fieldLink RX6 122 "DriftLog$Row" "xs" "[I", Cond.fieldLink RX6 125 "DriftLog$Row" "ys" "[I", Cond.methodLink RL 90 yX7_sample, Cond.instanceMethod yX7_sample, Cond.selects RX7 yX7_sample yX7_sample, Cond.code yX7_sample cX7_sample 5 (some .int), Cond.methodLink RL 91 yL_place, Cond.static yL_place, Cond.codeWith yL_place cL_place 7 (some .int) [(0, 13, 16, 13), (0, 13, 20, 15), (0, 13, 24, 21)], Cond.methodLink RL 34 yX6_place, Cond.instanceMethod yX6_place, Cond.selects RX6 yX6_place yX6_place, Cond.code yX6_place cX6_place 13 (some .long)]
def wsL_law0_r12 : List Cond := [Cond.methodLink RX6 130 yX2_firstNotBefore, Cond.instanceMethod yX2_firstNotBefore, Cond.selects RX2 yX2_firstNotBefore yX2_firstNotBefore, Cond.code yX2_firstNotBefore cX2_firstNotBefore 3 (some .int), Cond.methodLink RX6 136 yX6_lowestTerm, Cond.static yX6_lowestTerm, Cond.code yX6_lowestTerm cX6_lowestTerm 9 (some .long), Cond.methodLink RX6 186 yX6_commonDivisor, Cond.static yX6_commonDivisor, Cond.code yX6_commonDivisor cX6_commonDivisor 11 (some .long), Cond.methodLink RL 94 yX7_place, Cond.instanceMethod yX7_place, Cond.selects RX7 yX7_place yX7_place, Cond.code yX7_place cX7_place 18 (some .long), Cond.methodLink RX7 89 yX7_divisor, Cond.static yX7_divisor, Cond.code yX7_divisor cX7_divisor 10 (some .long), Cond.methodLink RL 95 yL_pack, Cond.static yL_pack, Cond.codeWith yL_pack cL_pack 4 (some .int) [(0, 9, 12, 13), (0, 9, 15, 15)], Cond.methodLink RL 38 yX6_pack, Cond.instanceMethod yX6_pack, Cond.selects RX6 yX6_pack yX6_pack, Cond.code yX6_pack cX6_pack 2 (some .int)]
def wsL_law0_r13 : List Cond := [Cond.fieldLink RX6 144 "DriftLog$ByteRow" "size" "I", Cond.methodLink RX6 140 yX0_write, Cond.instanceMethod yX0_write, Cond.selects RX0 yX0_write yX0_write, Cond.code yX0_write cX0_write 6 none, Cond.fieldLink RX0 15 "DriftLog$ByteRow" "size" "I", Cond.fieldLink RX0 19 "DriftLog$Row" "size" "I", Cond.fieldLink RX0 26 "DriftLog$Row" "times" "[I", Cond.fieldLink RX0 29 "DriftLog$Row" "xs" "[I", Cond.fieldLink RX0 36 "DriftLog$Row" "ys" "[I", Cond.methodLink RX0 22 yX0_appendNumber, Cond.instanceMethod yX0_appendNumber, Cond.selects RX0 yX0_appendNumber yX0_appendNumber, Cond.code yX0_appendNumber cX0_appendNumber 4 none, Cond.methodLink RX0 39 yX0_append, Cond.instanceMethod yX0_append, Cond.selects RX0 yX0_append yX0_append, Cond.code yX0_append cX0_append 2 none, Cond.methodLink RX0 32 yX0_folded, Cond.static yX0_folded, Cond.code yX0_folded cX0_folded 1 (some .int), Cond.methodLink RL 98 yX7_pack, Cond.instanceMethod yX7_pack, Cond.selects RX7 yX7_pack yX7_pack]
def wsL_law0_r14 : List Cond := [Cond.code yX7_pack cX7_pack 4 (some .int), Cond.fieldLink RX7 95 "DriftLogModel" "size" "I", Cond.methodLink RX7 102 yX7_write, Cond.instanceMethod yX7_write, Cond.selects RX7 yX7_write yX7_write, Cond.code yX7_write cX7_write 5 none, Cond.constantLong RX7 93 (127), Cond.methodLink RX7 106 yX7_turned, Cond.static yX7_turned, Cond.code yX7_turned cX7_turned 2 (some .long), Cond.constantLong RX7 98 (-2), Cond.constantLong RX7 100 (2), Cond.methodLink RL 99 yX6_bytes, Cond.instanceMethod yX6_bytes, Cond.selects RX6 yX6_bytes yX6_bytes, Cond.code yX6_bytes cX6_bytes 2 (some .int), Cond.fieldLink RX6 145 "DriftLog$ByteRow" "data" "[I", Cond.methodLink RL 102 yX7_bytes, Cond.instanceMethod yX7_bytes, Cond.selects RX7 yX7_bytes yX7_bytes, Cond.code yX7_bytes cX7_bytes 2 (some .int), Cond.methodLink RL 105 yX6_put, Cond.instanceMethod yX6_put, Cond.selects RX6 yX6_put yX6_put]
def wsL_law0_r15 : List Cond := [Cond.code yX6_put cX6_put 5 (some .boolean), Cond.methodLink RX6 148 yX0_append, Cond.methodLink RL 109 yX7_put, Cond.instanceMethod yX7_put, Cond.selects RX7 yX7_put yX7_put, Cond.code yX7_put cX7_put 5 (some .boolean), Cond.methodLink RL 110 yX6_cut, Cond.instanceMethod yX6_cut, Cond.selects RX6 yX6_cut yX6_cut, Cond.code yX6_cut cX6_cut 2 (some .boolean), Cond.methodLink RL 113 yX7_cut, Cond.instanceMethod yX7_cut, Cond.selects RX7 yX7_cut yX7_cut, Cond.code yX7_cut cX7_cut 2 (some .boolean), Cond.methodLink RL 114 yL_unpack, Cond.static yL_unpack, Cond.codeWith yL_unpack cL_unpack 5 (some .int) [(0, 10, 13, 13), (0, 10, 17, 15), (0, 10, 21, 21)], Cond.methodLink RL 42 yX6_unpack, Cond.instanceMethod yX6_unpack, Cond.selects RX6 yX6_unpack yX6_unpack, Cond.code yX6_unpack cX6_unpack 5 (some .int), Cond.fieldLink RX6 155 "DriftLog$Reader" "row" "LDriftLog$Row;", Cond.methodLink RX6 151 yX1_read, Cond.instanceMethod yX1_read]
def wsL_law0_r16 : List Cond := [Cond.selects RX1 yX1_read yX1_read, Cond.code yX1_read cX1_read 4 (some .int), Cond.fieldLink RX1 18 "DriftLog$Reader" "at" "I", Cond.fieldLink RX1 22 "DriftLog$Reader" "fault" "I", Cond.fieldLink RX1 25 "DriftLog$Row" "size" "I", Cond.constantLong RX1 28 (20), Cond.fieldLink RX1 38 "DriftLog$ByteRow" "size" "I", Cond.methodLink RX1 30 yX1_readNumber, Cond.instanceMethod yX1_readNumber, Cond.selects RX1 yX1_readNumber yX1_readNumber, Cond.code yX1_readNumber cX1_readNumber 18 (some .long), Cond.fieldLink RX1 63 "DriftLog$ByteRow" "data" "[I", Cond.methodLink RX1 34 yX1_readSample, Cond.instanceMethod yX1_readSample, Cond.selects RX1 yX1_readSample yX1_readSample, Cond.code yX1_readSample cX1_readSample 10 none, Cond.fieldLink RX1 41 "DriftLog$Row" "times" "[I", Cond.fieldLink RX1 45 "DriftLog$Row" "xs" "[I", Cond.fieldLink RX1 48 "DriftLog$Row" "ys" "[I", Cond.constant RX1 51 (2147483647), Cond.methodLink RX1 52 yX1_readMove, Cond.instanceMethod yX1_readMove, Cond.selects RX1 yX1_readMove yX1_readMove, Cond.code yX1_readMove cX1_readMove 8 (some .int)]
def wsL_law0_r17 : List Cond := [Cond.constantLong RX1 60 (2), Cond.constant RX1 62 (8388608), Cond.methodLink RX1 56 yX2_append, Cond.methodLink RX6 156 yX2_copyFrom, Cond.instanceMethod yX2_copyFrom, Cond.selects RX2 yX2_copyFrom yX2_copyFrom, Cond.code yX2_copyFrom cX2_copyFrom 3 none, Cond.methodLink RX2 25 yX2_append, Cond.methodLink RL 116 yX7_unpack, Cond.instanceMethod yX7_unpack, Cond.selects RX7 yX7_unpack yX7_unpack, Cond.code yX7_unpack cX7_unpack 5 (some .int), Cond.fieldLink RX7 113 "DriftLogModel" "at" "I", Cond.methodLink RX7 135 yX7_readAll, Cond.instanceMethod yX7_readAll, Cond.selects RX7 yX7_readAll yX7_readAll, Cond.code yX7_readAll cX7_readAll 11 (some .int), Cond.constantLong RX7 127 (20), Cond.fieldLink RX7 109 "DriftLogModel" "number" "J", Cond.constantLong RX7 129 (2147483647), Cond.methodLink RX7 120 yX7_take, Cond.instanceMethod yX7_take, Cond.selects RX7 yX7_take yX7_take, Cond.code yX7_take cX7_take 13 (some .boolean)]
def wsL_law0_r18 : List Cond := [Cond.constantLong RX7 116 (128), Cond.methodLink RX7 131 yX7_takePlace, Cond.instanceMethod yX7_takePlace, Cond.selects RX7 yX7_takePlace yX7_takePlace, Cond.code yX7_takePlace cX7_takePlace 3 (some .boolean), Cond.constantLong RX7 118 (8388608), Cond.methodLink RX7 124 yX7_back, Cond.static yX7_back, Cond.code yX7_back cX7_back 2 (some .long), Cond.methodLink RL 117 yL_spans, Cond.static yL_spans, Cond.codeWith yL_spans cL_spans 8 (some .int) [(0, 16, 19, 13), (0, 16, 23, 15), (0, 16, 27, 21)], Cond.methodLink RL 45 yX6_spans, Cond.instanceMethod yX6_spans, Cond.selects RX6 yX6_spans yX6_spans, Cond.code yX6_spans cX6_spans 8 (some .int), Cond.constant RX6 159 (16777216), Cond.fieldLink RX6 162 "DriftLog$SpanRow" "size" "I", Cond.methodLink RX6 163 yX3_find, Cond.instanceMethod yX3_find, Cond.selects RX3 yX3_find yX3_find, Cond.code yX3_find cX3_find 9 none, Cond.fieldLink RX3 24 "DriftLog$SpanRow" "size" "I", Cond.fieldLink RX3 28 "DriftLog$Row" "size" "I"]
def wsL_law0_r19 : List Cond := [Cond.fieldLink RX3 34 "DriftLog$Row" "xs" "[I", Cond.fieldLink RX3 42 "DriftLog$Row" "ys" "[I", Cond.fieldLink RX3 45 "DriftLog$SpanRow" "fromFirst" "J", Cond.fieldLink RX3 49 "DriftLog$SpanRow" "toSecond" "J", Cond.fieldLink RX3 52 "DriftLog$SpanRow" "toFirst" "J", Cond.fieldLink RX3 55 "DriftLog$SpanRow" "fromSecond" "J", Cond.fieldLink RX3 58 "DriftLog$Row" "times" "[I", Cond.methodLink RX3 31 yX3_takeWholeStretch, Cond.instanceMethod yX3_takeWholeStretch, Cond.selects RX3 yX3_takeWholeStretch yX3_takeWholeStretch, Cond.code yX3_takeWholeStretch cX3_takeWholeStretch 1 none, Cond.methodLink RX3 38 yX3_narrow, Cond.instanceMethod yX3_narrow, Cond.selects RX3 yX3_narrow yX3_narrow, Cond.code yX3_narrow cX3_narrow 5 none, Cond.constantLong RX3 71 (2), Cond.methodLink RX3 65 yX3_beginNotBefore, Cond.instanceMethod yX3_beginNotBefore, Cond.selects RX3 yX3_beginNotBefore yX3_beginNotBefore, Cond.code yX3_beginNotBefore cX3_beginNotBefore 5 none, Cond.methodLink RX3 68 yX3_endNotBehind, Cond.instanceMethod yX3_endNotBehind, Cond.selects RX3 yX3_endNotBehind yX3_endNotBehind, Cond.code yX3_endNotBehind cX3_endNotBehind 5 none]
def wsL_law0_r20 : List Cond := [Cond.methodLink RX3 61 yX3_note, Cond.instanceMethod yX3_note, Cond.selects RX3 yX3_note yX3_note, Cond.code yX3_note cX3_note 6 none, Cond.methodLink RL 120 yX7_spans, Cond.instanceMethod yX7_spans, Cond.selects RX7 yX7_spans yX7_spans, Cond.code yX7_spans cX7_spans 10 (some .int), Cond.fieldLink RX7 165 "DriftLogModel" "found" "I", Cond.fieldLink RX7 142 "DriftLogModel" "low" "J", Cond.fieldLink RX7 145 "DriftLogModel" "lowBy" "J", Cond.fieldLink RX7 152 "DriftLogModel" "high" "J", Cond.fieldLink RX7 155 "DriftLogModel" "highBy" "J", Cond.methodLink RX7 170 yX7_isFrame, Cond.static yX7_isFrame, Cond.code yX7_isFrame cX7_isFrame 1 (some .boolean), Cond.constant RX7 168 (-16777216), Cond.constant RX7 169 (16777216), Cond.methodLink RX7 173 yX7_note, Cond.instanceMethod yX7_note, Cond.selects RX7 yX7_note yX7_note, Cond.code yX7_note cX7_note 6 none, Cond.methodLink RX7 176 yX7_within, Cond.instanceMethod yX7_within]
def wsL_law0_r21 : List Cond := [Cond.selects RX7 yX7_within yX7_within, Cond.code yX7_within cX7_within 21 (some .boolean), Cond.methodLink RX7 158 yX7_raise, Cond.instanceMethod yX7_raise, Cond.selects RX7 yX7_raise yX7_raise, Cond.code yX7_raise cX7_raise 5 none, Cond.methodLink RX7 148 yX7_below, Cond.static yX7_below, Cond.code yX7_below cX7_below 12 (some .boolean), Cond.methodLink RX7 139 yX7_whole, Cond.static yX7_whole, Cond.code yX7_whole cX7_whole 6 (some .long), Cond.methodLink RX7 162 yX7_lower, Cond.instanceMethod yX7_lower, Cond.selects RX7 yX7_lower yX7_lower, Cond.code yX7_lower cX7_lower 5 none, Cond.methodLink RL 121 yL_span, Cond.static yL_span, Cond.codeWith yL_span cL_span 6 (some .int) [(0, 11, 14, 13)], Cond.methodLink RL 49 yX6_span, Cond.instanceMethod yX6_span, Cond.selects RX6 yX6_span yX6_span, Cond.code yX6_span cX6_span 4 (some .long), Cond.fieldLink RX6 169 "DriftLog$SpanRow" "endFirsts" "[J"]
def wsL_law0_r22 : List Cond := [Cond.fieldLink RX6 173 "DriftLog$SpanRow" "endSeconds" "[J", Cond.fieldLink RX6 176 "DriftLog$SpanRow" "beginFirsts" "[J", Cond.fieldLink RX6 179 "DriftLog$SpanRow" "beginSeconds" "[J", Cond.methodLink RL 124 yX7_span, Cond.instanceMethod yX7_span, Cond.selects RX7 yX7_span yX7_span, Cond.code yX7_span cX7_span 4 (some .long)]
def wsL_law0 : List Cond := (wsL_law0_r1 ++ (wsL_law0_r2 ++ (wsL_law0_r3 ++ (wsL_law0_r4 ++ (wsL_law0_r5 ++ (wsL_law0_r6 ++ (wsL_law0_r7 ++ (wsL_law0_r8 ++ (wsL_law0_r9 ++ (wsL_law0_r10 ++ (wsL_law0_r11 ++ (wsL_law0_r12 ++ (wsL_law0_r13 ++ (wsL_law0_r14 ++ (wsL_law0_r15 ++ (wsL_law0_r16 ++ (wsL_law0_r17 ++ (wsL_law0_r18 ++ (wsL_law0_r19 ++ (wsL_law0_r20 ++ (wsL_law0_r21 ++ wsL_law0_r22))))))))))))))))))))) ++ wsX60 ++ wsX70 ++ wsX40 ++ wsX00 ++ wsX10 ++ wsX30 ++ wsX50 ++ wsX20 ++ ([] : List Cond)
def wsL_law : List Cond := wsL_law0 ++ (vx_atS RX6 65 "java/lang/IllegalStateException" ["java/lang/RuntimeException", "java/lang/Exception"]).filter goodWord ++ (vx_atS RX6 121 "java/lang/IndexOutOfBoundsException" ["java/lang/RuntimeException", "java/lang/Exception"]).filter goodWord ++ (vx_atS RX6 77 "java/lang/IllegalArgumentException" ["java/lang/RuntimeException", "java/lang/Exception"]).filter goodWord
set_option maxRecDepth 20000 in
theorem wsL_in_wsL_law0_r1 : ∀ w ∈ wsL_law0_r1, w ∈ lw_tbl := fun w h => (goodIn_p wsL_law0_r1 [44, 47] (by decide +kernel) (by decide +kernel) w h).1
set_option maxRecDepth 20000 in
theorem wsL_in_wsL_law0_r2 : ∀ w ∈ wsL_law0_r2, w ∈ lw_tbl := fun w h => (goodIn_p wsL_law0_r2 [54, 65, 82] (by decide +kernel) (by decide +kernel) w h).1
set_option maxRecDepth 20000 in
theorem wsL_in_wsL_law0_r3 : ∀ w ∈ wsL_law0_r3, w ∈ lw_tbl := fun w h => (goodIn_p wsL_law0_r3 [88, 138, 177] (by decide +kernel) (by decide +kernel) w h).1
set_option maxRecDepth 20000 in
theorem wsL_in_wsL_law0_r4 : ∀ w ∈ wsL_law0_r4, w ∈ lw_tbl := fun w h => (goodIn_p wsL_law0_r4 [537] (by decide +kernel) (by decide +kernel) w h).1
set_option maxRecDepth 20000 in
theorem wsL_in_wsL_law0_r5 : ∀ w ∈ wsL_law0_r5, w ∈ lw_tbl := fun w h => (goodIn_p wsL_law0_r5 [249, 253, 257, 216, 619] (by decide +kernel) (by decide +kernel) w h).1
set_option maxRecDepth 20000 in
theorem wsL_in_wsL_law0_r6 : ∀ w ∈ wsL_law0_r6, w ∈ lw_tbl := fun w h => (goodIn_p wsL_law0_r6 [622, 626, 615, 349] (by decide +kernel) (by decide +kernel) w h).1
set_option maxRecDepth 20000 in
theorem wsL_in_wsL_law0_r7 : ∀ w ∈ wsL_law0_r7, w ∈ lw_tbl := fun w h => (goodIn_p wsL_law0_r7 [354, 375, 630, 633] (by decide +kernel) (by decide +kernel) w h).1
set_option maxRecDepth 20000 in
theorem wsL_in_wsL_law0_r8 : ∀ w ∈ wsL_law0_r8, w ∈ lw_tbl := fun w h => (goodIn_p wsL_law0_r8 [382, 386, 392, 396, 399, 402] (by decide +kernel) (by decide +kernel) w h).1
set_option maxRecDepth 20000 in
theorem wsL_in_wsL_law0_r9 : ∀ w ∈ wsL_law0_r9, w ∈ lw_tbl := fun w h => (goodIn_p wsL_law0_r9 [220, 639, 644, 648, 651, 655] (by decide +kernel) (by decide +kernel) w h).1
set_option maxRecDepth 20000 in
theorem wsL_in_wsL_law0_r10 : ∀ w ∈ wsL_law0_r10, w ∈ lw_tbl := fun w h => (goodIn_p wsL_law0_r10 [410, 659, 213, 663, 224] (by decide +kernel) (by decide +kernel) w h).1
set_option maxRecDepth 20000 in
theorem wsL_in_wsL_law0_r11 : ∀ w ∈ wsL_law0_r11, w ∈ lw_tbl := fun w h => (goodIn_p wsL_law0_r11 [667, 418, 671, 427] (by decide +kernel) (by decide +kernel) w h).1
set_option maxRecDepth 20000 in
theorem wsL_in_wsL_law0_r12 : ∀ w ∈ wsL_law0_r12, w ∈ lw_tbl := fun w h => (goodIn_p wsL_law0_r12 [431, 435, 438, 675, 678, 445] (by decide +kernel) (by decide +kernel) w h).1
set_option maxRecDepth 20000 in
theorem wsL_in_wsL_law0_r13 : ∀ w ∈ wsL_law0_r13, w ∈ lw_tbl := fun w h => (goodIn_p wsL_law0_r13 [449, 453, 236, 457] (by decide +kernel) (by decide +kernel) w h).1
set_option maxRecDepth 20000 in
theorem wsL_in_wsL_law0_r14 : ∀ w ∈ wsL_law0_r14, w ∈ lw_tbl := fun w h => (goodIn_p wsL_law0_r14 [682, 686, 690, 228, 696] (by decide +kernel) (by decide +kernel) w h).1
set_option maxRecDepth 20000 in
theorem wsL_in_wsL_law0_r15 : ∀ w ∈ wsL_law0_r15, w ∈ lw_tbl := fun w h => (goodIn_p wsL_law0_r15 [232, 700, 240, 704, 464] (by decide +kernel) (by decide +kernel) w h).1
set_option maxRecDepth 20000 in
theorem wsL_in_wsL_law0_r16 : ∀ w ∈ wsL_law0_r16, w ∈ lw_tbl := fun w h => (goodIn_p wsL_law0_r16 [468, 473, 477, 482] (by decide +kernel) (by decide +kernel) w h).1
set_option maxRecDepth 20000 in
theorem wsL_in_wsL_law0_r17 : ∀ w ∈ wsL_law0_r17, w ∈ lw_tbl := fun w h => (goodIn_p wsL_law0_r17 [489, 708, 712, 717] (by decide +kernel) (by decide +kernel) w h).1
set_option maxRecDepth 20000 in
theorem wsL_in_wsL_law0_r18 : ∀ w ∈ wsL_law0_r18, w ∈ lw_tbl := fun w h => (goodIn_p wsL_law0_r18 [723, 727, 497, 503] (by decide +kernel) (by decide +kernel) w h).1
set_option maxRecDepth 20000 in
theorem wsL_in_wsL_law0_r19 : ∀ w ∈ wsL_law0_r19, w ∈ lw_tbl := fun w h => (goodIn_p wsL_law0_r19 [507, 511, 515, 519] (by decide +kernel) (by decide +kernel) w h).1
set_option maxRecDepth 20000 in
theorem wsL_in_wsL_law0_r20 : ∀ w ∈ wsL_law0_r20, w ∈ lw_tbl := fun w h => (goodIn_p wsL_law0_r20 [524, 731, 734, 740] (by decide +kernel) (by decide +kernel) w h).1
set_option maxRecDepth 20000 in
theorem wsL_in_wsL_law0_r21 : ∀ w ∈ wsL_law0_r21, w ∈ lw_tbl := fun w h => (goodIn_p wsL_law0_r21 [744, 748, 751, 754, 758, 531] (by decide +kernel) (by decide +kernel) w h).1
set_option maxRecDepth 20000 in
theorem wsL_in_wsL_law0_r22 : ∀ w ∈ wsL_law0_r22, w ∈ lw_tbl := fun w h => (goodIn_p wsL_law0_r22 [762] (by decide +kernel) (by decide +kernel) w h).1
set_option maxRecDepth 20000 in
theorem wsL_in_wsX60 : ∀ w ∈ wsX60, w ∈ lw_tbl := fun w h => (goodIn_p wsX60 [] (by decide +kernel) (by decide +kernel) w h).1
set_option maxRecDepth 20000 in
theorem wsL_in_wsX70 : ∀ w ∈ wsX70, w ∈ lw_tbl := fun w h => (goodIn_p wsX70 [] (by decide +kernel) (by decide +kernel) w h).1
set_option maxRecDepth 20000 in
theorem wsL_in_wsX40 : ∀ w ∈ wsX40, w ∈ lw_tbl := fun w h => (goodIn_p wsX40 [] (by decide +kernel) (by decide +kernel) w h).1
set_option maxRecDepth 20000 in
theorem wsL_in_wsX00 : ∀ w ∈ wsX00, w ∈ lw_tbl := fun w h => (goodIn_p wsX00 [] (by decide +kernel) (by decide +kernel) w h).1
set_option maxRecDepth 20000 in
theorem wsL_in_wsX10 : ∀ w ∈ wsX10, w ∈ lw_tbl := fun w h => (goodIn_p wsX10 [] (by decide +kernel) (by decide +kernel) w h).1
set_option maxRecDepth 20000 in
theorem wsL_in_wsX30 : ∀ w ∈ wsX30, w ∈ lw_tbl := fun w h => (goodIn_p wsX30 [] (by decide +kernel) (by decide +kernel) w h).1
set_option maxRecDepth 20000 in
theorem wsL_in_wsX50 : ∀ w ∈ wsX50, w ∈ lw_tbl := fun w h => (goodIn_p wsX50 [] (by decide +kernel) (by decide +kernel) w h).1
set_option maxRecDepth 20000 in
theorem wsL_in_wsX20 : ∀ w ∈ wsX20, w ∈ lw_tbl := fun w h => (goodIn_p wsX20 [] (by decide +kernel) (by decide +kernel) w h).1
theorem wsL_law_in0 : ∀ w ∈ wsL_law0, w ∈ lw_tbl := fun w h => (fun h => (List.mem_append.mp h).elim (fun h => (List.mem_append.mp h).elim (fun h => (List.mem_append.mp h).elim (fun h => (List.mem_append.mp h).elim (fun h => (List.mem_append.mp h).elim (fun h => (List.mem_append.mp h).elim (fun h => (List.mem_append.mp h).elim (fun h => (List.mem_append.mp h).elim (fun h => (List.mem_append.mp h).elim (fun h => (List.mem_append.mp h).elim (fun h => wsL_in_wsL_law0_r1 w h) (fun h => (List.mem_append.mp h).elim (fun h => wsL_in_wsL_law0_r2 w h) (fun h => (List.mem_append.mp h).elim (fun h => wsL_in_wsL_law0_r3 w h) (fun h => (List.mem_append.mp h).elim (fun h => wsL_in_wsL_law0_r4 w h) (fun h => (List.mem_append.mp h).elim (fun h => wsL_in_wsL_law0_r5 w h) (fun h => (List.mem_append.mp h).elim (fun h => wsL_in_wsL_law0_r6 w h) (fun h => (List.mem_append.mp h).elim (fun h => wsL_in_wsL_law0_r7 w h) (fun h => (List.mem_append.mp h).elim (fun h => wsL_in_wsL_law0_r8 w h) (fun h => (List.mem_append.mp h).elim (fun h => wsL_in_wsL_law0_r9 w h) (fun h => (List.mem_append.mp h).elim (fun h => wsL_in_wsL_law0_r10 w h) (fun h => (List.mem_append.mp h).elim (fun h => wsL_in_wsL_law0_r11 w h) (fun h => (List.mem_append.mp h).elim (fun h => wsL_in_wsL_law0_r12 w h) (fun h => (List.mem_append.mp h).elim (fun h => wsL_in_wsL_law0_r13 w h) (fun h => (List.mem_append.mp h).elim (fun h => wsL_in_wsL_law0_r14 w h) (fun h => (List.mem_append.mp h).elim (fun h => wsL_in_wsL_law0_r15 w h) (fun h => (List.mem_append.mp h).elim (fun h => wsL_in_wsL_law0_r16 w h) (fun h => (List.mem_append.mp h).elim (fun h => wsL_in_wsL_law0_r17 w h) (fun h => (List.mem_append.mp h).elim (fun h => wsL_in_wsL_law0_r18 w h) (fun h => (List.mem_append.mp h).elim (fun h => wsL_in_wsL_law0_r19 w h) (fun h => (List.mem_append.mp h).elim (fun h => wsL_in_wsL_law0_r20 w h) (fun h => (List.mem_append.mp h).elim (fun h => wsL_in_wsL_law0_r21 w h) (fun h => wsL_in_wsL_law0_r22 w h)))))))))))))))))))))) (fun h => wsL_in_wsX60 w h)) (fun h => wsL_in_wsX70 w h)) (fun h => wsL_in_wsX40 w h)) (fun h => wsL_in_wsX00 w h)) (fun h => wsL_in_wsX10 w h)) (fun h => wsL_in_wsX30 w h)) (fun h => wsL_in_wsX50 w h)) (fun h => wsL_in_wsX20 w h)) (fun h => absurd h List.not_mem_nil)) h
theorem wsL_law_x0 : ∀ w ∈ (vx_atS RX6 65 "java/lang/IllegalStateException" ["java/lang/RuntimeException", "java/lang/Exception"]).filter goodWord, w ∈ lw_tbl := by decide +kernel
theorem wsL_law_x1 : ∀ w ∈ (vx_atS RX6 121 "java/lang/IndexOutOfBoundsException" ["java/lang/RuntimeException", "java/lang/Exception"]).filter goodWord, w ∈ lw_tbl := by decide +kernel
theorem wsL_law_x2 : ∀ w ∈ (vx_atS RX6 77 "java/lang/IllegalArgumentException" ["java/lang/RuntimeException", "java/lang/Exception"]).filter goodWord, w ∈ lw_tbl := by decide +kernel
theorem wsL_law_in : ∀ w ∈ wsL_law, w ∈ lw_tbl := fun w h => (List.mem_append.mp h).elim (fun h => (List.mem_append.mp h).elim (fun h => (List.mem_append.mp h).elim (fun h => wsL_law_in0 w h) (fun h => wsL_law_x0 w h)) (fun h => wsL_law_x1 w h)) (fun h => wsL_law_x2 w h)
theorem inlX0 : ∀ w ∈ wsX00, w ∈ wsL_law := fun _ h => List.mem_append_left _ (List.mem_append_left _ (List.mem_append_left _ (List.mem_append_left _ (List.mem_append_left _ (List.mem_append_left _ (List.mem_append_left _ (List.mem_append_left _ (List.mem_append_right _ h))))))))
theorem inX0 : ∀ w ∈ wsX00, w ∈ lw_tbl := fun w h => wsL_law_in w (inlX0 w h)
theorem inlX1 : ∀ w ∈ wsX10, w ∈ wsL_law := fun _ h => List.mem_append_left _ (List.mem_append_left _ (List.mem_append_left _ (List.mem_append_left _ (List.mem_append_left _ (List.mem_append_left _ (List.mem_append_left _ (List.mem_append_right _ h)))))))
theorem inX1 : ∀ w ∈ wsX10, w ∈ lw_tbl := fun w h => wsL_law_in w (inlX1 w h)
theorem inlX2 : ∀ w ∈ wsX20, w ∈ wsL_law := fun _ h => List.mem_append_left _ (List.mem_append_left _ (List.mem_append_left _ (List.mem_append_left _ (List.mem_append_right _ h))))
theorem inX2 : ∀ w ∈ wsX20, w ∈ lw_tbl := fun w h => wsL_law_in w (inlX2 w h)
theorem inlX3 : ∀ w ∈ wsX30, w ∈ wsL_law := fun _ h => List.mem_append_left _ (List.mem_append_left _ (List.mem_append_left _ (List.mem_append_left _ (List.mem_append_left _ (List.mem_append_left _ (List.mem_append_right _ h))))))
theorem inX3 : ∀ w ∈ wsX30, w ∈ lw_tbl := fun w h => wsL_law_in w (inlX3 w h)
theorem inlX4 : ∀ w ∈ wsX40, w ∈ wsL_law := fun _ h => List.mem_append_left _ (List.mem_append_left _ (List.mem_append_left _ (List.mem_append_left _ (List.mem_append_left _ (List.mem_append_left _ (List.mem_append_left _ (List.mem_append_left _ (List.mem_append_left _ (List.mem_append_right _ h)))))))))
theorem inX4 : ∀ w ∈ wsX40, w ∈ lw_tbl := fun w h => wsL_law_in w (inlX4 w h)
theorem inlX5 : ∀ w ∈ wsX50, w ∈ wsL_law := fun _ h => List.mem_append_left _ (List.mem_append_left _ (List.mem_append_left _ (List.mem_append_left _ (List.mem_append_left _ (List.mem_append_right _ h)))))
theorem inX5 : ∀ w ∈ wsX50, w ∈ lw_tbl := fun w h => wsL_law_in w (inlX5 w h)
theorem inlX6 : ∀ w ∈ wsX60, w ∈ wsL_law := fun _ h => List.mem_append_left _ (List.mem_append_left _ (List.mem_append_left _ (List.mem_append_left _ (List.mem_append_left _ (List.mem_append_left _ (List.mem_append_left _ (List.mem_append_left _ (List.mem_append_left _ (List.mem_append_left _ (List.mem_append_left _ (List.mem_append_right _ h)))))))))))
theorem inX6 : ∀ w ∈ wsX60, w ∈ lw_tbl := fun w h => wsL_law_in w (inlX6 w h)
theorem inlX7 : ∀ w ∈ wsX70, w ∈ wsL_law := fun _ h => List.mem_append_left _ (List.mem_append_left _ (List.mem_append_left _ (List.mem_append_left _ (List.mem_append_left _ (List.mem_append_left _ (List.mem_append_left _ (List.mem_append_left _ (List.mem_append_left _ (List.mem_append_left _ (List.mem_append_right _ h))))))))))
theorem inX7 : ∀ w ∈ wsX70, w ∈ lw_tbl := fun w h => wsL_law_in w (inlX7 w h)
theorem inJ0 : ∀ w ∈ wsJ00, w ∈ lw_tbl := by decide +kernel
set_option maxRecDepth 20000 in
theorem ggL_open_X6_open : GoodIn wsL_open wsX6_open := goodIn_ca (goodIn_ca (goodIn_r _ [7, 8, 9, 10, 11, 6, 12, 13, 14, 15, 16, 17, 18, 19, 20, 21, 22, 23, 24, 25, 26, 27, 28, 29, 30, 31, 32] (by decide +kernel) (by decide +kernel)) (goodIn_sub (fun _ h => List.mem_cons_of_mem _ (List.mem_append_left _ (List.mem_append_right _ h))) (by decide +kernel))) (goodIn_sub (fun _ h => List.mem_cons_of_mem _ (List.mem_append_right _ h)) (by decide +kernel))
set_option maxRecDepth 20000 in
theorem gL_open_X6_open : GoodIn wsL_open (wsV RL 7 RX6 yX6_open wsX6_open) := goodIn_app (goodIn_of _ (by decide +kernel)) ggL_open_X6_open
theorem dL_open_0 : decode cL_open 0 = .ok (.aload_n 0, 1) := by decide +kernel
theorem dL_open_1 : decode cL_open 1 = .ok (.iload_n 1, 1) := by decide +kernel
theorem dL_open_2 : decode cL_open 2 = .ok (.invokevirtual 7, 3) := by decide +kernel
theorem dL_open_5 : decode cL_open 5 = .ok (.goto 9, 3) := by decide +kernel
theorem dL_open_8 : decode cL_open 8 = .ok (.astore_n 2, 1) := by decide +kernel
theorem dL_open_9 : decode cL_open 9 = .ok (.iconst 1, 1) := by decide +kernel
theorem dL_open_10 : decode cL_open 10 = .ok (.ireturn, 1) := by decide +kernel
theorem dL_open_11 : decode cL_open 11 = .ok (.astore_n 2, 1) := by decide +kernel
theorem dL_open_12 : decode cL_open 12 = .ok (.iconst 2, 1) := by decide +kernel
theorem dL_open_13 : decode cL_open 13 = .ok (.ireturn, 1) := by decide +kernel
theorem dL_open_14 : decode cL_open 14 = .ok (.iconst 0, 1) := by decide +kernel
theorem dL_open_15 : decode cL_open 15 = .ok (.ireturn, 1) := by decide +kernel
set_option maxRecDepth 20000 in
theorem ggL_add_X6_add : GoodIn wsL_add wsX6_add := goodIn_ca (goodIn_ca (goodIn_ca (goodIn_r _ [8, 9, 10, 11, 12, 13, 14, 15, 16, 17, 18, 19, 7, 20, 21, 22, 23, 24, 25, 26, 27, 28, 29, 30, 31, 32, 33, 34, 35, 36, 37, 38, 39, 40, 41, 42, 43, 44, 45, 46, 47, 48, 49, 50, 51, 52, 53, 54, 55] (by decide +kernel) (by decide +kernel)) (goodIn_sub (fun _ h => List.mem_cons_of_mem _ (List.mem_append_left _ (List.mem_append_left _ (List.mem_append_right _ h)))) (by decide +kernel))) (goodIn_sub (fun _ h => List.mem_cons_of_mem _ (List.mem_append_left _ (List.mem_append_right _ h))) (by decide +kernel))) (goodIn_sub (fun _ h => List.mem_cons_of_mem _ (List.mem_append_right _ h)) (by decide +kernel))
set_option maxRecDepth 20000 in
theorem gL_add_X6_add : GoodIn wsL_add (wsV RL 17 RX6 yX6_add wsX6_add) := goodIn_app (goodIn_of _ (by decide +kernel)) ggL_add_X6_add
theorem dL_add_0 : decode cL_add 0 = .ok (.aload 5, 2) := by decide +kernel
theorem dL_add_2 : decode cL_add 2 = .ok (.iconst 0, 1) := by decide +kernel
theorem dL_add_3 : decode cL_add 3 = .ok (.aload_n 0, 1) := by decide +kernel
theorem dL_add_4 : decode cL_add 4 = .ok (.iload_n 1, 1) := by decide +kernel
theorem dL_add_5 : decode cL_add 5 = .ok (.iload_n 2, 1) := by decide +kernel
theorem dL_add_6 : decode cL_add 6 = .ok (.iload_n 3, 1) := by decide +kernel
theorem dL_add_7 : decode cL_add 7 = .ok (.iload 4, 2) := by decide +kernel
theorem dL_add_9 : decode cL_add 9 = .ok (.invokevirtual 17, 3) := by decide +kernel
theorem dL_add_12 : decode cL_add 12 = .ok (.i2l, 1) := by decide +kernel
theorem dL_add_13 : decode cL_add 13 = .ok (.lastore, 1) := by decide +kernel
theorem dL_add_14 : decode cL_add 14 = .ok (.goto 15, 3) := by decide +kernel
theorem dL_add_17 : decode cL_add 17 = .ok (.astore 6, 2) := by decide +kernel
theorem dL_add_19 : decode cL_add 19 = .ok (.iconst 1, 1) := by decide +kernel
theorem dL_add_20 : decode cL_add 20 = .ok (.ireturn, 1) := by decide +kernel
theorem dL_add_21 : decode cL_add 21 = .ok (.astore 6, 2) := by decide +kernel
theorem dL_add_23 : decode cL_add 23 = .ok (.iconst 2, 1) := by decide +kernel
theorem dL_add_24 : decode cL_add 24 = .ok (.ireturn, 1) := by decide +kernel
theorem dL_add_25 : decode cL_add 25 = .ok (.astore 6, 2) := by decide +kernel
theorem dL_add_27 : decode cL_add 27 = .ok (.iconst 3, 1) := by decide +kernel
theorem dL_add_28 : decode cL_add 28 = .ok (.ireturn, 1) := by decide +kernel
theorem dL_add_29 : decode cL_add 29 = .ok (.iconst 0, 1) := by decide +kernel
theorem dL_add_30 : decode cL_add 30 = .ok (.ireturn, 1) := by decide +kernel
set_option maxRecDepth 20000 in
theorem ggL_seal_X6_seal : GoodIn wsL_seal wsX6_seal := goodIn_ca (goodIn_ca (goodIn_ca (goodIn_r _ [8, 9, 10, 11, 12, 13, 14, 15, 16, 17, 18, 7, 19, 20, 21, 22, 23, 24, 25, 26, 27, 28, 29, 30, 31, 32, 33, 34, 35, 36, 37, 38, 39, 40, 41, 42, 43, 44, 45, 46, 47, 48, 49, 50, 51, 52, 53, 54, 55, 56, 57, 58, 59, 60, 61, 62, 63, 64, 65, 66, 67, 68, 69, 70, 71, 72, 73, 74, 75, 76, 77, 78, 79, 80, 81, 82, 83] (by decide +kernel) (by decide +kernel)) (goodIn_sub (fun _ h => List.mem_cons_of_mem _ (List.mem_append_left _ (List.mem_append_left _ (List.mem_append_right _ h)))) (by decide +kernel))) (goodIn_sub (fun _ h => List.mem_cons_of_mem _ (List.mem_append_left _ (List.mem_append_right _ h))) (by decide +kernel))) (goodIn_sub (fun _ h => List.mem_cons_of_mem _ (List.mem_append_right _ h)) (by decide +kernel))
set_option maxRecDepth 20000 in
theorem gL_seal_X6_seal : GoodIn wsL_seal (wsV RL 23 RX6 yX6_seal wsX6_seal) := goodIn_app (goodIn_of _ (by decide +kernel)) ggL_seal_X6_seal
theorem dL_seal_0 : decode cL_seal 0 = .ok (.aload_n 3, 1) := by decide +kernel
theorem dL_seal_1 : decode cL_seal 1 = .ok (.iconst 0, 1) := by decide +kernel
theorem dL_seal_2 : decode cL_seal 2 = .ok (.aload_n 0, 1) := by decide +kernel
theorem dL_seal_3 : decode cL_seal 3 = .ok (.iload_n 1, 1) := by decide +kernel
theorem dL_seal_4 : decode cL_seal 4 = .ok (.iload_n 2, 1) := by decide +kernel
theorem dL_seal_5 : decode cL_seal 5 = .ok (.invokevirtual 23, 3) := by decide +kernel
theorem dL_seal_8 : decode cL_seal 8 = .ok (.i2l, 1) := by decide +kernel
theorem dL_seal_9 : decode cL_seal 9 = .ok (.lastore, 1) := by decide +kernel
theorem dL_seal_10 : decode cL_seal 10 = .ok (.goto 15, 3) := by decide +kernel
theorem dL_seal_13 : decode cL_seal 13 = .ok (.astore 4, 2) := by decide +kernel
theorem dL_seal_15 : decode cL_seal 15 = .ok (.iconst 1, 1) := by decide +kernel
theorem dL_seal_16 : decode cL_seal 16 = .ok (.ireturn, 1) := by decide +kernel
theorem dL_seal_17 : decode cL_seal 17 = .ok (.astore 4, 2) := by decide +kernel
theorem dL_seal_19 : decode cL_seal 19 = .ok (.iconst 2, 1) := by decide +kernel
theorem dL_seal_20 : decode cL_seal 20 = .ok (.ireturn, 1) := by decide +kernel
theorem dL_seal_21 : decode cL_seal 21 = .ok (.astore 4, 2) := by decide +kernel
theorem dL_seal_23 : decode cL_seal 23 = .ok (.iconst 3, 1) := by decide +kernel
theorem dL_seal_24 : decode cL_seal 24 = .ok (.ireturn, 1) := by decide +kernel
theorem dL_seal_25 : decode cL_seal 25 = .ok (.iconst 0, 1) := by decide +kernel
theorem dL_seal_26 : decode cL_seal 26 = .ok (.ireturn, 1) := by decide +kernel
set_option maxRecDepth 20000 in
theorem ggL_again_X6_again : GoodIn wsL_again wsX6_again := goodIn_ca (goodIn_ca (goodIn_ca (goodIn_r _ [8, 9, 10, 11, 12, 13, 14, 15, 16, 17, 18, 7, 19, 20, 21, 22, 23, 24, 25, 26, 27, 28, 29, 30, 31, 32, 33, 34, 35, 36, 37, 38, 39, 40, 41, 42, 43, 44, 45, 46, 47, 48, 49, 50, 51, 52, 53, 54, 55, 56, 57, 58, 59, 60, 61, 62, 63, 64, 65, 66, 67, 68, 69, 70, 71, 72, 73, 74] (by decide +kernel) (by decide +kernel)) (goodIn_sub (fun _ h => List.mem_cons_of_mem _ (List.mem_append_left _ (List.mem_append_left _ (List.mem_append_right _ h)))) (by decide +kernel))) (goodIn_sub (fun _ h => List.mem_cons_of_mem _ (List.mem_append_left _ (List.mem_append_right _ h))) (by decide +kernel))) (goodIn_sub (fun _ h => List.mem_cons_of_mem _ (List.mem_append_right _ h)) (by decide +kernel))
set_option maxRecDepth 20000 in
theorem gL_again_X6_again : GoodIn wsL_again (wsV RL 27 RX6 yX6_again wsX6_again) := goodIn_app (goodIn_of _ (by decide +kernel)) ggL_again_X6_again
theorem dL_again_0 : decode cL_again 0 = .ok (.aload_n 3, 1) := by decide +kernel
theorem dL_again_1 : decode cL_again 1 = .ok (.iconst 0, 1) := by decide +kernel
theorem dL_again_2 : decode cL_again 2 = .ok (.aload_n 0, 1) := by decide +kernel
theorem dL_again_3 : decode cL_again 3 = .ok (.iload_n 1, 1) := by decide +kernel
theorem dL_again_4 : decode cL_again 4 = .ok (.iload_n 2, 1) := by decide +kernel
theorem dL_again_5 : decode cL_again 5 = .ok (.invokevirtual 27, 3) := by decide +kernel
theorem dL_again_8 : decode cL_again 8 = .ok (.i2l, 1) := by decide +kernel
theorem dL_again_9 : decode cL_again 9 = .ok (.lastore, 1) := by decide +kernel
theorem dL_again_10 : decode cL_again 10 = .ok (.goto 15, 3) := by decide +kernel
theorem dL_again_13 : decode cL_again 13 = .ok (.astore 4, 2) := by decide +kernel
theorem dL_again_15 : decode cL_again 15 = .ok (.iconst 1, 1) := by decide +kernel
theorem dL_again_16 : decode cL_again 16 = .ok (.ireturn, 1) := by decide +kernel
theorem dL_again_17 : decode cL_again 17 = .ok (.astore 4, 2) := by decide +kernel
theorem dL_again_19 : decode cL_again 19 = .ok (.iconst 2, 1) := by decide +kernel
theorem dL_again_20 : decode cL_again 20 = .ok (.ireturn, 1) := by decide +kernel
theorem dL_again_21 : decode cL_again 21 = .ok (.astore 4, 2) := by decide +kernel
theorem dL_again_23 : decode cL_again 23 = .ok (.iconst 3, 1) := by decide +kernel
theorem dL_again_24 : decode cL_again 24 = .ok (.ireturn, 1) := by decide +kernel
theorem dL_again_25 : decode cL_again 25 = .ok (.iconst 0, 1) := by decide +kernel
theorem dL_again_26 : decode cL_again 26 = .ok (.ireturn, 1) := by decide +kernel
set_option maxRecDepth 20000 in
theorem ggL_sample_X6_sample : GoodIn wsL_sample wsX6_sample := goodIn_ca (goodIn_r _ [6, 7, 8, 9, 10, 11, 12, 13, 14, 15, 16, 5, 17, 18, 19, 20, 21, 22, 23, 24, 25, 26, 27, 28, 29, 30, 31, 32, 33] (by decide +kernel) (by decide +kernel)) (goodIn_sub (fun _ h => List.mem_cons_of_mem _ (List.mem_append_right _ h)) (by decide +kernel))
set_option maxRecDepth 20000 in
theorem gL_sample_X6_sample : GoodIn wsL_sample (wsV RL 30 RX6 yX6_sample wsX6_sample) := goodIn_app (goodIn_of _ (by decide +kernel)) ggL_sample_X6_sample
theorem dL_sample_0 : decode cL_sample 0 = .ok (.aload 4, 2) := by decide +kernel
theorem dL_sample_2 : decode cL_sample 2 = .ok (.iconst 0, 1) := by decide +kernel
theorem dL_sample_3 : decode cL_sample 3 = .ok (.aload_n 0, 1) := by decide +kernel
theorem dL_sample_4 : decode cL_sample 4 = .ok (.iload_n 1, 1) := by decide +kernel
theorem dL_sample_5 : decode cL_sample 5 = .ok (.iload_n 2, 1) := by decide +kernel
theorem dL_sample_6 : decode cL_sample 6 = .ok (.iload_n 3, 1) := by decide +kernel
theorem dL_sample_7 : decode cL_sample 7 = .ok (.invokevirtual 30, 3) := by decide +kernel
theorem dL_sample_10 : decode cL_sample 10 = .ok (.i2l, 1) := by decide +kernel
theorem dL_sample_11 : decode cL_sample 11 = .ok (.lastore, 1) := by decide +kernel
theorem dL_sample_12 : decode cL_sample 12 = .ok (.goto 7, 3) := by decide +kernel
theorem dL_sample_15 : decode cL_sample 15 = .ok (.astore 5, 2) := by decide +kernel
theorem dL_sample_17 : decode cL_sample 17 = .ok (.iconst 1, 1) := by decide +kernel
theorem dL_sample_18 : decode cL_sample 18 = .ok (.ireturn, 1) := by decide +kernel
theorem dL_sample_19 : decode cL_sample 19 = .ok (.iconst 0, 1) := by decide +kernel
theorem dL_sample_20 : decode cL_sample 20 = .ok (.ireturn, 1) := by decide +kernel
set_option maxRecDepth 20000 in
theorem ggL_place_X6_place : GoodIn wsL_place wsX6_place := goodIn_ca (goodIn_ca (goodIn_ca (goodIn_r _ [8, 9, 10, 11, 12, 13, 14, 15, 16, 17, 18, 7, 19, 20, 21, 22, 23, 24, 25, 26, 27, 28, 29, 30, 31, 32, 33, 34, 35, 36, 37, 38, 39, 40, 41, 42, 43, 44, 45, 46, 47, 48, 49, 50, 51, 52, 53, 54, 55, 56, 57] (by decide +kernel) (by decide +kernel)) (goodIn_sub (fun _ h => List.mem_cons_of_mem _ (List.mem_append_left _ (List.mem_append_left _ (List.mem_append_right _ h)))) (by decide +kernel))) (goodIn_sub (fun _ h => List.mem_cons_of_mem _ (List.mem_append_left _ (List.mem_append_right _ h))) (by decide +kernel))) (goodIn_sub (fun _ h => List.mem_cons_of_mem _ (List.mem_append_right _ h)) (by decide +kernel))
set_option maxRecDepth 20000 in
theorem gL_place_X6_place : GoodIn wsL_place (wsV RL 34 RX6 yX6_place wsX6_place) := goodIn_app (goodIn_of _ (by decide +kernel)) ggL_place_X6_place
theorem dL_place_0 : decode cL_place 0 = .ok (.aload 5, 2) := by decide +kernel
theorem dL_place_2 : decode cL_place 2 = .ok (.iconst 0, 1) := by decide +kernel
theorem dL_place_3 : decode cL_place 3 = .ok (.aload_n 0, 1) := by decide +kernel
theorem dL_place_4 : decode cL_place 4 = .ok (.iload_n 1, 1) := by decide +kernel
theorem dL_place_5 : decode cL_place 5 = .ok (.iload_n 2, 1) := by decide +kernel
theorem dL_place_6 : decode cL_place 6 = .ok (.iload_n 3, 1) := by decide +kernel
theorem dL_place_7 : decode cL_place 7 = .ok (.iload 4, 2) := by decide +kernel
theorem dL_place_9 : decode cL_place 9 = .ok (.invokevirtual 34, 3) := by decide +kernel
theorem dL_place_12 : decode cL_place 12 = .ok (.lastore, 1) := by decide +kernel
theorem dL_place_13 : decode cL_place 13 = .ok (.goto 15, 3) := by decide +kernel
theorem dL_place_16 : decode cL_place 16 = .ok (.astore 6, 2) := by decide +kernel
theorem dL_place_18 : decode cL_place 18 = .ok (.iconst 1, 1) := by decide +kernel
theorem dL_place_19 : decode cL_place 19 = .ok (.ireturn, 1) := by decide +kernel
theorem dL_place_20 : decode cL_place 20 = .ok (.astore 6, 2) := by decide +kernel
theorem dL_place_22 : decode cL_place 22 = .ok (.iconst 2, 1) := by decide +kernel
theorem dL_place_23 : decode cL_place 23 = .ok (.ireturn, 1) := by decide +kernel
theorem dL_place_24 : decode cL_place 24 = .ok (.astore 6, 2) := by decide +kernel
theorem dL_place_26 : decode cL_place 26 = .ok (.iconst 3, 1) := by decide +kernel
theorem dL_place_27 : decode cL_place 27 = .ok (.ireturn, 1) := by decide +kernel
theorem dL_place_28 : decode cL_place 28 = .ok (.iconst 0, 1) := by decide +kernel
theorem dL_place_29 : decode cL_place 29 = .ok (.ireturn, 1) := by decide +kernel
set_option maxRecDepth 20000 in
theorem ggL_pack_X6_pack : GoodIn wsL_pack wsX6_pack := goodIn_ca (goodIn_ca (goodIn_r _ [7, 8, 9, 10, 11, 12, 13, 6, 14, 15, 16, 17, 18, 19, 20, 21, 22, 23, 24, 25, 26, 27, 28, 29, 30, 31, 32, 33, 34, 35, 36, 37, 38, 39, 40, 41, 42, 43, 44, 45, 46, 47, 48, 49, 50, 51, 52, 53, 54, 55, 56, 57, 58, 59, 60, 61, 62, 63] (by decide +kernel) (by decide +kernel)) (goodIn_sub (fun _ h => List.mem_cons_of_mem _ (List.mem_append_left _ (List.mem_append_right _ h))) (by decide +kernel))) (goodIn_sub (fun _ h => List.mem_cons_of_mem _ (List.mem_append_right _ h)) (by decide +kernel))
set_option maxRecDepth 20000 in
theorem gL_pack_X6_pack : GoodIn wsL_pack (wsV RL 38 RX6 yX6_pack wsX6_pack) := goodIn_app (goodIn_of _ (by decide +kernel)) ggL_pack_X6_pack
theorem dL_pack_0 : decode cL_pack 0 = .ok (.aload_n 2, 1) := by decide +kernel
theorem dL_pack_1 : decode cL_pack 1 = .ok (.iconst 0, 1) := by decide +kernel
theorem dL_pack_2 : decode cL_pack 2 = .ok (.aload_n 0, 1) := by decide +kernel
theorem dL_pack_3 : decode cL_pack 3 = .ok (.iload_n 1, 1) := by decide +kernel
theorem dL_pack_4 : decode cL_pack 4 = .ok (.invokevirtual 38, 3) := by decide +kernel
theorem dL_pack_7 : decode cL_pack 7 = .ok (.i2l, 1) := by decide +kernel
theorem dL_pack_8 : decode cL_pack 8 = .ok (.lastore, 1) := by decide +kernel
theorem dL_pack_9 : decode cL_pack 9 = .ok (.goto 9, 3) := by decide +kernel
theorem dL_pack_12 : decode cL_pack 12 = .ok (.astore_n 3, 1) := by decide +kernel
theorem dL_pack_13 : decode cL_pack 13 = .ok (.iconst 1, 1) := by decide +kernel
theorem dL_pack_14 : decode cL_pack 14 = .ok (.ireturn, 1) := by decide +kernel
theorem dL_pack_15 : decode cL_pack 15 = .ok (.astore_n 3, 1) := by decide +kernel
theorem dL_pack_16 : decode cL_pack 16 = .ok (.iconst 2, 1) := by decide +kernel
theorem dL_pack_17 : decode cL_pack 17 = .ok (.ireturn, 1) := by decide +kernel
theorem dL_pack_18 : decode cL_pack 18 = .ok (.iconst 0, 1) := by decide +kernel
theorem dL_pack_19 : decode cL_pack 19 = .ok (.ireturn, 1) := by decide +kernel
set_option maxRecDepth 20000 in
theorem ggL_unpack_X6_unpack : GoodIn wsL_unpack wsX6_unpack := goodIn_ca (goodIn_ca (goodIn_ca (goodIn_r _ [8, 9, 10, 11, 12, 13, 14, 15, 16, 17, 18, 7, 19, 20, 21, 22, 23, 24, 25, 26, 27, 28, 29, 30, 31, 32, 33, 34, 35, 36, 37, 38, 39, 40, 41, 42, 43, 44, 45, 46, 47, 48, 49, 50, 51, 52, 53, 54, 55, 56, 57, 58, 59, 60, 61, 62, 63, 64, 65, 66, 67, 68, 69, 70, 71, 72, 73, 74, 75, 76, 77, 78, 79, 80, 81, 82, 83, 84, 85, 86, 87, 88, 89, 90, 91, 92, 93, 94, 95, 96, 97, 98, 99, 100, 101, 102, 103, 104] (by decide +kernel) (by decide +kernel)) (goodIn_sub (fun _ h => List.mem_cons_of_mem _ (List.mem_append_left _ (List.mem_append_left _ (List.mem_append_right _ h)))) (by decide +kernel))) (goodIn_sub (fun _ h => List.mem_cons_of_mem _ (List.mem_append_left _ (List.mem_append_right _ h))) (by decide +kernel))) (goodIn_sub (fun _ h => List.mem_cons_of_mem _ (List.mem_append_right _ h)) (by decide +kernel))
set_option maxRecDepth 20000 in
theorem gL_unpack_X6_unpack : GoodIn wsL_unpack (wsV RL 42 RX6 yX6_unpack wsX6_unpack) := goodIn_app (goodIn_of _ (by decide +kernel)) ggL_unpack_X6_unpack
theorem dL_unpack_0 : decode cL_unpack 0 = .ok (.aload_n 3, 1) := by decide +kernel
theorem dL_unpack_1 : decode cL_unpack 1 = .ok (.iconst 0, 1) := by decide +kernel
theorem dL_unpack_2 : decode cL_unpack 2 = .ok (.aload_n 0, 1) := by decide +kernel
theorem dL_unpack_3 : decode cL_unpack 3 = .ok (.iload_n 1, 1) := by decide +kernel
theorem dL_unpack_4 : decode cL_unpack 4 = .ok (.iload_n 2, 1) := by decide +kernel
theorem dL_unpack_5 : decode cL_unpack 5 = .ok (.invokevirtual 42, 3) := by decide +kernel
theorem dL_unpack_8 : decode cL_unpack 8 = .ok (.i2l, 1) := by decide +kernel
theorem dL_unpack_9 : decode cL_unpack 9 = .ok (.lastore, 1) := by decide +kernel
theorem dL_unpack_10 : decode cL_unpack 10 = .ok (.goto 15, 3) := by decide +kernel
theorem dL_unpack_13 : decode cL_unpack 13 = .ok (.astore 4, 2) := by decide +kernel
theorem dL_unpack_15 : decode cL_unpack 15 = .ok (.iconst 1, 1) := by decide +kernel
theorem dL_unpack_16 : decode cL_unpack 16 = .ok (.ireturn, 1) := by decide +kernel
theorem dL_unpack_17 : decode cL_unpack 17 = .ok (.astore 4, 2) := by decide +kernel
theorem dL_unpack_19 : decode cL_unpack 19 = .ok (.iconst 2, 1) := by decide +kernel
theorem dL_unpack_20 : decode cL_unpack 20 = .ok (.ireturn, 1) := by decide +kernel
theorem dL_unpack_21 : decode cL_unpack 21 = .ok (.astore 4, 2) := by decide +kernel
theorem dL_unpack_23 : decode cL_unpack 23 = .ok (.iconst 3, 1) := by decide +kernel
theorem dL_unpack_24 : decode cL_unpack 24 = .ok (.ireturn, 1) := by decide +kernel
theorem dL_unpack_25 : decode cL_unpack 25 = .ok (.iconst 0, 1) := by decide +kernel
theorem dL_unpack_26 : decode cL_unpack 26 = .ok (.ireturn, 1) := by decide +kernel
set_option maxRecDepth 20000 in
theorem ggL_spans_X6_spans : GoodIn wsL_spans wsX6_spans := goodIn_ca (goodIn_ca (goodIn_ca (goodIn_r _ [8, 9, 10, 11, 12, 13, 14, 15, 16, 17, 18, 7, 19, 20, 21, 22, 23, 24, 25, 26, 27, 28, 29, 30, 31, 32, 33, 34, 35, 36, 37, 38, 39, 40, 41, 42, 43, 44, 45, 46, 47, 48, 49, 50, 51, 52, 53, 54, 55, 56, 57, 58, 59, 60, 61, 62, 63, 64, 65, 66, 67, 68, 69, 70, 71, 72, 73, 74, 75, 76, 77, 78, 79, 80, 81, 82, 83, 84, 85, 86, 87, 88, 89, 90, 91, 92, 93, 94, 95] (by decide +kernel) (by decide +kernel)) (goodIn_sub (fun _ h => List.mem_cons_of_mem _ (List.mem_append_left _ (List.mem_append_left _ (List.mem_append_right _ h)))) (by decide +kernel))) (goodIn_sub (fun _ h => List.mem_cons_of_mem _ (List.mem_append_left _ (List.mem_append_right _ h))) (by decide +kernel))) (goodIn_sub (fun _ h => List.mem_cons_of_mem _ (List.mem_append_right _ h)) (by decide +kernel))
set_option maxRecDepth 20000 in
theorem gL_spans_X6_spans : GoodIn wsL_spans (wsV RL 45 RX6 yX6_spans wsX6_spans) := goodIn_app (goodIn_of _ (by decide +kernel)) ggL_spans_X6_spans
theorem dL_spans_0 : decode cL_spans 0 = .ok (.aload 6, 2) := by decide +kernel
theorem dL_spans_2 : decode cL_spans 2 = .ok (.iconst 0, 1) := by decide +kernel
theorem dL_spans_3 : decode cL_spans 3 = .ok (.aload_n 0, 1) := by decide +kernel
theorem dL_spans_4 : decode cL_spans 4 = .ok (.iload_n 1, 1) := by decide +kernel
theorem dL_spans_5 : decode cL_spans 5 = .ok (.iload_n 2, 1) := by decide +kernel
theorem dL_spans_6 : decode cL_spans 6 = .ok (.iload_n 3, 1) := by decide +kernel
theorem dL_spans_7 : decode cL_spans 7 = .ok (.iload 4, 2) := by decide +kernel
theorem dL_spans_9 : decode cL_spans 9 = .ok (.iload 5, 2) := by decide +kernel
theorem dL_spans_11 : decode cL_spans 11 = .ok (.invokevirtual 45, 3) := by decide +kernel
theorem dL_spans_14 : decode cL_spans 14 = .ok (.i2l, 1) := by decide +kernel
theorem dL_spans_15 : decode cL_spans 15 = .ok (.lastore, 1) := by decide +kernel
theorem dL_spans_16 : decode cL_spans 16 = .ok (.goto 15, 3) := by decide +kernel
theorem dL_spans_19 : decode cL_spans 19 = .ok (.astore 7, 2) := by decide +kernel
theorem dL_spans_21 : decode cL_spans 21 = .ok (.iconst 1, 1) := by decide +kernel
theorem dL_spans_22 : decode cL_spans 22 = .ok (.ireturn, 1) := by decide +kernel
theorem dL_spans_23 : decode cL_spans 23 = .ok (.astore 7, 2) := by decide +kernel
theorem dL_spans_25 : decode cL_spans 25 = .ok (.iconst 2, 1) := by decide +kernel
theorem dL_spans_26 : decode cL_spans 26 = .ok (.ireturn, 1) := by decide +kernel
theorem dL_spans_27 : decode cL_spans 27 = .ok (.astore 7, 2) := by decide +kernel
theorem dL_spans_29 : decode cL_spans 29 = .ok (.iconst 3, 1) := by decide +kernel
theorem dL_spans_30 : decode cL_spans 30 = .ok (.ireturn, 1) := by decide +kernel
theorem dL_spans_31 : decode cL_spans 31 = .ok (.iconst 0, 1) := by decide +kernel
theorem dL_spans_32 : decode cL_spans 32 = .ok (.ireturn, 1) := by decide +kernel
set_option maxRecDepth 20000 in
theorem ggL_span_X6_span : GoodIn wsL_span wsX6_span := goodIn_ca (goodIn_r _ [6, 7, 8, 9, 10, 11, 12, 13, 14, 15, 16, 5, 17, 18, 19, 20, 21, 22, 23, 24, 25, 26, 27, 28, 29, 30, 31, 32, 33, 34] (by decide +kernel) (by decide +kernel)) (goodIn_sub (fun _ h => List.mem_cons_of_mem _ (List.mem_append_right _ h)) (by decide +kernel))
set_option maxRecDepth 20000 in
theorem gL_span_X6_span : GoodIn wsL_span (wsV RL 49 RX6 yX6_span wsX6_span) := goodIn_app (goodIn_of _ (by decide +kernel)) ggL_span_X6_span
theorem dL_span_0 : decode cL_span 0 = .ok (.aload 4, 2) := by decide +kernel
theorem dL_span_2 : decode cL_span 2 = .ok (.iconst 0, 1) := by decide +kernel
theorem dL_span_3 : decode cL_span 3 = .ok (.aload_n 0, 1) := by decide +kernel
theorem dL_span_4 : decode cL_span 4 = .ok (.iload_n 1, 1) := by decide +kernel
theorem dL_span_5 : decode cL_span 5 = .ok (.iload_n 2, 1) := by decide +kernel
theorem dL_span_6 : decode cL_span 6 = .ok (.iload_n 3, 1) := by decide +kernel
theorem dL_span_7 : decode cL_span 7 = .ok (.invokevirtual 49, 3) := by decide +kernel
theorem dL_span_10 : decode cL_span 10 = .ok (.lastore, 1) := by decide +kernel
theorem dL_span_11 : decode cL_span 11 = .ok (.goto 7, 3) := by decide +kernel
theorem dL_span_14 : decode cL_span 14 = .ok (.astore 5, 2) := by decide +kernel
theorem dL_span_16 : decode cL_span 16 = .ok (.iconst 1, 1) := by decide +kernel
theorem dL_span_17 : decode cL_span 17 = .ok (.ireturn, 1) := by decide +kernel
theorem dL_span_18 : decode cL_span 18 = .ok (.iconst 0, 1) := by decide +kernel
theorem dL_span_19 : decode cL_span 19 = .ok (.ireturn, 1) := by decide +kernel
