theorem mf_X6_init {s : State} (h : KW s) : MF s yX6_init cX6_init 1 (none : Option Jvm.ClassFile.FieldType) 0 := ⟨kw_52 h, kw_33 h, by decide +kernel⟩
theorem mf_X3_init {s : State} (h : KW s) : MF s yX3_init cX3_init 1 (none : Option Jvm.ClassFile.FieldType) 0 := ⟨kw_60 h, kw_34 h, by decide +kernel⟩
theorem mf_X0_init {s : State} (h : KW s) : MF s yX0_init cX0_init 2 (none : Option Jvm.ClassFile.FieldType) 0 := ⟨kw_66 h, kw_35 h, by decide +kernel⟩
theorem mf_X5_init {s : State} (h : KW s) : MF s yX5_init cX5_init 3 (none : Option Jvm.ClassFile.FieldType) 1 := ⟨kw_72 h, kw_36 h, by decide +kernel⟩
theorem mf_X1_init {s : State} (h : KW s) : MF s yX1_init cX1_init 1 (none : Option Jvm.ClassFile.FieldType) 0 := ⟨kw_127 h, kw_38 h, by decide +kernel⟩
theorem mf_X4_init {s : State} (h : KW s) : MF s yX4_init cX4_init 1 (none : Option Jvm.ClassFile.FieldType) 0 := ⟨kw_157 h, kw_39 h, by decide +kernel⟩
theorem mf_X2_init {s : State} (h : KW s) : MF s yX2_init cX2_init 1 (none : Option Jvm.ClassFile.FieldType) 0 := ⟨kw_190 h, kw_40 h, by decide +kernel⟩
theorem mf_X6_feed {s : State} (h : KW s) : MF s yX6_feed cX6_feed 4 (some .int) 2 := ⟨kw_254 h, kw_33 h, by decide +kernel⟩
theorem mf_X6_refuse {s : State} (h : KW s) : MF s yX6_refuse cX6_refuse 3 (some .int) 1 := ⟨kw_258 h, kw_33 h, by decide +kernel⟩
theorem mf_X4_append {s : State} (h : KW s) : MF s yX4_append cX4_append 5 (none : Option Jvm.ClassFile.FieldType) 2 := ⟨kw_262 h, kw_39 h, by decide +kernel⟩
theorem mf_X6_telling {s : State} (h : KW s) : MF s yX6_telling cX6_telling 4 (some .int) 1 := ⟨kw_266 h, kw_33 h, by decide +kernel⟩
theorem mf_X6_isBook {s : State} (h : KW s) : MF s yX6_isBook cX6_isBook 1 (some .boolean) 1 := ⟨kw_269 h, kw_33 h, by decide +kernel⟩
theorem mf_X3_bookAt {s : State} (h : KW s) : MF s yX3_bookAt cX3_bookAt 2 (some (.object RX0)) 1 := ⟨kw_273 h, kw_34 h, by decide +kernel⟩
theorem mf_X5_isFull {s : State} (h : KW s) : MF s yX5_isFull cX5_isFull 1 (some .boolean) 0 := ⟨kw_277 h, kw_36 h, by decide +kernel⟩
theorem mf_X4_read {s : State} (h : KW s) : MF s yX4_read cX4_read 1 (some .int) 0 := ⟨kw_281 h, kw_39 h, by decide +kernel⟩
theorem mf_X4_letterAt {s : State} (h : KW s) : MF s yX4_letterAt cX4_letterAt 3 (some .int) 1 := ⟨kw_285 h, kw_39 h, by decide +kernel⟩
theorem mf_X6_isWord {s : State} (h : KW s) : MF s yX6_isWord cX6_isWord 1 (some .boolean) 1 := ⟨kw_288 h, kw_33 h, by decide +kernel⟩
theorem mf_X4_readWords {s : State} (h : KW s) : MF s yX4_readWords cX4_readWords 3 (some .int) 0 := ⟨kw_377 h, kw_39 h, by decide +kernel⟩
theorem mf_X6_hasWord {s : State} (h : KW s) : MF s yX6_hasWord cX6_hasWord 2 (some .boolean) 2 := ⟨kw_380 h, kw_33 h, by decide +kernel⟩
theorem mf_X5_howManyOf {s : State} (h : KW s) : MF s yX5_howManyOf cX5_howManyOf 4 (some .int) 1 := ⟨kw_384 h, kw_36 h, by decide +kernel⟩
theorem mf_X5_add {s : State} (h : KW s) : MF s yX5_add cX5_add 2 (some .int) 1 := ⟨kw_388 h, kw_36 h, by decide +kernel⟩
theorem mf_X6_tellingOf {s : State} (h : KW s) : MF s yX6_tellingOf cX6_tellingOf 5 (some .int) 3 := ⟨kw_394 h, kw_33 h, by decide +kernel⟩
theorem mf_X5_has {s : State} (h : KW s) : MF s yX5_has cX5_has 2 (some .boolean) 1 := ⟨kw_398 h, kw_36 h, by decide +kernel⟩
theorem mf_X6_word {s : State} (h : KW s) : MF s yX6_word cX6_word 7 (some .int) 4 := ⟨kw_402 h, kw_33 h, by decide +kernel⟩
theorem mf_X6_all {s : State} (h : KW s) : MF s yX6_all cX6_all 5 (some .int) 3 := ⟨kw_407 h, kw_33 h, by decide +kernel⟩
theorem mf_X6_depth {s : State} (h : KW s) : MF s yX6_depth cX6_depth 4 (some .int) 3 := ⟨kw_412 h, kw_33 h, by decide +kernel⟩
theorem mf_X6_isSet {s : State} (h : KW s) : MF s yX6_isSet cX6_isSet 1 (some .boolean) 1 := ⟨kw_415 h, kw_33 h, by decide +kernel⟩
theorem mf_X0_roundOf {s : State} (h : KW s) : MF s yX0_roundOf cX0_roundOf 6 (some .int) 2 := ⟨kw_419 h, kw_35 h, by decide +kernel⟩
theorem mf_X0_taughtNext {s : State} (h : KW s) : MF s yX0_taughtNext cX0_taughtNext 6 (some .int) 1 := ⟨kw_424 h, kw_35 h, by decide +kernel⟩
theorem mf_X5_teaches {s : State} (h : KW s) : MF s yX5_teaches cX5_teaches 6 (some .boolean) 2 := ⟨kw_428 h, kw_36 h, by decide +kernel⟩
theorem mf_J6_bitCount_0f7a4 {s : State} (h : KW s) : MF s yJ6_bitCount_0f7a4 cJ6_bitCount_0f7a4 1 (some .int) 1 := ⟨kw_431 h, kw_47 h, by decide +kernel⟩
theorem mf_X6_learnt {s : State} (h : KW s) : MF s yX6_learnt cX6_learnt 3 (some .int) 2 := ⟨kw_438 h, kw_33 h, by decide +kernel⟩
theorem mf_X0_learntFrom {s : State} (h : KW s) : MF s yX0_learntFrom cX0_learntFrom 5 (some .int) 1 := ⟨kw_442 h, kw_35 h, by decide +kernel⟩
theorem mf_X6_put {s : State} (h : KW s) : MF s yX6_put cX6_put 2 (some .int) 1 := ⟨kw_446 h, kw_33 h, by decide +kernel⟩
theorem mf_X6_judge {s : State} (h : KW s) : MF s yX6_judge cX6_judge 4 (some .int) 2 := ⟨kw_450 h, kw_33 h, by decide +kernel⟩
theorem mf_X6_firstThatMayNot {s : State} (h : KW s) : MF s yX6_firstThatMayNot cX6_firstThatMayNot 6 (some .int) 2 := ⟨kw_454 h, kw_33 h, by decide +kernel⟩
theorem mf_X6_needed {s : State} (h : KW s) : MF s yX6_needed cX6_needed 3 (some .int) 2 := ⟨kw_459 h, kw_33 h, by decide +kernel⟩
theorem mf_X5_neededBy {s : State} (h : KW s) : MF s yX5_neededBy cX5_neededBy 4 (some .int) 1 := ⟨kw_463 h, kw_36 h, by decide +kernel⟩
theorem mf_X6_idle {s : State} (h : KW s) : MF s yX6_idle cX6_idle 2 (some .int) 1 := ⟨kw_467 h, kw_33 h, by decide +kernel⟩
theorem mf_X5_neededByAny {s : State} (h : KW s) : MF s yX5_neededByAny cX5_neededByAny 3 (some .int) 0 := ⟨kw_471 h, kw_36 h, by decide +kernel⟩
theorem mf_X6_leads {s : State} (h : KW s) : MF s yX6_leads cX6_leads 3 (some .int) 2 := ⟨kw_475 h, kw_33 h, by decide +kernel⟩
theorem mf_X5_reachedFrom {s : State} (h : KW s) : MF s yX5_reachedFrom cX5_reachedFrom 6 (some .int) 1 := ⟨kw_479 h, kw_36 h, by decide +kernel⟩
theorem mf_X6_knot {s : State} (h : KW s) : MF s yX6_knot cX6_knot 3 (some .int) 2 := ⟨kw_485 h, kw_33 h, by decide +kernel⟩
theorem mf_X5_knotOf {s : State} (h : KW s) : MF s yX5_knotOf cX5_knotOf 5 (some .int) 1 := ⟨kw_489 h, kw_36 h, by decide +kernel⟩
theorem mf_X6_knots {s : State} (h : KW s) : MF s yX6_knots cX6_knots 2 (some .int) 1 := ⟨kw_494 h, kw_33 h, by decide +kernel⟩
theorem mf_X5_howManyKnots {s : State} (h : KW s) : MF s yX5_howManyKnots cX5_howManyKnots 4 (some .int) 0 := ⟨kw_498 h, kw_36 h, by decide +kernel⟩
theorem mf_X6_leastWord {s : State} (h : KW s) : MF s yX6_leastWord cX6_leastWord 2 (some .int) 1 := ⟨kw_502 h, kw_33 h, by decide +kernel⟩
theorem mf_X6_fewest {s : State} (h : KW s) : MF s yX6_fewest cX6_fewest 2 (some .int) 1 := ⟨kw_506 h, kw_33 h, by decide +kernel⟩
theorem mf_X6_fewestOf {s : State} (h : KW s) : MF s yX6_fewestOf cX6_fewestOf 2 (some .int) 1 := ⟨kw_510 h, kw_33 h, by decide +kernel⟩
theorem mf_X2_find {s : State} (h : KW s) : MF s yX2_find cX2_find 5 (none : Option Jvm.ClassFile.FieldType) 2 := ⟨kw_514 h, kw_40 h, by decide +kernel⟩
theorem mf_X0_neverTaught {s : State} (h : KW s) : MF s yX0_neverTaught cX0_neverTaught 3 (some .int) 0 := ⟨kw_518 h, kw_35 h, by decide +kernel⟩
theorem mf_X2_look {s : State} (h : KW s) : MF s yX2_look cX2_look 6 (none : Option Jvm.ClassFile.FieldType) 2 := ⟨kw_523 h, kw_40 h, by decide +kernel⟩
theorem mf_X0_someTaughtNext {s : State} (h : KW s) : MF s yX0_someTaughtNext cX0_someTaughtNext 5 (some .int) 1 := ⟨kw_527 h, kw_35 h, by decide +kernel⟩
theorem mf_X2_note {s : State} (h : KW s) : MF s yX2_note cX2_note 3 (none : Option Jvm.ClassFile.FieldType) 1 := ⟨kw_531 h, kw_40 h, by decide +kernel⟩
theorem mf_X6_lightest {s : State} (h : KW s) : MF s yX6_lightest cX6_lightest 2 (some .int) 1 := ⟨kw_537 h, kw_33 h, by decide +kernel⟩
theorem mf_X2_leastHard {s : State} (h : KW s) : MF s yX2_leastHard cX2_leastHard 5 (some .int) 1 := ⟨kw_541 h, kw_40 h, by decide +kernel⟩
theorem mf_X2_lighter {s : State} (h : KW s) : MF s yX2_lighter cX2_lighter 6 (some .int) 3 := ⟨kw_545 h, kw_40 h, by decide +kernel⟩
theorem mf_X0_hardnessOf {s : State} (h : KW s) : MF s yX0_hardnessOf cX0_hardnessOf 4 (some .int) 1 := ⟨kw_549 h, kw_35 h, by decide +kernel⟩
theorem mf_J6_compare_7cf53 {s : State} (h : KW s) : MF s yJ6_compare_7cf53 cJ6_compare_7cf53 2 (some .int) 2 := ⟨kw_552 h, kw_47 h, by decide +kernel⟩
theorem mf_X6_sets {s : State} (h : KW s) : MF s yX6_sets cX6_sets 3 (some .int) 2 := ⟨kw_556 h, kw_33 h, by decide +kernel⟩
theorem mf_X6_soonest {s : State} (h : KW s) : MF s yX6_soonest cX6_soonest 7 (some .int) 2 := ⟨kw_560 h, kw_33 h, by decide +kernel⟩
theorem mf_X0_metMostAfter {s : State} (h : KW s) : MF s yX0_metMostAfter cX0_metMostAfter 6 (some .int) 1 := ⟨kw_564 h, kw_35 h, by decide +kernel⟩
theorem mf_X6_waits {s : State} (h : KW s) : MF s yX6_waits cX6_waits 7 (some .int) 1 := ⟨kw_568 h, kw_33 h, by decide +kernel⟩
theorem mf_X6_change {s : State} (h : KW s) : MF s yX6_change cX6_change 4 (some .int) 2 := ⟨kw_572 h, kw_33 h, by decide +kernel⟩
theorem mf_X1_add {s : State} (h : KW s) : MF s yX1_add cX1_add 5 (some .int) 3 := ⟨kw_576 h, kw_38 h, by decide +kernel⟩
theorem mf_X6_mend {s : State} (h : KW s) : MF s yX6_mend cX6_mend 8 (some .int) 1 := ⟨kw_581 h, kw_33 h, by decide +kernel⟩
theorem mf_X1_ofBook {s : State} (h : KW s) : MF s yX1_ofBook cX1_ofBook 4 (some .int) 1 := ⟨kw_585 h, kw_38 h, by decide +kernel⟩
theorem mf_X6_fewestWordsAfter {s : State} (h : KW s) : MF s yX6_fewestWordsAfter cX6_fewestWordsAfter 3 (some .int) 2 := ⟨kw_589 h, kw_33 h, by decide +kernel⟩
theorem mf_X0_copyFrom {s : State} (h : KW s) : MF s yX0_copyFrom cX0_copyFrom 3 (none : Option Jvm.ClassFile.FieldType) 1 := ⟨kw_593 h, kw_35 h, by decide +kernel⟩
theorem mf_X5_copyFrom {s : State} (h : KW s) : MF s yX5_copyFrom cX5_copyFrom 3 (none : Option Jvm.ClassFile.FieldType) 1 := ⟨kw_597 h, kw_36 h, by decide +kernel⟩
theorem mf_X5_replace {s : State} (h : KW s) : MF s yX5_replace cX5_replace 4 (none : Option Jvm.ClassFile.FieldType) 3 := ⟨kw_602 h, kw_36 h, by decide +kernel⟩
theorem mf_X1_makeIn {s : State} (h : KW s) : MF s yX1_makeIn cX1_makeIn 4 (none : Option Jvm.ClassFile.FieldType) 2 := ⟨kw_607 h, kw_38 h, by decide +kernel⟩
theorem mf_X6_spread {s : State} (h : KW s) : MF s yX6_spread cX6_spread 4 (some .int) 3 := ⟨kw_614 h, kw_33 h, by decide +kernel⟩
theorem mf_X0_wrongBy {s : State} (h : KW s) : MF s yX0_wrongBy cX0_wrongBy 7 (some .int) 2 := ⟨kw_618 h, kw_35 h, by decide +kernel⟩
theorem mf_X0_wrongAmong {s : State} (h : KW s) : MF s yX0_wrongAmong cX0_wrongAmong 6 (some .int) 3 := ⟨kw_622 h, kw_35 h, by decide +kernel⟩
theorem mf_X0_learntBy {s : State} (h : KW s) : MF s yX0_learntBy cX0_learntBy 4 (some .int) 2 := ⟨kw_626 h, kw_35 h, by decide +kernel⟩
theorem mf_X6_shows {s : State} (h : KW s) : MF s yX6_shows cX6_shows 5 (some .int) 3 := ⟨kw_631 h, kw_33 h, by decide +kernel⟩
theorem mf_X5_shownWords {s : State} (h : KW s) : MF s yX5_shownWords cX5_shownWords 3 (some .int) 0 := ⟨kw_635 h, kw_36 h, by decide +kernel⟩
theorem mf_X6_carries {s : State} (h : KW s) : MF s yX6_carries cX6_carries 3 (some .int) 1 := ⟨kw_640 h, kw_33 h, by decide +kernel⟩
theorem mf_X6_lacks {s : State} (h : KW s) : MF s yX6_lacks cX6_lacks 3 (some .int) 1 := ⟨kw_644 h, kw_33 h, by decide +kernel⟩
theorem mf_X6_image {s : State} (h : KW s) : MF s yX6_image cX6_image 1 (some .int) 0 := ⟨kw_648 h, kw_33 h, by decide +kernel⟩
theorem mf_X3_copyFrom {s : State} (h : KW s) : MF s yX3_copyFrom cX3_copyFrom 2 (none : Option Jvm.ClassFile.FieldType) 1 := ⟨kw_652 h, kw_34 h, by decide +kernel⟩
theorem mf_X1_copyFrom {s : State} (h : KW s) : MF s yX1_copyFrom cX1_copyFrom 3 (none : Option Jvm.ClassFile.FieldType) 1 := ⟨kw_657 h, kw_38 h, by decide +kernel⟩
theorem mf_X3_howManyTellings {s : State} (h : KW s) : MF s yX3_howManyTellings cX3_howManyTellings 1 (some .int) 0 := ⟨kw_662 h, kw_34 h, by decide +kernel⟩
theorem mf_X6_on {s : State} (h : KW s) : MF s yX6_on cX6_on 1 (some .int) 0 := ⟨kw_666 h, kw_33 h, by decide +kernel⟩
theorem mf_X6_count {s : State} (h : KW s) : MF s yX6_count cX6_count 2 (some .int) 1 := ⟨kw_670 h, kw_33 h, by decide +kernel⟩
theorem mf_X7_init {s : State} (h : KW s) : MF s yX7_init cX7_init 2 (none : Option Jvm.ClassFile.FieldType) 0 := ⟨kw_675 h, kw_41 h, by decide +kernel⟩
theorem mf_X7_feed {s : State} (h : KW s) : MF s yX7_feed cX7_feed 5 (some .int) 2 := ⟨kw_717 h, kw_41 h, by decide +kernel⟩
theorem mf_X7_refuse {s : State} (h : KW s) : MF s yX7_refuse cX7_refuse 2 (some .int) 1 := ⟨kw_721 h, kw_41 h, by decide +kernel⟩
theorem mf_X7_telling {s : State} (h : KW s) : MF s yX7_telling cX7_telling 4 (some .int) 1 := ⟨kw_726 h, kw_41 h, by decide +kernel⟩
theorem mf_X7_isBook {s : State} (h : KW s) : MF s yX7_isBook cX7_isBook 1 (some .boolean) 1 := ⟨kw_729 h, kw_41 h, by decide +kernel⟩
theorem mf_X7_isIn {s : State} (h : KW s) : MF s yX7_isIn cX7_isIn 2 (some .boolean) 2 := ⟨kw_732 h, kw_41 h, by decide +kernel⟩
theorem mf_X7_fault {s : State} (h : KW s) : MF s yX7_fault cX7_fault 2 (some .int) 0 := ⟨kw_736 h, kw_41 h, by decide +kernel⟩
theorem mf_X7_reads {s : State} (h : KW s) : MF s yX7_reads cX7_reads 3 (some .boolean) 0 := ⟨kw_740 h, kw_41 h, by decide +kernel⟩
theorem mf_X7_isWord {s : State} (h : KW s) : MF s yX7_isWord cX7_isWord 1 (some .boolean) 0 := ⟨kw_744 h, kw_41 h, by decide +kernel⟩
theorem mf_X7_sign {s : State} (h : KW s) : MF s yX7_sign cX7_sign 1 (some .int) 0 := ⟨kw_748 h, kw_41 h, by decide +kernel⟩
theorem mf_X7_kindOf {s : State} (h : KW s) : MF s yX7_kindOf cX7_kindOf 1 (some .int) 1 := ⟨kw_751 h, kw_41 h, by decide +kernel⟩
theorem mf_X7_tellingsOf {s : State} (h : KW s) : MF s yX7_tellingsOf cX7_tellingsOf 5 (some .int) 2 := ⟨kw_755 h, kw_41 h, by decide +kernel⟩
theorem mf_X7_get {s : State} (h : KW s) : MF s yX7_get cX7_get 4 (some .int) 3 := ⟨kw_759 h, kw_41 h, by decide +kernel⟩
theorem mf_X7_tellingOf {s : State} (h : KW s) : MF s yX7_tellingOf cX7_tellingOf 4 (some .int) 3 := ⟨kw_763 h, kw_41 h, by decide +kernel⟩
theorem mf_X7_isTelling {s : State} (h : KW s) : MF s yX7_isTelling cX7_isTelling 3 (some .boolean) 2 := ⟨kw_767 h, kw_41 h, by decide +kernel⟩
theorem mf_X7_word {s : State} (h : KW s) : MF s yX7_word cX7_word 8 (some .int) 4 := ⟨kw_771 h, kw_41 h, by decide +kernel⟩
theorem mf_X7_within {s : State} (h : KW s) : MF s yX7_within cX7_within 3 (some .int) 3 := ⟨kw_774 h, kw_41 h, by decide +kernel⟩
theorem mf_X7_all {s : State} (h : KW s) : MF s yX7_all cX7_all 6 (some .int) 3 := ⟨kw_778 h, kw_41 h, by decide +kernel⟩
theorem mf_X7_depth {s : State} (h : KW s) : MF s yX7_depth cX7_depth 6 (some .int) 3 := ⟨kw_782 h, kw_41 h, by decide +kernel⟩
theorem mf_X7_next {s : State} (h : KW s) : MF s yX7_next cX7_next 6 (some .int) 2 := ⟨kw_786 h, kw_41 h, by decide +kernel⟩
theorem mf_X7_teaches {s : State} (h : KW s) : MF s yX7_teaches cX7_teaches 6 (some .boolean) 3 := ⟨kw_790 h, kw_41 h, by decide +kernel⟩
theorem mf_X7_bits {s : State} (h : KW s) : MF s yX7_bits cX7_bits 3 (some .int) 1 := ⟨kw_793 h, kw_41 h, by decide +kernel⟩
theorem mf_X7_learnt {s : State} (h : KW s) : MF s yX7_learnt cX7_learnt 3 (some .int) 2 := ⟨kw_797 h, kw_41 h, by decide +kernel⟩
theorem mf_X7_learntBy {s : State} (h : KW s) : MF s yX7_learntBy cX7_learntBy 5 (some .int) 2 := ⟨kw_801 h, kw_41 h, by decide +kernel⟩
theorem mf_X7_put {s : State} (h : KW s) : MF s yX7_put cX7_put 3 (some .int) 1 := ⟨kw_805 h, kw_41 h, by decide +kernel⟩
theorem mf_X7_judge {s : State} (h : KW s) : MF s yX7_judge cX7_judge 7 (some .int) 2 := ⟨kw_809 h, kw_41 h, by decide +kernel⟩
theorem mf_X7_needed {s : State} (h : KW s) : MF s yX7_needed cX7_needed 3 (some .int) 2 := ⟨kw_813 h, kw_41 h, by decide +kernel⟩
theorem mf_X7_neededBy {s : State} (h : KW s) : MF s yX7_neededBy cX7_neededBy 5 (some .int) 2 := ⟨kw_817 h, kw_41 h, by decide +kernel⟩
theorem mf_X7_idle {s : State} (h : KW s) : MF s yX7_idle cX7_idle 4 (some .int) 1 := ⟨kw_821 h, kw_41 h, by decide +kernel⟩
theorem mf_X7_leads {s : State} (h : KW s) : MF s yX7_leads cX7_leads 3 (some .int) 2 := ⟨kw_825 h, kw_41 h, by decide +kernel⟩
theorem mf_X7_leadsBy {s : State} (h : KW s) : MF s yX7_leadsBy cX7_leadsBy 6 (some .int) 2 := ⟨kw_829 h, kw_41 h, by decide +kernel⟩
theorem mf_X7_knot {s : State} (h : KW s) : MF s yX7_knot cX7_knot 3 (some .int) 2 := ⟨kw_833 h, kw_41 h, by decide +kernel⟩
theorem mf_X7_knotBy {s : State} (h : KW s) : MF s yX7_knotBy cX7_knotBy 6 (some .int) 2 := ⟨kw_837 h, kw_41 h, by decide +kernel⟩
theorem mf_X7_knots {s : State} (h : KW s) : MF s yX7_knots cX7_knots 5 (some .int) 1 := ⟨kw_841 h, kw_41 h, by decide +kernel⟩
theorem mf_X7_fewest {s : State} (h : KW s) : MF s yX7_fewest cX7_fewest 2 (some .int) 1 := ⟨kw_845 h, kw_41 h, by decide +kernel⟩
theorem mf_X7_fewestOf {s : State} (h : KW s) : MF s yX7_fewestOf cX7_fewestOf 4 (some .int) 1 := ⟨kw_849 h, kw_41 h, by decide +kernel⟩
theorem mf_X7_isFoundation {s : State} (h : KW s) : MF s yX7_isFoundation cX7_isFoundation 3 (some .boolean) 2 := ⟨kw_853 h, kw_41 h, by decide +kernel⟩
theorem mf_X7_lightest {s : State} (h : KW s) : MF s yX7_lightest cX7_lightest 6 (some .int) 1 := ⟨kw_857 h, kw_41 h, by decide +kernel⟩
theorem mf_X7_hardOf {s : State} (h : KW s) : MF s yX7_hardOf cX7_hardOf 5 (some .int) 2 := ⟨kw_861 h, kw_41 h, by decide +kernel⟩
theorem mf_X7_sets {s : State} (h : KW s) : MF s yX7_sets cX7_sets 8 (some .int) 2 := ⟨kw_865 h, kw_41 h, by decide +kernel⟩
theorem mf_X7_soonest {s : State} (h : KW s) : MF s yX7_soonest cX7_soonest 3 (some .int) 2 := ⟨kw_869 h, kw_41 h, by decide +kernel⟩
theorem mf_X7_findSoonest {s : State} (h : KW s) : MF s yX7_findSoonest cX7_findSoonest 7 (some .int) 1 := ⟨kw_873 h, kw_41 h, by decide +kernel⟩
theorem mf_X7_waits {s : State} (h : KW s) : MF s yX7_waits cX7_waits 5 (some .int) 1 := ⟨kw_877 h, kw_41 h, by decide +kernel⟩
theorem mf_X7_change {s : State} (h : KW s) : MF s yX7_change cX7_change 6 (some .int) 2 := ⟨kw_881 h, kw_41 h, by decide +kernel⟩
theorem mf_X7_mend {s : State} (h : KW s) : MF s yX7_mend cX7_mend 9 (some .int) 1 := ⟨kw_885 h, kw_41 h, by decide +kernel⟩
theorem mf_X7_spread {s : State} (h : KW s) : MF s yX7_spread cX7_spread 5 (some .int) 3 := ⟨kw_889 h, kw_41 h, by decide +kernel⟩
theorem mf_X7_wrongSpread {s : State} (h : KW s) : MF s yX7_wrongSpread cX7_wrongSpread 4 (some .int) 3 := ⟨kw_893 h, kw_41 h, by decide +kernel⟩
theorem mf_X7_spreads {s : State} (h : KW s) : MF s yX7_spreads cX7_spreads 9 (some .int) 3 := ⟨kw_897 h, kw_41 h, by decide +kernel⟩
theorem mf_X7_isWrong {s : State} (h : KW s) : MF s yX7_isWrong cX7_isWrong 7 (some .boolean) 4 := ⟨kw_901 h, kw_41 h, by decide +kernel⟩
theorem mf_X7_shows {s : State} (h : KW s) : MF s yX7_shows cX7_shows 8 (some .int) 3 := ⟨kw_905 h, kw_41 h, by decide +kernel⟩
theorem mf_X7_carries {s : State} (h : KW s) : MF s yX7_carries cX7_carries 2 (some .int) 1 := ⟨kw_909 h, kw_41 h, by decide +kernel⟩
theorem mf_X7_lacks {s : State} (h : KW s) : MF s yX7_lacks cX7_lacks 5 (some .int) 1 := ⟨kw_913 h, kw_41 h, by decide +kernel⟩
theorem mf_X7_image {s : State} (h : KW s) : MF s yX7_image cX7_image 2 (some .int) 0 := ⟨kw_917 h, kw_41 h, by decide +kernel⟩
theorem mf_X7_on {s : State} (h : KW s) : MF s yX7_on cX7_on 2 (some .int) 0 := ⟨kw_921 h, kw_41 h, by decide +kernel⟩
theorem mf_X7_count {s : State} (h : KW s) : MF s yX7_count cX7_count 2 (some .int) 1 := ⟨kw_925 h, kw_41 h, by decide +kernel⟩
theorem ku_X0 {U : State} {A : Array Value} (h : KW U) : ∀ w ∈ u_ws RX0 TX0 4, w.before A U = true := by
  have h1 : ∀ w ∈ u_ws RX0 TX0 4, w ∈ lw_tbl ∧ okW w = true := by decide +kernel
  exact fun w hw => va_Nw.use (okW_tab (h1 w hw).2) (h w (h1 w hw).1 (h1 w hw).2)
theorem ku_X1 {U : State} {A : Array Value} (h : KW U) : ∀ w ∈ u_ws RX1 TX1 3, w.before A U = true := by
  have h1 : ∀ w ∈ u_ws RX1 TX1 3, w ∈ lw_tbl ∧ okW w = true := by decide +kernel
  exact fun w hw => va_Nw.use (okW_tab (h1 w hw).2) (h w (h1 w hw).1 (h1 w hw).2)
theorem ku_X2 {U : State} {A : Array Value} (h : KW U) : ∀ w ∈ u_ws RX2 TX2 8, w.before A U = true := by
  have h1 : ∀ w ∈ u_ws RX2 TX2 8, w ∈ lw_tbl ∧ okW w = true := by decide +kernel
  exact fun w hw => va_Nw.use (okW_tab (h1 w hw).2) (h w (h1 w hw).1 (h1 w hw).2)
theorem ku_X3 {U : State} {A : Array Value} (h : KW U) : ∀ w ∈ u_ws RX3 TX3 3, w.before A U = true := by
  have h1 : ∀ w ∈ u_ws RX3 TX3 3, w ∈ lw_tbl ∧ okW w = true := by decide +kernel
  exact fun w hw => va_Nw.use (okW_tab (h1 w hw).2) (h w (h1 w hw).1 (h1 w hw).2)
theorem ku_X4 {U : State} {A : Array Value} (h : KW U) : ∀ w ∈ u_ws RX4 TX4 6, w.before A U = true := by
  have h1 : ∀ w ∈ u_ws RX4 TX4 6, w ∈ lw_tbl ∧ okW w = true := by decide +kernel
  exact fun w hw => va_Nw.use (okW_tab (h1 w hw).2) (h w (h1 w hw).1 (h1 w hw).2)
theorem ku_X5 {U : State} {A : Array Value} (h : KW U) : ∀ w ∈ u_ws RX5 TX5 5, w.before A U = true := by
  have h1 : ∀ w ∈ u_ws RX5 TX5 5, w ∈ lw_tbl ∧ okW w = true := by decide +kernel
  exact fun w hw => va_Nw.use (okW_tab (h1 w hw).2) (h w (h1 w hw).1 (h1 w hw).2)
theorem ku_X6 {U : State} {A : Array Value} (h : KW U) : ∀ w ∈ u_ws RX6 TX6 9, w.before A U = true := by
  have h1 : ∀ w ∈ u_ws RX6 TX6 9, w ∈ lw_tbl ∧ okW w = true := by decide +kernel
  exact fun w hw => va_Nw.use (okW_tab (h1 w hw).2) (h w (h1 w hw).1 (h1 w hw).2)
theorem ku_X7 {U : State} {A : Array Value} (h : KW U) : ∀ w ∈ u_ws RX7 TX7 12, w.before A U = true := by
  have h1 : ∀ w ∈ u_ws RX7 TX7 12, w ∈ lw_tbl ∧ okW w = true := by decide +kernel
  exact fun w hw => va_Nw.use (okW_tab (h1 w hw).2) (h w (h1 w hw).1 (h1 w hw).2)
