def wsL_law_r3 : List Cond := [Cond.fieldLink RX2 15 "NotedHouse$Text" "length" "I", Cond.fieldLink RX2 19 "NotedHouse$Text" "first" "I", Cond.fieldLink RX2 22 "NotedHouse$Text" "behind" "I", Cond.fieldLink RX2 25 "NotedHouse$Text" "token" "I", Cond.fieldLink RX2 28 "NotedHouse$Text" "number" "I", Cond.instanceMethod yX1_init, Cond.code yX1_init cX1_init 1 none, Cond.methodLink RX1 3 objectInit, Cond.arrayClass .long, Cond.fieldLink RX1 9 "NotedHouse$Sheet" "row" "[J", Cond.fieldLink RX1 15 "NotedHouse$Sheet" "bits" "I", Cond.fieldLink RX1 19 "NotedHouse$Sheet" "size" "I", Cond.methodLink RL 12 yX4_init, Cond.instanceMethod yX4_init, Cond.code yX4_init cX4_init 2 none, Cond.methodLink RX4 1 objectInit, Cond.fieldLink RX4 7 "NotedHouseModel" "d" "[I", Cond.fieldLink RX4 13 "NotedHouseModel" "e" "[I", Cond.fieldLink RX4 16 "NotedHouseModel" "aside" "[I", Cond.fieldLink RX4 19 "NotedHouseModel" "kept" "[I", Cond.fieldLink RX4 22 "NotedHouseModel" "found" "[I", Cond.fieldLink RX4 25 "NotedHouseModel" "tape" "[B", Cond.fieldLink RX4 29 "NotedHouseModel" "doing" "[I", Cond.fieldLink RX4 32 "NotedHouseModel" "bitsOf" "[I"]
def wsL_law_r4 : List Cond := [Cond.fieldLink RX4 35 "NotedHouseModel" "sizeOf" "[I", Cond.fieldLink RX4 38 "NotedHouseModel" "number" "[J", Cond.fieldLink RX4 42 "NotedHouseModel" "passing" "[J", Cond.methodLink RL 13 yX3_play, Cond.instanceMethod yX3_play, Cond.selects RX3 yX3_play yX3_play, Cond.code yX3_play cX3_play 5 (some .int), Cond.constant RX3 48 (-1000000001), Cond.methodLink RX3 44 yX3_isIn, Cond.static yX3_isIn, Cond.code yX3_isIn cX3_isIn 3 (some .boolean), Cond.methodLink RX3 49 yX3_finding, Cond.instanceMethod yX3_finding, Cond.selects RX3 yX3_finding yX3_finding, Cond.code yX3_finding cX3_finding 3 (some .int), Cond.methodLink RL 17 yX4_play, Cond.instanceMethod yX4_play, Cond.selects RX4 yX4_play yX4_play, Cond.code yX4_play cX4_play 4 (some .int), Cond.constantLong RX4 85 (4), Cond.constantLong RX4 90 (20), Cond.methodLink RX4 87 yX4_isMoment, Cond.static yX4_isMoment, Cond.code yX4_isMoment cX4_isMoment 1 (some .boolean)]
def wsL_law_r5 : List Cond := [Cond.constantLong RX4 83 (15), Cond.methodLink RX4 46 yX4_in, Cond.static yX4_in, Cond.code yX4_in cX4_in 6 (some .boolean), Cond.methodLink RX4 92 yX4_finds, Cond.instanceMethod yX4_finds, Cond.selects RX4 yX4_finds yX4_finds, Cond.code yX4_finds cX4_finds 2 (some .int), Cond.constant RX4 45 (-1000000001), Cond.methodLink RX4 95 yX4_becomes, Cond.instanceMethod yX4_becomes, Cond.selects RX4 yX4_becomes yX4_becomes, Cond.code yX4_becomes cX4_becomes 4 (some .int), Cond.methodLink RL 18 yX3_now, Cond.instanceMethod yX3_now, Cond.selects RX3 yX3_now yX3_now, Cond.code yX3_now cX3_now 2 (some .int), Cond.instanceMethod yX0_allNotes, Cond.selects RX0 yX0_allNotes yX0_allNotes, Cond.code yX0_allNotes cX0_allNotes 1 (some .int), Cond.methodLink RX0 53 yX0_sum, Cond.static yX0_sum, Cond.code yX0_sum cX0_sum 4 (some .int), Cond.instanceMethod yX0_whoDoAsAsked]
def wsL_law_r6 : List Cond := [Cond.selects RX0 yX0_whoDoAsAsked yX0_whoDoAsAsked, Cond.code yX0_whoDoAsAsked cX0_whoDoAsAsked 3 (some .int), Cond.methodLink RX0 57 yX0_deedOf, Cond.instanceMethod yX0_deedOf, Cond.selects RX0 yX0_deedOf yX0_deedOf, Cond.code yX0_deedOf cX0_deedOf 2 (some .int), Cond.methodLink RX0 61 yX0_cougherDeed, Cond.instanceMethod yX0_cougherDeed, Cond.selects RX0 yX0_cougherDeed yX0_cougherDeed, Cond.code yX0_cougherDeed cX0_cougherDeed 2 (some .int), Cond.methodLink RX0 67 yX0_neighbourDid, Cond.instanceMethod yX0_neighbourDid, Cond.selects RX0 yX0_neighbourDid yX0_neighbourDid, Cond.code yX0_neighbourDid cX0_neighbourDid 3 (some .boolean), Cond.methodLink RX0 71 yX0_sitterDeed, Cond.instanceMethod yX0_sitterDeed, Cond.selects RX0 yX0_sitterDeed yX0_sitterDeed, Cond.code yX0_sitterDeed cX0_sitterDeed 2 (some .int), Cond.methodLink RX0 64 yX0_weeperDeed, Cond.instanceMethod yX0_weeperDeed, Cond.selects RX0 yX0_weeperDeed yX0_weeperDeed, Cond.code yX0_weeperDeed cX0_weeperDeed 2 (some .int), Cond.instanceMethod yX0_allFresh, Cond.selects RX0 yX0_allFresh yX0_allFresh]
def wsL_law_r7 : List Cond := [Cond.code yX0_allFresh cX0_allFresh 1 (some .int), Cond.methodLink RL 22 yX4_now, Cond.instanceMethod yX4_now, Cond.selects RX4 yX4_now yX4_now, Cond.code yX4_now cX4_now 2 (some .int), Cond.methodLink RX4 98 yX4_sumOf, Cond.instanceMethod yX4_sumOf, Cond.selects RX4 yX4_sumOf yX4_sumOf, Cond.code yX4_sumOf cX4_sumOf 4 (some .int), Cond.methodLink RX4 54 yX4_its, Cond.instanceMethod yX4_its, Cond.selects RX4 yX4_its yX4_its, Cond.code yX4_its cX4_its 3 (some .int), Cond.methodLink RX4 101 yX4_doers, Cond.instanceMethod yX4_doers, Cond.selects RX4 yX4_doers yX4_doers, Cond.code yX4_doers cX4_doers 7 (some .int), Cond.methodLink RX4 66 yX4_doesNow, Cond.instanceMethod yX4_doesNow, Cond.selects RX4 yX4_doesNow yX4_doesNow, Cond.code yX4_doesNow cX4_doesNow 6 (some .int), Cond.methodLink RX4 58 yX4_isBeside, Cond.instanceMethod yX4_isBeside, Cond.selects RX4 yX4_isBeside yX4_isBeside]
def wsL_law_r8 : List Cond := [Cond.code yX4_isBeside cX4_isBeside 3 (some .boolean), Cond.methodLink RX4 50 yX4_isPerson, Cond.instanceMethod yX4_isPerson, Cond.selects RX4 yX4_isPerson yX4_isPerson, Cond.code yX4_isPerson cX4_isPerson 2 (some .boolean), Cond.methodLink RL 23 yX3_person, Cond.instanceMethod yX3_person, Cond.selects RX3 yX3_person yX3_person, Cond.code yX3_person cX3_person 2 (some .int), Cond.constant RX3 79 (-1000000002), Cond.instanceMethod yX0_seat, Cond.selects RX0 yX0_seat yX0_seat, Cond.code yX0_seat cX0_seat 4 (some .int), Cond.methodLink RL 26 yX4_person, Cond.instanceMethod yX4_person, Cond.selects RX4 yX4_person yX4_person, Cond.code yX4_person cX4_person 2 (some .int), Cond.constantLong RX4 105 (5), Cond.methodLink RX4 107 yX4_comesIn, Cond.instanceMethod yX4_comesIn, Cond.selects RX4 yX4_comesIn yX4_comesIn, Cond.code yX4_comesIn cX4_comesIn 3 (some .int), Cond.methodLink RX4 73 yX4_sets, Cond.instanceMethod yX4_sets]
def wsL_law_r9 : List Cond := [Cond.selects RX4 yX4_sets yX4_sets, Cond.code yX4_sets cX4_sets 4 none, Cond.methodLink RL 27 yX3_of, Cond.instanceMethod yX3_of, Cond.selects RX3 yX3_of yX3_of, Cond.code yX3_of cX3_of 3 (some .int), Cond.methodLink RX3 84 yX3_isThere, Cond.instanceMethod yX3_isThere, Cond.selects RX3 yX3_isThere yX3_isThere, Cond.code yX3_isThere cX3_isThere 2 (some .boolean), Cond.methodLink RX3 103 yX3_staleness, Cond.static yX3_staleness, Cond.code yX3_staleness cX3_staleness 1 (some .int), Cond.methodLink RL 31 yX4_of, Cond.instanceMethod yX4_of, Cond.selects RX4 yX4_of yX4_of, Cond.code yX4_of cX4_of 3 (some .int), Cond.methodLink RX4 77 yX4_stales, Cond.instanceMethod yX4_stales, Cond.selects RX4 yX4_stales yX4_stales, Cond.code yX4_stales cX4_stales 2 (some .int), Cond.methodLink RL 32 yX3_scores, Cond.instanceMethod yX3_scores, Cond.selects RX3 yX3_scores yX3_scores]
def wsL_law_r10 : List Cond := [Cond.code yX3_scores cX3_scores 4 (some .int), Cond.methodLink RX3 106 yX3_scoreFor, Cond.static yX3_scoreFor, Cond.code yX3_scoreFor cX3_scoreFor 3 (some .int), Cond.methodLink RX3 209 Lib.Math.max.name, Cond.static Lib.Math.max.name, Cond.initialized "java/lang/Math", Cond.code Lib.Math.max.name Lib.Math.max.code 2 (some .int), Cond.methodLink RX3 215 yX3_cougherScore, Cond.static yX3_cougherScore, Cond.code yX3_cougherScore cX3_cougherScore 2 (some .int), Cond.methodLink RX3 221 yX3_sitterScore, Cond.static yX3_sitterScore, Cond.code yX3_sitterScore cX3_sitterScore 2 (some .int), Cond.methodLink RX3 218 yX3_weeperScore, Cond.static yX3_weeperScore, Cond.code yX3_weeperScore cX3_weeperScore 2 (some .int), Cond.methodLink RL 35 yX4_scores, Cond.instanceMethod yX4_scores, Cond.selects RX4 yX4_scores yX4_scores, Cond.code yX4_scores cX4_scores 4 (some .int), Cond.methodLink RX4 110 yX4_isDone, Cond.static yX4_isDone, Cond.code yX4_isDone cX4_isDone 1 (some .boolean)]
def wsL_law_r11 : List Cond := [Cond.methodLink RX4 70 yX4_scoresFor, Cond.instanceMethod yX4_scoresFor, Cond.selects RX4 yX4_scoresFor yX4_scoresFor, Cond.code yX4_scoresFor cX4_scoresFor 7 (some .int), Cond.methodLink RX4 62 yX4_held, Cond.static yX4_held, Cond.code yX4_held cX4_held 3 (some .int), Cond.methodLink RL 36 yX3_set, Cond.instanceMethod yX3_set, Cond.selects RX3 yX3_set yX3_set, Cond.code yX3_set cX3_set 5 (some .int), Cond.methodLink RL 39 yX4_set, Cond.instanceMethod yX4_set, Cond.selects RX4 yX4_set yX4_set, Cond.code yX4_set cX4_set 5 (some .int), Cond.constantLong RX4 113 (99), Cond.constantLong RX4 115 (-9999), Cond.constantLong RX4 117 (9999), Cond.methodLink RL 40 yX3_turn, Cond.instanceMethod yX3_turn, Cond.selects RX3 yX3_turn yX3_turn, Cond.code yX3_turn cX3_turn 4 (some .int), Cond.methodLink RL 43 yX4_turn, Cond.instanceMethod yX4_turn]
def wsL_law_r12 : List Cond := [Cond.selects RX4 yX4_turn yX4_turn, Cond.code yX4_turn cX4_turn 3 (some .int), Cond.methodLink RL 44 yX3_as, Cond.instanceMethod yX3_as, Cond.selects RX3 yX3_as yX3_as, Cond.code yX3_as cX3_as 3 (some .int), Cond.constant RX3 114 (-1000000003), Cond.methodLink RX3 110 yX3_isUnder, Cond.static yX3_isUnder, Cond.code yX3_isUnder cX3_isUnder 4 (some .boolean), Cond.fieldLink RX3 212 "NotedHouse" "KIND_ABOVE" "[I", Cond.methodLink RL 47 yX4_as, Cond.instanceMethod yX4_as, Cond.selects RX4 yX4_as yX4_as, Cond.code yX4_as cX4_as 4 (some .int), Cond.methodLink RL 48 yX3_swap, Cond.instanceMethod yX3_swap, Cond.selects RX3 yX3_swap yX3_swap, Cond.code yX3_swap cX3_swap 3 (some .int), Cond.instanceMethod yX0_changeSeats, Cond.selects RX0 yX0_changeSeats yX0_changeSeats, Cond.code yX0_changeSeats cX0_changeSeats 3 none, Cond.methodLink RX0 49 yX0_exchange, Cond.static yX0_exchange]
def wsL_law_r13 : List Cond := [Cond.code yX0_exchange cX0_exchange 4 none, Cond.methodLink RL 51 yX4_swap, Cond.instanceMethod yX4_swap, Cond.selects RX4 yX4_swap yX4_swap, Cond.code yX4_swap cX4_swap 3 (some .int), Cond.methodLink RX4 119 yX4_swaps, Cond.instanceMethod yX4_swaps, Cond.selects RX4 yX4_swaps yX4_swaps, Cond.code yX4_swaps cX4_swaps 5 none, Cond.methodLink RL 52 yX3_moments, Cond.instanceMethod yX3_moments, Cond.selects RX3 yX3_moments yX3_moments, Cond.code yX3_moments cX3_moments 2 (some .int), Cond.constant RX3 119 (-1000000005), Cond.instanceMethod yX0_goOn, Cond.selects RX0 yX0_goOn yX0_goOn, Cond.code yX0_goOn cX0_goOn 3 none, Cond.methodLink RX0 82 yX0_go, Cond.instanceMethod yX0_go, Cond.selects RX0 yX0_go yX0_go, Cond.code yX0_go cX0_go 3 none, Cond.static yX3_held, Cond.code yX3_held cX3_held 3 (some .int), Cond.methodLink RX3 204 Lib.Math.min.name]
def wsL_law_r14 : List Cond := [Cond.static Lib.Math.min.name, Cond.code Lib.Math.min.name Lib.Math.min.code 2 (some .int), Cond.methodLink RX0 92 yX0_endNight, Cond.instanceMethod yX0_endNight, Cond.selects RX0 yX0_endNight yX0_endNight, Cond.code yX0_endNight cX0_endNight 2 none, Cond.methodLink RL 55 yX4_moments, Cond.instanceMethod yX4_moments, Cond.selects RX4 yX4_moments yX4_moments, Cond.code yX4_moments cX4_moments 2 (some .int), Cond.constantLong RX4 123 (200), Cond.methodLink RX4 125 yX4_momentsGo, Cond.instanceMethod yX4_momentsGo, Cond.selects RX4 yX4_momentsGo yX4_momentsGo, Cond.code yX4_momentsGo cX4_momentsGo 3 none, Cond.methodLink RX4 80 yX4_momentGoes, Cond.instanceMethod yX4_momentGoes, Cond.selects RX4 yX4_momentGoes yX4_momentGoes, Cond.code yX4_momentGoes cX4_momentGoes 3 none, Cond.methodLink RL 56 yX3_note, Cond.instanceMethod yX3_note, Cond.selects RX3 yX3_note yX3_note, Cond.code yX3_note cX3_note 3 (some .int), Cond.methodLink RX3 124 yX3_startTrial]
def wsL_law_r15 : List Cond := [Cond.instanceMethod yX3_startTrial, Cond.selects RX3 yX3_startTrial yX3_startTrial, Cond.code yX3_startTrial cX3_startTrial 1 none, Cond.instanceMethod yX0_become, Cond.selects RX0 yX0_become yX0_become, Cond.code yX0_become cX0_become 2 none, Cond.methodLink RX0 43 arraycopyName, Cond.native arraycopyName, Cond.static arraycopyName, Cond.initialized "java/lang/System", Cond.methodLink RL 59 yX4_note, Cond.instanceMethod yX4_note, Cond.selects RX4 yX4_note yX4_note, Cond.code yX4_note cX4_note 3 (some .int), Cond.methodLink RX4 137 yX4_isAhead, Cond.static yX4_isAhead, Cond.code yX4_isAhead cX4_isAhead 1 (some .boolean), Cond.constantLong RX4 133 (400), Cond.methodLink RX4 129 yX4_copies, Cond.static yX4_copies, Cond.code yX4_copies cX4_copies 3 none, Cond.methodLink RX4 140 yX4_whereNote, Cond.instanceMethod yX4_whereNote, Cond.selects RX4 yX4_whereNote yX4_whereNote]
def wsL_law_r16 : List Cond := [Cond.code yX4_whereNote cX4_whereNote 2 (some .int), Cond.methodLink RX4 143 yX4_behind, Cond.instanceMethod yX4_behind, Cond.selects RX4 yX4_behind yX4_behind, Cond.code yX4_behind cX4_behind 4 (some .int), Cond.methodLink RL 60 yX3_on, Cond.instanceMethod yX3_on, Cond.selects RX3 yX3_on yX3_on, Cond.code yX3_on cX3_on 4 (some .int), Cond.methodLink RL 63 yX4_on, Cond.instanceMethod yX4_on, Cond.selects RX4 yX4_on yX4_on, Cond.code yX4_on cX4_on 4 (some .int), Cond.methodLink RL 64 yX3_house, Cond.instanceMethod yX3_house, Cond.selects RX3 yX3_house yX3_house, Cond.code yX3_house cX3_house 2 (some .int), Cond.instanceMethod yX0_allNotesOn, Cond.selects RX0 yX0_allNotesOn yX0_allNotesOn, Cond.code yX0_allNotesOn cX0_allNotesOn 2 (some .int), Cond.methodLink RX0 74 yX0_goOn, Cond.methodLink RX0 78 yX0_allNotes, Cond.methodLink RL 67 yX4_house, Cond.instanceMethod yX4_house]
def wsL_law_r17 : List Cond := [Cond.selects RX4 yX4_house yX4_house, Cond.code yX4_house cX4_house 2 (some .int), Cond.methodLink RX4 146 yX4_houseBehind, Cond.instanceMethod yX4_houseBehind, Cond.selects RX4 yX4_houseBehind yX4_houseBehind, Cond.code yX4_houseBehind cX4_houseBehind 3 (some .int), Cond.methodLink RL 68 yX3_heard, Cond.instanceMethod yX3_heard, Cond.selects RX3 yX3_heard yX3_heard, Cond.code yX3_heard cX3_heard 3 (some .int), Cond.instanceMethod yX0_howManyDo, Cond.selects RX0 yX0_howManyDo yX0_howManyDo, Cond.code yX0_howManyDo cX0_howManyDo 4 (some .int), Cond.methodLink RL 71 yX4_heard, Cond.instanceMethod yX4_heard, Cond.selects RX4 yX4_heard yX4_heard, Cond.code yX4_heard cX4_heard 4 (some .int), Cond.methodLink RL 72 yX3_does, Cond.instanceMethod yX3_does, Cond.selects RX3 yX3_does yX3_does, Cond.code yX3_does cX3_does 4 (some .int), Cond.constant RX3 136 (-1000000004), Cond.methodLink RL 75 yX4_does, Cond.instanceMethod yX4_does]
def wsL_law_r18 : List Cond := [Cond.selects RX4 yX4_does yX4_does, Cond.code yX4_does cX4_does 5 (some .int), Cond.methodLink RL 76 yX3_comes, Cond.instanceMethod yX3_comes, Cond.selects RX3 yX3_comes yX3_comes, Cond.code yX3_comes cX3_comes 4 (some .int), Cond.methodLink RL 79 yX4_comes, Cond.instanceMethod yX4_comes, Cond.selects RX4 yX4_comes yX4_comes, Cond.code yX4_comes cX4_comes 5 (some .int), Cond.methodLink RL 80 yX3_place, Cond.instanceMethod yX3_place, Cond.selects RX3 yX3_place yX3_place, Cond.code yX3_place cX3_place 7 (some .int), Cond.methodLink RL 83 yX4_place, Cond.instanceMethod yX4_place, Cond.selects RX4 yX4_place yX4_place, Cond.code yX4_place cX4_place 7 (some .int), Cond.methodLink RX4 149 yX4_isShort, Cond.static yX4_isShort, Cond.code yX4_isShort cX4_isShort 1 (some .boolean), Cond.constantLong RX4 135 (100), Cond.methodLink RL 84 yX3_kind, Cond.instanceMethod yX3_kind]
def wsL_law_r19 : List Cond := [Cond.selects RX3 yX3_kind yX3_kind, Cond.code yX3_kind cX3_kind 6 (some .int), Cond.methodLink RL 87 yX4_kind, Cond.instanceMethod yX4_kind, Cond.selects RX4 yX4_kind yX4_kind, Cond.code yX4_kind cX4_kind 7 (some .int), Cond.methodLink RL 88 yX3_fresh, Cond.instanceMethod yX3_fresh, Cond.selects RX3 yX3_fresh yX3_fresh, Cond.code yX3_fresh cX3_fresh 5 (some .int), Cond.methodLink RL 91 yX4_fresh, Cond.instanceMethod yX4_fresh, Cond.selects RX4 yX4_fresh yX4_fresh, Cond.code yX4_fresh cX4_fresh 5 (some .int), Cond.methodLink RL 92 yX3_cue, Cond.instanceMethod yX3_cue, Cond.selects RX3 yX3_cue yX3_cue, Cond.code yX3_cue cX3_cue 6 (some .int), Cond.constant RX3 137 (-79993), Cond.methodLink RL 95 yX4_cue, Cond.instanceMethod yX4_cue, Cond.selects RX4 yX4_cue yX4_cue, Cond.code yX4_cue cX4_cue 6 (some .int), Cond.constantLong RX4 152 (60)]
def wsL_law_r20 : List Cond := [Cond.constant RX4 154 (-100000), Cond.methodLink RL 96 yX3_doze, Cond.instanceMethod yX3_doze, Cond.selects RX3 yX3_doze yX3_doze, Cond.code yX3_doze cX3_doze 6 (some .int), Cond.constant RX3 138 (79993), Cond.methodLink RL 99 yX4_doze, Cond.instanceMethod yX4_doze, Cond.selects RX4 yX4_doze yX4_doze, Cond.code yX4_doze cX4_doze 6 (some .int), Cond.constant RX4 155 (100000), Cond.methodLink RL 100 yX3_tense, Cond.instanceMethod yX3_tense, Cond.selects RX3 yX3_tense yX3_tense, Cond.code yX3_tense cX3_tense 4 (some .int), Cond.instanceMethod yX0_tenseAll, Cond.selects RX0 yX0_tenseAll yX0_tenseAll, Cond.code yX0_tenseAll cX0_tenseAll 3 none, Cond.methodLink RL 103 yX4_tense, Cond.instanceMethod yX4_tense, Cond.selects RX4 yX4_tense yX4_tense, Cond.code yX4_tense cX4_tense 5 (some .int), Cond.methodLink RL 104 yX3_best, Cond.instanceMethod yX3_best]
def wsL_law_r21 : List Cond := [Cond.selects RX3 yX3_best yX3_best, Cond.code yX3_best cX3_best 5 (some .int), Cond.methodLink RL 107 yX4_best, Cond.instanceMethod yX4_best, Cond.selects RX4 yX4_best yX4_best, Cond.code yX4_best cX4_best 4 (some .int), Cond.methodLink RL 108 yX3_feed, Cond.instanceMethod yX3_feed, Cond.selects RX3 yX3_feed yX3_feed, Cond.code yX3_feed cX3_feed 4 (some .int), Cond.instanceMethod yX2_add, Cond.selects RX2 yX2_add yX2_add, Cond.code yX2_add cX2_add 2 none, Cond.methodLink RL 111 yX4_feed, Cond.instanceMethod yX4_feed, Cond.selects RX4 yX4_feed yX4_feed, Cond.code yX4_feed cX4_feed 4 (some .int), Cond.fieldLink RX4 156 "NotedHouseModel" "taped" "I", Cond.methodLink RL 112 yX3_wipe, Cond.instanceMethod yX3_wipe, Cond.selects RX3 yX3_wipe yX3_wipe, Cond.code yX3_wipe cX3_wipe 2 (some .int), Cond.methodLink RL 116 yX4_wipe, Cond.instanceMethod yX4_wipe]
def wsL_law_r22 : List Cond := [Cond.selects RX4 yX4_wipe yX4_wipe, Cond.code yX4_wipe cX4_wipe 2 (some .int), Cond.methodLink RL 117 yX3_evening, Cond.instanceMethod yX3_evening, Cond.selects RX3 yX3_evening yX3_evening, Cond.code yX3_evening cX3_evening 2 (some .int), Cond.instanceMethod yX2_tellTo, Cond.selects RX2 yX2_tellTo yX2_tellTo, Cond.code yX2_tellTo cX2_tellTo 3 (some .int), Cond.methodLink RX2 31 yX2_take, Cond.instanceMethod yX2_take, Cond.selects RX2 yX2_take yX2_take, Cond.code yX2_take cX2_take 1 none, Cond.methodLink RX2 133 yX2_isLetter, Cond.static yX2_isLetter, Cond.code yX2_isLetter cX2_isLetter 1 (some .boolean), Cond.methodLink RX2 137 yX2_takeWord, Cond.instanceMethod yX2_takeWord, Cond.selects RX2 yX2_takeWord yX2_takeWord, Cond.code yX2_takeWord cX2_takeWord 1 none, Cond.methodLink RX2 140 yX2_isDigit, Cond.static yX2_isDigit, Cond.code yX2_isDigit cX2_isDigit 1 (some .boolean), Cond.methodLink RX2 143 yX2_takeNumber]
def wsL_law_r23 : List Cond := [Cond.instanceMethod yX2_takeNumber, Cond.selects RX2 yX2_takeNumber yX2_takeNumber, Cond.code yX2_takeNumber cX2_takeNumber 1 none, Cond.methodLink RX2 146 Lib.Math.min.name, Cond.methodLink RX2 34 yX2_takeItem, Cond.instanceMethod yX2_takeItem, Cond.selects RX2 yX2_takeItem yX2_takeItem, Cond.code yX2_takeItem cX2_takeItem 2 (some .boolean), Cond.methodLink RX2 40 yX2_isWord, Cond.instanceMethod yX2_isWord, Cond.selects RX2 yX2_isWord yX2_isWord, Cond.code yX2_isWord cX2_isWord 3 (some .boolean), Cond.methodLink RX2 125 yJ0_length_8abf5, Cond.instanceMethod yJ0_length_8abf5, Cond.selects RJ0 yJ0_length_8abf5 yJ0_length_8abf5, Cond.initialized RJ0, Cond.code yJ0_length_8abf5 cJ0_length_8abf5 1 (some .int), Cond.fieldLink RJ0 9 "java/lang/String" "value" "[B", Cond.methodLink RJ0 335 yJ0_coder_7d493, Cond.instanceMethod yJ0_coder_7d493, Cond.selects RJ0 yJ0_coder_7d493 yJ0_coder_7d493, Cond.code yJ0_coder_7d493 cJ0_coder_7d493 1 (some .byte), Cond.fieldLink RJ0 38 "java/lang/String" "COMPACT_STRINGS" "Z", Cond.fieldLink RJ0 15 "java/lang/String" "coder" "B"]
def wsL_law_r24 : List Cond := [Cond.methodLink RX2 129 yJ0_charAt_5068e, Cond.instanceMethod yJ0_charAt_5068e, Cond.selects RJ0 yJ0_charAt_5068e yJ0_charAt_5068e, Cond.code yJ0_charAt_5068e cJ0_charAt_5068e 2 (some .char), Cond.methodLink RJ0 492 yJ0_isLatin1_aae02, Cond.instanceMethod yJ0_isLatin1_aae02, Cond.selects RJ0 yJ0_isLatin1_aae02 yJ0_isLatin1_aae02, Cond.code yJ0_isLatin1_aae02 cJ0_isLatin1_aae02 1 (some .boolean), Cond.methodLink RJ0 495 yJ1_charAt_3b067, Cond.static yJ1_charAt_3b067, Cond.initialized RJ1, Cond.code yJ1_charAt_3b067 cJ1_charAt_3b067 2 (some .char), Cond.methodLink RJ1 9 yJ0_checkIndex_df160, Cond.static yJ0_checkIndex_df160, Cond.code yJ0_checkIndex_df160 cJ0_checkIndex_df160 2 none, Cond.fieldLink RJ0 1053 "jdk/internal/util/Preconditions" "SIOOBE_FORMATTER" "Ljava/util/function/BiFunction;", Cond.methodLink RJ0 1059 yJ3_checkIndex_8e157, Cond.static yJ3_checkIndex_8e157, Cond.initialized RJ3, Cond.code yJ3_checkIndex_8e157 cJ3_checkIndex_8e157 3 (some .int), Cond.methodLink RJ0 498 yJ2_charAt_3b067, Cond.static yJ2_charAt_3b067, Cond.initialized RJ2, Cond.code yJ2_charAt_3b067 cJ2_charAt_3b067 2 (some .char)]
def wsL_law_r25 : List Cond := [Cond.methodLink RJ2 67 yJ2_checkIndex_2214a, Cond.static yJ2_checkIndex_2214a, Cond.code yJ2_checkIndex_2214a cJ2_checkIndex_2214a 2 none, Cond.methodLink RJ2 48 yJ2_length_9d52b, Cond.static yJ2_length_9d52b, Cond.code yJ2_length_9d52b cJ2_length_9d52b 1 (some .int), Cond.methodLink RJ2 414 yJ0_checkIndex_df160, Cond.methodLink RJ2 71 yJ2_getChar_3b067, Cond.static yJ2_getChar_3b067, Cond.code yJ2_getChar_3b067 cJ2_getChar_3b067 2 (some .char), Cond.fieldLink RJ2 44 "java/lang/StringUTF16" "$assertionsDisabled" "Z", Cond.fieldLink RJ2 59 "java/lang/StringUTF16" "HI_BYTE_SHIFT" "I", Cond.fieldLink RJ2 63 "java/lang/StringUTF16" "LO_BYTE_SHIFT" "I", Cond.methodLink RX2 44 yX2_takeCue, Cond.instanceMethod yX2_takeCue, Cond.selects RX2 yX2_takeCue yX2_takeCue, Cond.code yX2_takeCue cX2_takeCue 4 (some .boolean), Cond.methodLink RX2 75 yX2_isNumberTo, Cond.instanceMethod yX2_isNumberTo, Cond.selects RX2 yX2_isNumberTo yX2_isNumberTo, Cond.code yX2_isNumberTo cX2_isNumberTo 2 (some .boolean), Cond.methodLink RX2 83 yX2_cueNamed, Cond.instanceMethod yX2_cueNamed, Cond.selects RX2 yX2_cueNamed yX2_cueNamed]
def wsL_law_r26 : List Cond := [Cond.code yX2_cueNamed cX2_cueNamed 2 (some .int), Cond.methodLink RX2 100 yX2_nameOfCue, Cond.static yX2_nameOfCue, Cond.code yX2_nameOfCue cX2_nameOfCue 1 (some (.object "java/lang/String")), Cond.methodLink RX2 49 yX2_takeTense, Cond.instanceMethod yX2_takeTense, Cond.selects RX2 yX2_takeTense yX2_takeTense, Cond.code yX2_takeTense cX2_takeTense 3 (some .boolean), Cond.methodLink RX2 54 yX2_takeSwap, Cond.instanceMethod yX2_takeSwap, Cond.selects RX2 yX2_takeSwap yX2_takeSwap, Cond.code yX2_takeSwap cX2_takeSwap 3 (some .boolean), Cond.methodLink RX2 57 yX2_takePerson, Cond.instanceMethod yX2_takePerson, Cond.selects RX2 yX2_takePerson yX2_takePerson, Cond.code yX2_takePerson cX2_takePerson 4 (some .boolean), Cond.methodLink RX2 60 yX2_kindNamed, Cond.instanceMethod yX2_kindNamed, Cond.selects RX2 yX2_kindNamed yX2_kindNamed, Cond.code yX2_kindNamed cX2_kindNamed 2 (some .int), Cond.methodLink RX2 96 yX2_nameOfKind, Cond.static yX2_nameOfKind, Cond.code yX2_nameOfKind cX2_nameOfKind 1 (some (.object "java/lang/String")), Cond.methodLink RL 120 yX4_evening]
def wsL_law_r27 : List Cond := [Cond.instanceMethod yX4_evening, Cond.selects RX4 yX4_evening yX4_evening, Cond.code yX4_evening cX4_evening 2 (some .int), Cond.fieldLink RX4 192 "NotedHouseModel" "fault" "I", Cond.methodLink RX4 260 yX4_items, Cond.instanceMethod yX4_items, Cond.selects RX4 yX4_items yX4_items, Cond.code yX4_items cX4_items 2 (some .int), Cond.fieldLink RX4 160 "NotedHouseModel" "at" "I", Cond.fieldLink RX4 173 "NotedHouseModel" "sort" "I", Cond.methodLink RX4 224 yX4_next, Cond.instanceMethod yX4_next, Cond.selects RX4 yX4_next yX4_next, Cond.code yX4_next cX4_next 2 none, Cond.fieldLink RX4 166 "NotedHouseModel" "from" "I", Cond.fieldLink RX4 169 "NotedHouseModel" "value" "J", Cond.constantLong RX4 179 (100000000000000000), Cond.constantLong RX4 181 (27), Cond.constantLong RX4 186 (999), Cond.constantLong RX4 188 (10), Cond.constantLong RX4 190 (48), Cond.methodLink RX4 163 yX4_byteAt, Cond.instanceMethod yX4_byteAt, Cond.selects RX4 yX4_byteAt yX4_byteAt]
def wsL_law_r28 : List Cond := [Cond.code yX4_byteAt cX4_byteAt 2 (some .int), Cond.methodLink RX4 176 yX4_letter, Cond.static yX4_letter, Cond.code yX4_letter cX4_letter 1 (some .int), Cond.methodLink RX4 183 yX4_isDigit, Cond.static yX4_isDigit, Cond.code yX4_isDigit cX4_isDigit 1 (some .boolean), Cond.methodLink RX4 257 yX4_item, Cond.instanceMethod yX4_item, Cond.selects RX4 yX4_item yX4_item, Cond.code yX4_item cX4_item 2 none, Cond.constantLong RX4 242 (2759), Cond.constantLong RX4 247 (10737959), Cond.constantLong RX4 252 (390787), Cond.methodLink RX4 236 yX4_kindHere, Cond.instanceMethod yX4_kindHere, Cond.selects RX4 yX4_kindHere yX4_kindHere, Cond.code yX4_kindHere cX4_kindHere 1 (some .int), Cond.constantLong RX4 195 (277820595), Cond.constantLong RX4 201 (1388799099), Cond.constantLong RX4 203 (332792298), Cond.constantLong RX4 205 (7535943612), Cond.constantLong RX4 207 (49456661), Cond.constantLong RX4 209 (12403634)]
def wsL_law_r29 : List Cond := [Cond.methodLink RX4 197 yX4_isWord, Cond.instanceMethod yX4_isWord, Cond.selects RX4 yX4_isWord yX4_isWord, Cond.code yX4_isWord cX4_isWord 3 (some .boolean), Cond.methodLink RX4 239 yX4_personHere, Cond.instanceMethod yX4_personHere, Cond.selects RX4 yX4_personHere yX4_personHere, Cond.code yX4_personHere cX4_personHere 3 none, Cond.constantLong RX4 227 (3547106), Cond.methodLink RX4 221 yX4_wrongHere, Cond.instanceMethod yX4_wrongHere, Cond.selects RX4 yX4_wrongHere yX4_wrongHere, Cond.code yX4_wrongHere cX4_wrongHere 1 none, Cond.methodLink RX4 229 yX4_numberHere, Cond.instanceMethod yX4_numberHere, Cond.selects RX4 yX4_numberHere yX4_numberHere, Cond.code yX4_numberHere cX4_numberHere 4 (some .int), Cond.methodLink RX4 244 yX4_cueItem, Cond.instanceMethod yX4_cueItem, Cond.selects RX4 yX4_cueItem yX4_cueItem, Cond.code yX4_cueItem cX4_cueItem 3 none, Cond.methodLink RX4 232 yX4_cueHere, Cond.instanceMethod yX4_cueHere, Cond.selects RX4 yX4_cueHere yX4_cueHere]
def wsL_law_r30 : List Cond := [Cond.code yX4_cueHere cX4_cueHere 1 (some .int), Cond.constantLong RX4 211 (10497936), Cond.constantLong RX4 213 (14258), Cond.constantLong RX4 215 (6412481), Cond.constantLong RX4 217 (1905074), Cond.constantLong RX4 219 (67840), Cond.methodLink RX4 249 yX4_tenseItem, Cond.instanceMethod yX4_tenseItem, Cond.selects RX4 yX4_tenseItem yX4_tenseItem, Cond.code yX4_tenseItem cX4_tenseItem 3 none, Cond.methodLink RX4 254 yX4_swapItem, Cond.instanceMethod yX4_swapItem, Cond.selects RX4 yX4_swapItem yX4_swapItem, Cond.code yX4_swapItem cX4_swapItem 3 none, Cond.methodLink RL 121 yX3_sheet, Cond.instanceMethod yX3_sheet, Cond.selects RX3 yX3_sheet yX3_sheet, Cond.code yX3_sheet cX3_sheet 4 (some .int), Cond.constant RX3 160 (-1000000007), Cond.methodLink RX3 157 yX3_isSheet, Cond.static yX3_isSheet, Cond.code yX3_isSheet cX3_isSheet 1 (some .boolean), Cond.instanceMethod yX1_layOut, Cond.selects RX1 yX1_layOut yX1_layOut]
def wsL_law_r31 : List Cond := [Cond.code yX1_layOut cX1_layOut 4 none, Cond.methodLink RL 124 yX4_sheet, Cond.instanceMethod yX4_sheet, Cond.selects RX4 yX4_sheet yX4_sheet, Cond.code yX4_sheet cX4_sheet 5 (some .int), Cond.methodLink RX4 265 yX4_isSheet, Cond.static yX4_isSheet, Cond.code yX4_isSheet cX4_isSheet 1 (some .boolean), Cond.constantLong RX4 263 (3), Cond.methodLink RL 127 yX3_write, Cond.instanceMethod yX3_write, Cond.selects RX3 yX3_write yX3_write, Cond.code yX3_write cX3_write 8 (some .long), Cond.constant RX3 171 (-1000000006), Cond.instanceMethod yX1_isMissing, Cond.selects RX1 yX1_isMissing yX1_isMissing, Cond.code yX1_isMissing cX1_isMissing 1 (some .boolean), Cond.instanceMethod yX1_put, Cond.selects RX1 yX1_put yX1_put, Cond.code yX1_put cX1_put 4 none, Cond.methodLink RL 131 yX4_write, Cond.instanceMethod yX4_write, Cond.selects RX4 yX4_write yX4_write, Cond.code yX4_write cX4_write 8 (some .long)]
def wsL_law_r32 : List Cond := [Cond.methodLink RX4 268 yX4_whyNone, Cond.instanceMethod yX4_whyNone, Cond.selects RX4 yX4_whyNone yX4_whyNone, Cond.code yX4_whyNone cX4_whyNone 2 (some .int), Cond.methodLink RX4 271 yX4_puts, Cond.instanceMethod yX4_puts, Cond.selects RX4 yX4_puts yX4_puts, Cond.code yX4_puts cX4_puts 5 none, Cond.methodLink RL 132 yX3_copy, Cond.instanceMethod yX3_copy, Cond.selects RX3 yX3_copy yX3_copy, Cond.code yX3_copy cX3_copy 8 (some .int), Cond.methodLink RX3 186 arraycopyName, Cond.instanceMethod yX1_has, Cond.selects RX1 yX1_has yX1_has, Cond.code yX1_has cX1_has 3 (some .boolean), Cond.methodLink RL 136 yX4_copy, Cond.instanceMethod yX4_copy, Cond.selects RX4 yX4_copy yX4_copy, Cond.code yX4_copy cX4_copy 7 (some .int), Cond.methodLink RL 137 yX3_lays, Cond.instanceMethod yX3_lays, Cond.selects RX3 yX3_lays yX3_lays, Cond.code yX3_lays cX3_lays 5 (some .int)]
def wsL_law_r33 : List Cond := [Cond.constantLong RX3 192 (99), Cond.methodLink RL 140 yX4_lays, Cond.instanceMethod yX4_lays, Cond.selects RX4 yX4_lays yX4_lays, Cond.code yX4_lays cX4_lays 5 (some .int), Cond.methodLink RL 141 yX3_book, Cond.instanceMethod yX3_book, Cond.selects RX3 yX3_book yX3_book, Cond.code yX3_book cX3_book 6 (some .int), Cond.methodLink RX3 194 yX3_refusalOf, Cond.instanceMethod yX3_refusalOf, Cond.selects RX3 yX3_refusalOf yX3_refusalOf, Cond.code yX3_refusalOf cX3_refusalOf 3 (some .int), Cond.methodLink RL 144 yX4_book, Cond.instanceMethod yX4_book, Cond.selects RX4 yX4_book yX4_book, Cond.code yX4_book cX4_book 5 (some .int), Cond.methodLink RL 145 yX3_read, Cond.instanceMethod yX3_read, Cond.selects RX3 yX3_read yX3_read, Cond.code yX3_read cX3_read 7 (some .int), Cond.methodLink RX3 197 yX3_trialDoesAs, Cond.instanceMethod yX3_trialDoesAs, Cond.selects RX3 yX3_trialDoesAs yX3_trialDoesAs]
def wsL_law_r34 : List Cond := [Cond.code yX3_trialDoesAs cX3_trialDoesAs 4 (some .boolean), Cond.methodLink RL 148 yX4_read, Cond.instanceMethod yX4_read, Cond.selects RX4 yX4_read yX4_read, Cond.code yX4_read cX4_read 8 (some .int), Cond.methodLink RL 149 yX3_image, Cond.instanceMethod yX3_image, Cond.selects RX3 yX3_image yX3_image, Cond.code yX3_image cX3_image 1 (some .int), Cond.methodLink RL 152 yX4_image, Cond.instanceMethod yX4_image, Cond.selects RX4 yX4_image yX4_image, Cond.code yX4_image cX4_image 1 (some .int), Cond.fieldLink RX4 275 "NotedHouseModel" "isKept" "Z", Cond.methodLink RL 153 yX3_undo, Cond.instanceMethod yX3_undo, Cond.selects RX3 yX3_undo yX3_undo, Cond.code yX3_undo cX3_undo 1 (some .int), Cond.methodLink RL 156 yX4_undo, Cond.instanceMethod yX4_undo, Cond.selects RX4 yX4_undo yX4_undo, Cond.code yX4_undo cX4_undo 1 (some .int), Cond.methodLink RL 157 yX3_tear, Cond.instanceMethod yX3_tear]
def wsL_law_r35 : List Cond := [Cond.selects RX3 yX3_tear yX3_tear, Cond.code yX3_tear cX3_tear 2 (some .int), Cond.methodLink RL 160 yX4_tear, Cond.instanceMethod yX4_tear, Cond.selects RX4 yX4_tear yX4_tear, Cond.code yX4_tear cX4_tear 2 (some .int), Cond.methodLink RL 161 yX3_count, Cond.instanceMethod yX3_count, Cond.selects RX3 yX3_count yX3_count, Cond.code yX3_count cX3_count 2 (some .int), Cond.instanceMethod yX0_allTense, Cond.selects RX0 yX0_allTense yX0_allTense, Cond.code yX0_allTense cX0_allTense 1 (some .int), Cond.methodLink RL 164 yX4_count, Cond.instanceMethod yX4_count, Cond.selects RX4 yX4_count yX4_count, Cond.code yX4_count cX4_count 4 (some .int), Cond.methodLink RL 165 yX3_status, Cond.instanceMethod yX3_status, Cond.selects RX3 yX3_status yX3_status, Cond.code yX3_status cX3_status 4 (some .int), Cond.methodLink RL 168 yX4_status, Cond.instanceMethod yX4_status, Cond.selects RX4 yX4_status yX4_status]
def wsL_law_r36 : List Cond := [Cond.code yX4_status cX4_status 4 (some .int), Cond.constantLong RX4 279 (-1), Cond.constantLong RX4 281 (6)]
def wsL_law : List Cond := (wsL_law_r1 ++ (wsL_law_r2 ++ (wsL_law_r3 ++ (wsL_law_r4 ++ (wsL_law_r5 ++ (wsL_law_r6 ++ (wsL_law_r7 ++ (wsL_law_r8 ++ (wsL_law_r9 ++ (wsL_law_r10 ++ (wsL_law_r11 ++ (wsL_law_r12 ++ (wsL_law_r13 ++ (wsL_law_r14 ++ (wsL_law_r15 ++ (wsL_law_r16 ++ (wsL_law_r17 ++ (wsL_law_r18 ++ (wsL_law_r19 ++ (wsL_law_r20 ++ (wsL_law_r21 ++ (wsL_law_r22 ++ (wsL_law_r23 ++ (wsL_law_r24 ++ (wsL_law_r25 ++ (wsL_law_r26 ++ (wsL_law_r27 ++ (wsL_law_r28 ++ (wsL_law_r29 ++ (wsL_law_r30 ++ (wsL_law_r31 ++ (wsL_law_r32 ++ (wsL_law_r33 ++ (wsL_law_r34 ++ (wsL_law_r35 ++ wsL_law_r36))))))))))))))))))))))))))))))))))) ++ wsX30 ++ wsX40 ++ wsX00 ++ wsX20 ++ wsX10 ++ ([] : List Cond)
set_option maxRecDepth 20000 in
theorem wsL_law_in : ∀ w ∈ wsL_law, w ∈ lw_tbl := fun w h => (goodIn_p wsL_law [90, 93, 98, 149, 177, 670, 218, 221, 226, 730, 733, 737, 743, 748, 230, 234, 237, 241, 245, 249, 253, 257, 261, 265, 752, 756, 760, 764, 768, 772, 776, 269, 274, 780, 785, 789, 278, 282, 286, 793, 797, 290, 293, 305, 296, 299, 302, 801, 804, 808, 811, 309, 815, 313, 822, 317, 320, 826, 327, 331, 334, 830, 834, 338, 343, 347, 351, 354, 358, 838, 843, 847, 363, 367, 371, 851, 854, 858, 862, 866, 378, 870, 382, 386, 874, 878, 392, 396, 882, 400, 886, 406, 890, 410, 894, 897, 414, 902, 418, 906, 422, 910, 427, 916, 432, 436, 921, 440, 925, 444, 448, 929, 452, 933, 456, 460, 464, 467, 471, 474, 478, 483, 488, 492, 496, 502, 506, 509, 512, 517, 520, 523, 526, 530, 540, 544, 548, 551, 561, 566, 571, 575, 578, 937, 941, 945, 949, 952, 957, 964, 968, 973, 982, 986, 991, 996, 1000, 1010, 1015, 590, 593, 598, 1019, 1022, 602, 606, 611, 1027, 1031, 1035, 615, 619, 1039, 624, 1043, 629, 633, 1047, 637, 641, 1051, 645, 1055, 649, 1059, 653, 1063, 657, 661, 1067, 665, 1071] (by decide +kernel) (by decide +kernel) w h).1
theorem inlX0 : ∀ w ∈ wsX00, w ∈ wsL_law := fun _ h => List.mem_append_left _ (List.mem_append_left _ (List.mem_append_left _ (List.mem_append_right _ h)))
theorem inX0 : ∀ w ∈ wsX00, w ∈ lw_tbl := fun w h => wsL_law_in w (inlX0 w h)
theorem inlX1 : ∀ w ∈ wsX10, w ∈ wsL_law := fun _ h => List.mem_append_left _ (List.mem_append_right _ h)
theorem inX1 : ∀ w ∈ wsX10, w ∈ lw_tbl := fun w h => wsL_law_in w (inlX1 w h)
theorem inlX2 : ∀ w ∈ wsX20, w ∈ wsL_law := fun _ h => List.mem_append_left _ (List.mem_append_left _ (List.mem_append_right _ h))
theorem inX2 : ∀ w ∈ wsX20, w ∈ lw_tbl := fun w h => wsL_law_in w (inlX2 w h)
theorem inlX3 : ∀ w ∈ wsX30, w ∈ wsL_law := fun _ h => List.mem_append_left _ (List.mem_append_left _ (List.mem_append_left _ (List.mem_append_left _ (List.mem_append_left _ (List.mem_append_right _ h)))))
theorem inX3 : ∀ w ∈ wsX30, w ∈ lw_tbl := fun w h => wsL_law_in w (inlX3 w h)
theorem inlX4 : ∀ w ∈ wsX40, w ∈ wsL_law := fun _ h => List.mem_append_left _ (List.mem_append_left _ (List.mem_append_left _ (List.mem_append_left _ (List.mem_append_right _ h))))
theorem inX4 : ∀ w ∈ wsX40, w ∈ lw_tbl := fun w h => wsL_law_in w (inlX4 w h)
theorem inJ9 : ∀ w ∈ wsJ90, w ∈ lw_tbl := by decide +kernel
theorem inJ0 : ∀ w ∈ wsJ00, w ∈ lw_tbl := by decide +kernel
theorem inJ1 : ∀ w ∈ wsJ10, w ∈ lw_tbl := by decide +kernel
theorem inJ2 : ∀ w ∈ wsJ20, w ∈ lw_tbl := by decide +kernel
theorem inJ10 : ∀ w ∈ wsJ100, w ∈ lw_tbl := by decide +kernel
theorem inJ3 : ∀ w ∈ wsJ30, w ∈ lw_tbl := by decide +kernel
theorem dX0_init_0 : decode cX0_init 0 = .ok (.aload_n 0, 1) := by decide +kernel
theorem dX0_init_1 : decode cX0_init 1 = .ok (.invokespecial 3, 3) := by decide +kernel
theorem dX0_init_4 : decode cX0_init 4 = .ok (.aload_n 0, 1) := by decide +kernel
theorem dX0_init_5 : decode cX0_init 5 = .ok (.iconst 0, 1) := by decide +kernel
theorem dX0_init_6 : decode cX0_init 6 = .ok (.putfield 9, 3) := by decide +kernel
theorem dX0_init_9 : decode cX0_init 9 = .ok (.aload_n 0, 1) := by decide +kernel
theorem dX0_init_10 : decode cX0_init 10 = .ok (.iconst 0, 1) := by decide +kernel
theorem dX0_init_11 : decode cX0_init 11 = .ok (.putfield 15, 3) := by decide +kernel
theorem dX0_init_14 : decode cX0_init 14 = .ok (.aload_n 0, 1) := by decide +kernel
theorem dX0_init_15 : decode cX0_init 15 = .ok (.iconst 0, 1) := by decide +kernel
theorem dX0_init_16 : decode cX0_init 16 = .ok (.putfield 18, 3) := by decide +kernel
theorem dX0_init_19 : decode cX0_init 19 = .ok (.aload_n 0, 1) := by decide +kernel
theorem dX0_init_20 : decode cX0_init 20 = .ok (.bipush 16, 2) := by decide +kernel
theorem dX0_init_22 : decode cX0_init 22 = .ok (.newarray .int, 2) := by decide +kernel
theorem dX0_init_24 : decode cX0_init 24 = .ok (.putfield 21, 3) := by decide +kernel
theorem dX0_init_27 : decode cX0_init 27 = .ok (.aload_n 0, 1) := by decide +kernel
theorem dX0_init_28 : decode cX0_init 28 = .ok (.bipush 16, 2) := by decide +kernel
theorem dX0_init_30 : decode cX0_init 30 = .ok (.newarray .int, 2) := by decide +kernel
theorem dX0_init_32 : decode cX0_init 32 = .ok (.putfield 25, 3) := by decide +kernel
theorem dX0_init_35 : decode cX0_init 35 = .ok (.aload_n 0, 1) := by decide +kernel
theorem dX0_init_36 : decode cX0_init 36 = .ok (.bipush 8, 2) := by decide +kernel
theorem dX0_init_38 : decode cX0_init 38 = .ok (.newarray .int, 2) := by decide +kernel
theorem dX0_init_40 : decode cX0_init 40 = .ok (.putfield 28, 3) := by decide +kernel
theorem dX0_init_43 : decode cX0_init 43 = .ok (.aload_n 0, 1) := by decide +kernel
theorem dX0_init_44 : decode cX0_init 44 = .ok (.bipush 8, 2) := by decide +kernel
theorem dX0_init_46 : decode cX0_init 46 = .ok (.newarray .int, 2) := by decide +kernel
theorem dX0_init_48 : decode cX0_init 48 = .ok (.putfield 31, 3) := by decide +kernel
theorem dX0_init_51 : decode cX0_init 51 = .ok (.aload_n 0, 1) := by decide +kernel
theorem dX0_init_52 : decode cX0_init 52 = .ok (.bipush 8, 2) := by decide +kernel
theorem dX0_init_54 : decode cX0_init 54 = .ok (.newarray .int, 2) := by decide +kernel
theorem dX0_init_56 : decode cX0_init 56 = .ok (.putfield 34, 3) := by decide +kernel
theorem dX0_init_59 : decode cX0_init 59 = .ok (.aload_n 0, 1) := by decide +kernel
theorem dX0_init_60 : decode cX0_init 60 = .ok (.bipush 8, 2) := by decide +kernel
theorem dX0_init_62 : decode cX0_init 62 = .ok (.newarray .int, 2) := by decide +kernel
theorem dX0_init_64 : decode cX0_init 64 = .ok (.putfield 37, 3) := by decide +kernel
theorem dX0_init_67 : decode cX0_init 67 = .ok (.aload_n 0, 1) := by decide +kernel
theorem dX0_init_68 : decode cX0_init 68 = .ok (.bipush 8, 2) := by decide +kernel
theorem dX0_init_70 : decode cX0_init 70 = .ok (.newarray .int, 2) := by decide +kernel
theorem dX0_init_72 : decode cX0_init 72 = .ok (.putfield 40, 3) := by decide +kernel
theorem dX0_init_75 : decode cX0_init 75 = .ok (.iconst 0, 1) := by decide +kernel
theorem dX0_init_76 : decode cX0_init 76 = .ok (.istore_n 1, 1) := by decide +kernel
theorem dX0_init_77 : decode cX0_init 77 = .ok (.iload_n 1, 1) := by decide +kernel
theorem dX0_init_78 : decode cX0_init 78 = .ok (.bipush 16, 2) := by decide +kernel
theorem dX0_init_80 : decode cX0_init 80 = .ok (.if_icmp .ge 25, 3) := by decide +kernel
theorem dX0_init_83 : decode cX0_init 83 = .ok (.aload_n 0, 1) := by decide +kernel
theorem dX0_init_84 : decode cX0_init 84 = .ok (.getfield 21, 3) := by decide +kernel
theorem dX0_init_87 : decode cX0_init 87 = .ok (.iload_n 1, 1) := by decide +kernel
theorem dX0_init_88 : decode cX0_init 88 = .ok (.iload_n 1, 1) := by decide +kernel
theorem dX0_init_89 : decode cX0_init 89 = .ok (.iconst 5, 1) := by decide +kernel
theorem dX0_init_90 : decode cX0_init 90 = .ok (.irem, 1) := by decide +kernel
theorem dX0_init_91 : decode cX0_init 91 = .ok (.iastore, 1) := by decide +kernel
theorem dX0_init_92 : decode cX0_init 92 = .ok (.aload_n 0, 1) := by decide +kernel
theorem dX0_init_93 : decode cX0_init 93 = .ok (.getfield 25, 3) := by decide +kernel
theorem dX0_init_96 : decode cX0_init 96 = .ok (.iload_n 1, 1) := by decide +kernel
theorem dX0_init_97 : decode cX0_init 97 = .ok (.iconst 5, 1) := by decide +kernel
theorem dX0_init_98 : decode cX0_init 98 = .ok (.iastore, 1) := by decide +kernel
theorem dX0_init_99 : decode cX0_init 99 = .ok (.iinc 1 1, 3) := by decide +kernel
theorem dX0_init_102 : decode cX0_init 102 = .ok (.goto (-25), 3) := by decide +kernel
theorem dX0_init_105 : decode cX0_init 105 = .ok (.return_, 1) := by decide +kernel
theorem dX0_become_0 : decode cX0_become 0 = .ok (.aload_n 0, 1) := by decide +kernel
theorem dX0_become_1 : decode cX0_become 1 = .ok (.aload_n 1, 1) := by decide +kernel
theorem dX0_become_2 : decode cX0_become 2 = .ok (.getfield 9, 3) := by decide +kernel
theorem dX0_become_5 : decode cX0_become 5 = .ok (.putfield 9, 3) := by decide +kernel
theorem dX0_become_8 : decode cX0_become 8 = .ok (.aload_n 0, 1) := by decide +kernel
theorem dX0_become_9 : decode cX0_become 9 = .ok (.aload_n 1, 1) := by decide +kernel
theorem dX0_become_10 : decode cX0_become 10 = .ok (.getfield 15, 3) := by decide +kernel
theorem dX0_become_13 : decode cX0_become 13 = .ok (.putfield 15, 3) := by decide +kernel
theorem dX0_become_16 : decode cX0_become 16 = .ok (.aload_n 0, 1) := by decide +kernel
theorem dX0_become_17 : decode cX0_become 17 = .ok (.aload_n 1, 1) := by decide +kernel
theorem dX0_become_18 : decode cX0_become 18 = .ok (.getfield 18, 3) := by decide +kernel
theorem dX0_become_21 : decode cX0_become 21 = .ok (.putfield 18, 3) := by decide +kernel
theorem dX0_become_24 : decode cX0_become 24 = .ok (.aload_n 1, 1) := by decide +kernel
theorem dX0_become_25 : decode cX0_become 25 = .ok (.getfield 21, 3) := by decide +kernel
theorem dX0_become_28 : decode cX0_become 28 = .ok (.iconst 0, 1) := by decide +kernel
theorem dX0_become_29 : decode cX0_become 29 = .ok (.aload_n 0, 1) := by decide +kernel
theorem dX0_become_30 : decode cX0_become 30 = .ok (.getfield 21, 3) := by decide +kernel
theorem dX0_become_33 : decode cX0_become 33 = .ok (.iconst 0, 1) := by decide +kernel
theorem dX0_become_34 : decode cX0_become 34 = .ok (.bipush 16, 2) := by decide +kernel
theorem dX0_become_36 : decode cX0_become 36 = .ok (.invokestatic 43, 3) := by decide +kernel
theorem dX0_become_39 : decode cX0_become 39 = .ok (.aload_n 1, 1) := by decide +kernel
theorem dX0_become_40 : decode cX0_become 40 = .ok (.getfield 25, 3) := by decide +kernel
theorem dX0_become_43 : decode cX0_become 43 = .ok (.iconst 0, 1) := by decide +kernel
theorem dX0_become_44 : decode cX0_become 44 = .ok (.aload_n 0, 1) := by decide +kernel
theorem dX0_become_45 : decode cX0_become 45 = .ok (.getfield 25, 3) := by decide +kernel
theorem dX0_become_48 : decode cX0_become 48 = .ok (.iconst 0, 1) := by decide +kernel
theorem dX0_become_49 : decode cX0_become 49 = .ok (.bipush 16, 2) := by decide +kernel
theorem dX0_become_51 : decode cX0_become 51 = .ok (.invokestatic 43, 3) := by decide +kernel
theorem dX0_become_54 : decode cX0_become 54 = .ok (.aload_n 1, 1) := by decide +kernel
theorem dX0_become_55 : decode cX0_become 55 = .ok (.getfield 28, 3) := by decide +kernel
theorem dX0_become_58 : decode cX0_become 58 = .ok (.iconst 0, 1) := by decide +kernel
theorem dX0_become_59 : decode cX0_become 59 = .ok (.aload_n 0, 1) := by decide +kernel
theorem dX0_become_60 : decode cX0_become 60 = .ok (.getfield 28, 3) := by decide +kernel
theorem dX0_become_63 : decode cX0_become 63 = .ok (.iconst 0, 1) := by decide +kernel
theorem dX0_become_64 : decode cX0_become 64 = .ok (.aload_n 0, 1) := by decide +kernel
theorem dX0_become_65 : decode cX0_become 65 = .ok (.getfield 18, 3) := by decide +kernel
theorem dX0_become_68 : decode cX0_become 68 = .ok (.invokestatic 43, 3) := by decide +kernel
theorem dX0_become_71 : decode cX0_become 71 = .ok (.aload_n 1, 1) := by decide +kernel
theorem dX0_become_72 : decode cX0_become 72 = .ok (.getfield 31, 3) := by decide +kernel
theorem dX0_become_75 : decode cX0_become 75 = .ok (.iconst 0, 1) := by decide +kernel
theorem dX0_become_76 : decode cX0_become 76 = .ok (.aload_n 0, 1) := by decide +kernel
theorem dX0_become_77 : decode cX0_become 77 = .ok (.getfield 31, 3) := by decide +kernel
theorem dX0_become_80 : decode cX0_become 80 = .ok (.iconst 0, 1) := by decide +kernel
theorem dX0_become_81 : decode cX0_become 81 = .ok (.aload_n 0, 1) := by decide +kernel
theorem dX0_become_82 : decode cX0_become 82 = .ok (.getfield 18, 3) := by decide +kernel
theorem dX0_become_85 : decode cX0_become 85 = .ok (.invokestatic 43, 3) := by decide +kernel
theorem dX0_become_88 : decode cX0_become 88 = .ok (.aload_n 1, 1) := by decide +kernel
theorem dX0_become_89 : decode cX0_become 89 = .ok (.getfield 34, 3) := by decide +kernel
theorem dX0_become_92 : decode cX0_become 92 = .ok (.iconst 0, 1) := by decide +kernel
theorem dX0_become_93 : decode cX0_become 93 = .ok (.aload_n 0, 1) := by decide +kernel
theorem dX0_become_94 : decode cX0_become 94 = .ok (.getfield 34, 3) := by decide +kernel
theorem dX0_become_97 : decode cX0_become 97 = .ok (.iconst 0, 1) := by decide +kernel
theorem dX0_become_98 : decode cX0_become 98 = .ok (.aload_n 0, 1) := by decide +kernel
theorem dX0_become_99 : decode cX0_become 99 = .ok (.getfield 18, 3) := by decide +kernel
theorem dX0_become_102 : decode cX0_become 102 = .ok (.invokestatic 43, 3) := by decide +kernel
theorem dX0_become_105 : decode cX0_become 105 = .ok (.aload_n 1, 1) := by decide +kernel
theorem dX0_become_106 : decode cX0_become 106 = .ok (.getfield 37, 3) := by decide +kernel
theorem dX0_become_109 : decode cX0_become 109 = .ok (.iconst 0, 1) := by decide +kernel
theorem dX0_become_110 : decode cX0_become 110 = .ok (.aload_n 0, 1) := by decide +kernel
theorem dX0_become_111 : decode cX0_become 111 = .ok (.getfield 37, 3) := by decide +kernel
theorem dX0_become_114 : decode cX0_become 114 = .ok (.iconst 0, 1) := by decide +kernel
theorem dX0_become_115 : decode cX0_become 115 = .ok (.aload_n 0, 1) := by decide +kernel
theorem dX0_become_116 : decode cX0_become 116 = .ok (.getfield 18, 3) := by decide +kernel
theorem dX0_become_119 : decode cX0_become 119 = .ok (.invokestatic 43, 3) := by decide +kernel
theorem dX0_become_122 : decode cX0_become 122 = .ok (.return_, 1) := by decide +kernel
theorem dX0_seat_0 : decode cX0_seat 0 = .ok (.aload_n 0, 1) := by decide +kernel
theorem dX0_seat_1 : decode cX0_seat 1 = .ok (.getfield 18, 3) := by decide +kernel
theorem dX0_seat_4 : decode cX0_seat 4 = .ok (.istore_n 3, 1) := by decide +kernel
theorem dX0_seat_5 : decode cX0_seat 5 = .ok (.iload_n 3, 1) := by decide +kernel
theorem dX0_seat_6 : decode cX0_seat 6 = .ok (.bipush 8, 2) := by decide +kernel
theorem dX0_seat_8 : decode cX0_seat 8 = .ok (.if_icmp .ge 41, 3) := by decide +kernel
theorem dX0_seat_11 : decode cX0_seat 11 = .ok (.aload_n 0, 1) := by decide +kernel
theorem dX0_seat_12 : decode cX0_seat 12 = .ok (.getfield 28, 3) := by decide +kernel
theorem dX0_seat_15 : decode cX0_seat 15 = .ok (.iload_n 3, 1) := by decide +kernel
theorem dX0_seat_16 : decode cX0_seat 16 = .ok (.iload_n 1, 1) := by decide +kernel
theorem dX0_seat_17 : decode cX0_seat 17 = .ok (.iastore, 1) := by decide +kernel
theorem dX0_seat_18 : decode cX0_seat 18 = .ok (.aload_n 0, 1) := by decide +kernel
theorem dX0_seat_19 : decode cX0_seat 19 = .ok (.getfield 31, 3) := by decide +kernel
theorem dX0_seat_22 : decode cX0_seat 22 = .ok (.iload_n 3, 1) := by decide +kernel
theorem dX0_seat_23 : decode cX0_seat 23 = .ok (.iload_n 2, 1) := by decide +kernel
theorem dX0_seat_24 : decode cX0_seat 24 = .ok (.iastore, 1) := by decide +kernel
theorem dX0_seat_25 : decode cX0_seat 25 = .ok (.aload_n 0, 1) := by decide +kernel
theorem dX0_seat_26 : decode cX0_seat 26 = .ok (.getfield 34, 3) := by decide +kernel
theorem dX0_seat_29 : decode cX0_seat 29 = .ok (.iload_n 3, 1) := by decide +kernel
theorem dX0_seat_30 : decode cX0_seat 30 = .ok (.iconst 0, 1) := by decide +kernel
theorem dX0_seat_31 : decode cX0_seat 31 = .ok (.iastore, 1) := by decide +kernel
theorem dX0_seat_32 : decode cX0_seat 32 = .ok (.aload_n 0, 1) := by decide +kernel
theorem dX0_seat_33 : decode cX0_seat 33 = .ok (.getfield 37, 3) := by decide +kernel
theorem dX0_seat_36 : decode cX0_seat 36 = .ok (.iload_n 3, 1) := by decide +kernel
theorem dX0_seat_37 : decode cX0_seat 37 = .ok (.iconst 0, 1) := by decide +kernel
theorem dX0_seat_38 : decode cX0_seat 38 = .ok (.iastore, 1) := by decide +kernel
theorem dX0_seat_39 : decode cX0_seat 39 = .ok (.aload_n 0, 1) := by decide +kernel
theorem dX0_seat_40 : decode cX0_seat 40 = .ok (.dup, 1) := by decide +kernel
theorem dX0_seat_41 : decode cX0_seat 41 = .ok (.getfield 18, 3) := by decide +kernel
theorem dX0_seat_44 : decode cX0_seat 44 = .ok (.iconst 1, 1) := by decide +kernel
theorem dX0_seat_45 : decode cX0_seat 45 = .ok (.iadd, 1) := by decide +kernel
theorem dX0_seat_46 : decode cX0_seat 46 = .ok (.putfield 18, 3) := by decide +kernel
theorem dX0_seat_49 : decode cX0_seat 49 = .ok (.iload_n 3, 1) := by decide +kernel
theorem dX0_seat_50 : decode cX0_seat 50 = .ok (.ireturn, 1) := by decide +kernel
set_option maxRecDepth 20000 in
theorem ggX0_changeSeats_X0_exchange : GoodIn wsX0_changeSeats wsX0_exchange := goodIn_r _ [8] (by decide +kernel) (by decide +kernel)
set_option maxRecDepth 20000 in
theorem gX0_changeSeats_X0_exchange : GoodIn wsX0_changeSeats (va_wsS RX0 49 yX0_exchange wsX0_exchange) := goodIn_app (goodIn_of _ (by decide +kernel)) ggX0_changeSeats_X0_exchange
theorem dX0_changeSeats_0 : decode cX0_changeSeats 0 = .ok (.aload_n 0, 1) := by decide +kernel
theorem dX0_changeSeats_1 : decode cX0_changeSeats 1 = .ok (.getfield 28, 3) := by decide +kernel
theorem dX0_changeSeats_4 : decode cX0_changeSeats 4 = .ok (.iload_n 1, 1) := by decide +kernel
theorem dX0_changeSeats_5 : decode cX0_changeSeats 5 = .ok (.iload_n 2, 1) := by decide +kernel
theorem dX0_changeSeats_6 : decode cX0_changeSeats 6 = .ok (.invokestatic 49, 3) := by decide +kernel
theorem dX0_changeSeats_9 : decode cX0_changeSeats 9 = .ok (.aload_n 0, 1) := by decide +kernel
theorem dX0_changeSeats_10 : decode cX0_changeSeats 10 = .ok (.getfield 31, 3) := by decide +kernel
theorem dX0_changeSeats_13 : decode cX0_changeSeats 13 = .ok (.iload_n 1, 1) := by decide +kernel
theorem dX0_changeSeats_14 : decode cX0_changeSeats 14 = .ok (.iload_n 2, 1) := by decide +kernel
theorem dX0_changeSeats_15 : decode cX0_changeSeats 15 = .ok (.invokestatic 49, 3) := by decide +kernel
theorem dX0_changeSeats_18 : decode cX0_changeSeats 18 = .ok (.aload_n 0, 1) := by decide +kernel
theorem dX0_changeSeats_19 : decode cX0_changeSeats 19 = .ok (.getfield 34, 3) := by decide +kernel
theorem dX0_changeSeats_22 : decode cX0_changeSeats 22 = .ok (.iload_n 1, 1) := by decide +kernel
theorem dX0_changeSeats_23 : decode cX0_changeSeats 23 = .ok (.iload_n 2, 1) := by decide +kernel
theorem dX0_changeSeats_24 : decode cX0_changeSeats 24 = .ok (.invokestatic 49, 3) := by decide +kernel
theorem dX0_changeSeats_27 : decode cX0_changeSeats 27 = .ok (.aload_n 0, 1) := by decide +kernel
theorem dX0_changeSeats_28 : decode cX0_changeSeats 28 = .ok (.getfield 37, 3) := by decide +kernel
theorem dX0_changeSeats_31 : decode cX0_changeSeats 31 = .ok (.iload_n 1, 1) := by decide +kernel
theorem dX0_changeSeats_32 : decode cX0_changeSeats 32 = .ok (.iload_n 2, 1) := by decide +kernel
theorem dX0_changeSeats_33 : decode cX0_changeSeats 33 = .ok (.invokestatic 49, 3) := by decide +kernel
theorem dX0_changeSeats_36 : decode cX0_changeSeats 36 = .ok (.return_, 1) := by decide +kernel
theorem dX0_exchange_0 : decode cX0_exchange 0 = .ok (.aload_n 0, 1) := by decide +kernel
theorem dX0_exchange_1 : decode cX0_exchange 1 = .ok (.iload_n 1, 1) := by decide +kernel
theorem dX0_exchange_2 : decode cX0_exchange 2 = .ok (.iaload, 1) := by decide +kernel
theorem dX0_exchange_3 : decode cX0_exchange 3 = .ok (.istore_n 3, 1) := by decide +kernel
theorem dX0_exchange_4 : decode cX0_exchange 4 = .ok (.aload_n 0, 1) := by decide +kernel
theorem dX0_exchange_5 : decode cX0_exchange 5 = .ok (.iload_n 1, 1) := by decide +kernel
theorem dX0_exchange_6 : decode cX0_exchange 6 = .ok (.aload_n 0, 1) := by decide +kernel
theorem dX0_exchange_7 : decode cX0_exchange 7 = .ok (.iload_n 2, 1) := by decide +kernel
theorem dX0_exchange_8 : decode cX0_exchange 8 = .ok (.iaload, 1) := by decide +kernel
theorem dX0_exchange_9 : decode cX0_exchange 9 = .ok (.iastore, 1) := by decide +kernel
theorem dX0_exchange_10 : decode cX0_exchange 10 = .ok (.aload_n 0, 1) := by decide +kernel
theorem dX0_exchange_11 : decode cX0_exchange 11 = .ok (.iload_n 2, 1) := by decide +kernel
theorem dX0_exchange_12 : decode cX0_exchange 12 = .ok (.iload_n 3, 1) := by decide +kernel
theorem dX0_exchange_13 : decode cX0_exchange 13 = .ok (.iastore, 1) := by decide +kernel
theorem dX0_exchange_14 : decode cX0_exchange 14 = .ok (.return_, 1) := by decide +kernel
theorem dX0_tenseAll_0 : decode cX0_tenseAll 0 = .ok (.iconst 0, 1) := by decide +kernel
theorem dX0_tenseAll_1 : decode cX0_tenseAll 1 = .ok (.istore_n 2, 1) := by decide +kernel
theorem dX0_tenseAll_2 : decode cX0_tenseAll 2 = .ok (.iload_n 2, 1) := by decide +kernel
theorem dX0_tenseAll_3 : decode cX0_tenseAll 3 = .ok (.bipush 16, 2) := by decide +kernel
theorem dX0_tenseAll_5 : decode cX0_tenseAll 5 = .ok (.if_icmp .ge 16, 3) := by decide +kernel
theorem dX0_tenseAll_8 : decode cX0_tenseAll 8 = .ok (.aload_n 0, 1) := by decide +kernel
theorem dX0_tenseAll_9 : decode cX0_tenseAll 9 = .ok (.getfield 25, 3) := by decide +kernel
theorem dX0_tenseAll_12 : decode cX0_tenseAll 12 = .ok (.iload_n 2, 1) := by decide +kernel
theorem dX0_tenseAll_13 : decode cX0_tenseAll 13 = .ok (.iload_n 1, 1) := by decide +kernel
theorem dX0_tenseAll_14 : decode cX0_tenseAll 14 = .ok (.iastore, 1) := by decide +kernel
theorem dX0_tenseAll_15 : decode cX0_tenseAll 15 = .ok (.iinc 2 1, 3) := by decide +kernel
theorem dX0_tenseAll_18 : decode cX0_tenseAll 18 = .ok (.goto (-16), 3) := by decide +kernel
theorem dX0_tenseAll_21 : decode cX0_tenseAll 21 = .ok (.return_, 1) := by decide +kernel
set_option maxRecDepth 20000 in
theorem ggX0_allNotes_X0_sum : GoodIn wsX0_allNotes wsX0_sum := goodIn_r _ [6] (by decide +kernel) (by decide +kernel)
set_option maxRecDepth 20000 in
theorem gX0_allNotes_X0_sum : GoodIn wsX0_allNotes (va_wsS RX0 53 yX0_sum wsX0_sum) := goodIn_app (goodIn_of _ (by decide +kernel)) ggX0_allNotes_X0_sum
theorem dX0_allNotes_0 : decode cX0_allNotes 0 = .ok (.aload_n 0, 1) := by decide +kernel
theorem dX0_allNotes_1 : decode cX0_allNotes 1 = .ok (.getfield 34, 3) := by decide +kernel
theorem dX0_allNotes_4 : decode cX0_allNotes 4 = .ok (.aload_n 0, 1) := by decide +kernel
theorem dX0_allNotes_5 : decode cX0_allNotes 5 = .ok (.getfield 18, 3) := by decide +kernel
theorem dX0_allNotes_8 : decode cX0_allNotes 8 = .ok (.invokestatic 53, 3) := by decide +kernel
theorem dX0_allNotes_11 : decode cX0_allNotes 11 = .ok (.ireturn, 1) := by decide +kernel
set_option maxRecDepth 20000 in
theorem ggX0_allFresh_X0_sum : GoodIn wsX0_allFresh wsX0_sum := goodIn_r _ [6] (by decide +kernel) (by decide +kernel)
set_option maxRecDepth 20000 in
theorem gX0_allFresh_X0_sum : GoodIn wsX0_allFresh (va_wsS RX0 53 yX0_sum wsX0_sum) := goodIn_app (goodIn_of _ (by decide +kernel)) ggX0_allFresh_X0_sum
theorem dX0_allFresh_0 : decode cX0_allFresh 0 = .ok (.aload_n 0, 1) := by decide +kernel
theorem dX0_allFresh_1 : decode cX0_allFresh 1 = .ok (.getfield 31, 3) := by decide +kernel
theorem dX0_allFresh_4 : decode cX0_allFresh 4 = .ok (.aload_n 0, 1) := by decide +kernel
theorem dX0_allFresh_5 : decode cX0_allFresh 5 = .ok (.getfield 18, 3) := by decide +kernel
theorem dX0_allFresh_8 : decode cX0_allFresh 8 = .ok (.invokestatic 53, 3) := by decide +kernel
theorem dX0_allFresh_11 : decode cX0_allFresh 11 = .ok (.ireturn, 1) := by decide +kernel
set_option maxRecDepth 20000 in
theorem ggX0_allTense_X0_sum : GoodIn wsX0_allTense wsX0_sum := goodIn_r _ [5] (by decide +kernel) (by decide +kernel)
set_option maxRecDepth 20000 in
theorem gX0_allTense_X0_sum : GoodIn wsX0_allTense (va_wsS RX0 53 yX0_sum wsX0_sum) := goodIn_app (goodIn_of _ (by decide +kernel)) ggX0_allTense_X0_sum
theorem dX0_allTense_0 : decode cX0_allTense 0 = .ok (.aload_n 0, 1) := by decide +kernel
theorem dX0_allTense_1 : decode cX0_allTense 1 = .ok (.getfield 25, 3) := by decide +kernel
theorem dX0_allTense_4 : decode cX0_allTense 4 = .ok (.bipush 16, 2) := by decide +kernel
theorem dX0_allTense_6 : decode cX0_allTense 6 = .ok (.invokestatic 53, 3) := by decide +kernel
theorem dX0_allTense_9 : decode cX0_allTense 9 = .ok (.ireturn, 1) := by decide +kernel
theorem dX0_sum_0 : decode cX0_sum 0 = .ok (.iconst 0, 1) := by decide +kernel
theorem dX0_sum_1 : decode cX0_sum 1 = .ok (.istore_n 2, 1) := by decide +kernel
theorem dX0_sum_2 : decode cX0_sum 2 = .ok (.iconst 0, 1) := by decide +kernel
theorem dX0_sum_3 : decode cX0_sum 3 = .ok (.istore_n 3, 1) := by decide +kernel
theorem dX0_sum_4 : decode cX0_sum 4 = .ok (.iload_n 3, 1) := by decide +kernel
theorem dX0_sum_5 : decode cX0_sum 5 = .ok (.iload_n 1, 1) := by decide +kernel
theorem dX0_sum_6 : decode cX0_sum 6 = .ok (.if_icmp .ge 15, 3) := by decide +kernel
theorem dX0_sum_9 : decode cX0_sum 9 = .ok (.iload_n 2, 1) := by decide +kernel
theorem dX0_sum_10 : decode cX0_sum 10 = .ok (.aload_n 0, 1) := by decide +kernel
theorem dX0_sum_11 : decode cX0_sum 11 = .ok (.iload_n 3, 1) := by decide +kernel
theorem dX0_sum_12 : decode cX0_sum 12 = .ok (.iaload, 1) := by decide +kernel
theorem dX0_sum_13 : decode cX0_sum 13 = .ok (.iadd, 1) := by decide +kernel
theorem dX0_sum_14 : decode cX0_sum 14 = .ok (.istore_n 2, 1) := by decide +kernel
theorem dX0_sum_15 : decode cX0_sum 15 = .ok (.iinc 3 1, 3) := by decide +kernel
theorem dX0_sum_18 : decode cX0_sum 18 = .ok (.goto (-14), 3) := by decide +kernel
theorem dX0_sum_21 : decode cX0_sum 21 = .ok (.iload_n 2, 1) := by decide +kernel
theorem dX0_sum_22 : decode cX0_sum 22 = .ok (.ireturn, 1) := by decide +kernel
set_option maxRecDepth 20000 in
theorem ggX0_whoDoAsAsked_X0_deedOf : GoodIn wsX0_whoDoAsAsked wsX0_deedOf := goodIn_r _ [8, 9, 2, 3, 10, 11, 12, 7, 13, 14, 15, 16, 17, 18, 1, 19, 20, 21, 22, 23, 24, 25, 26, 27, 28, 29, 30, 31, 32, 33, 34, 35, 36, 37, 38] (by decide +kernel) (by decide +kernel)
set_option maxRecDepth 20000 in
theorem gX0_whoDoAsAsked_X0_deedOf : GoodIn wsX0_whoDoAsAsked (wsV RX0 57 RX0 yX0_deedOf wsX0_deedOf) := goodIn_app (goodIn_of _ (by decide +kernel)) ggX0_whoDoAsAsked_X0_deedOf
theorem dX0_whoDoAsAsked_0 : decode cX0_whoDoAsAsked 0 = .ok (.iconst 0, 1) := by decide +kernel
theorem dX0_whoDoAsAsked_1 : decode cX0_whoDoAsAsked 1 = .ok (.istore_n 1, 1) := by decide +kernel
theorem dX0_whoDoAsAsked_2 : decode cX0_whoDoAsAsked 2 = .ok (.iconst 0, 1) := by decide +kernel
theorem dX0_whoDoAsAsked_3 : decode cX0_whoDoAsAsked 3 = .ok (.istore_n 2, 1) := by decide +kernel
theorem dX0_whoDoAsAsked_4 : decode cX0_whoDoAsAsked 4 = .ok (.iload_n 2, 1) := by decide +kernel
theorem dX0_whoDoAsAsked_5 : decode cX0_whoDoAsAsked 5 = .ok (.aload_n 0, 1) := by decide +kernel
theorem dX0_whoDoAsAsked_6 : decode cX0_whoDoAsAsked 6 = .ok (.getfield 18, 3) := by decide +kernel
theorem dX0_whoDoAsAsked_9 : decode cX0_whoDoAsAsked 9 = .ok (.if_icmp .ge 32, 3) := by decide +kernel
theorem dX0_whoDoAsAsked_12 : decode cX0_whoDoAsAsked 12 = .ok (.aload_n 0, 1) := by decide +kernel
theorem dX0_whoDoAsAsked_13 : decode cX0_whoDoAsAsked 13 = .ok (.iload_n 2, 1) := by decide +kernel
theorem dX0_whoDoAsAsked_14 : decode cX0_whoDoAsAsked 14 = .ok (.invokevirtual 57, 3) := by decide +kernel
theorem dX0_whoDoAsAsked_17 : decode cX0_whoDoAsAsked 17 = .ok (.aload_n 0, 1) := by decide +kernel
theorem dX0_whoDoAsAsked_18 : decode cX0_whoDoAsAsked 18 = .ok (.getfield 21, 3) := by decide +kernel
theorem dX0_whoDoAsAsked_21 : decode cX0_whoDoAsAsked 21 = .ok (.aload_n 0, 1) := by decide +kernel
theorem dX0_whoDoAsAsked_22 : decode cX0_whoDoAsAsked 22 = .ok (.getfield 15, 3) := by decide +kernel
theorem dX0_whoDoAsAsked_25 : decode cX0_whoDoAsAsked 25 = .ok (.iaload, 1) := by decide +kernel
theorem dX0_whoDoAsAsked_26 : decode cX0_whoDoAsAsked 26 = .ok (.if_icmp .ne 9, 3) := by decide +kernel
theorem dX0_whoDoAsAsked_29 : decode cX0_whoDoAsAsked 29 = .ok (.iload_n 1, 1) := by decide +kernel
theorem dX0_whoDoAsAsked_30 : decode cX0_whoDoAsAsked 30 = .ok (.iconst 1, 1) := by decide +kernel
theorem dX0_whoDoAsAsked_31 : decode cX0_whoDoAsAsked 31 = .ok (.iload_n 2, 1) := by decide +kernel
theorem dX0_whoDoAsAsked_32 : decode cX0_whoDoAsAsked 32 = .ok (.ishl, 1) := by decide +kernel
theorem dX0_whoDoAsAsked_33 : decode cX0_whoDoAsAsked 33 = .ok (.ior, 1) := by decide +kernel
theorem dX0_whoDoAsAsked_34 : decode cX0_whoDoAsAsked 34 = .ok (.istore_n 1, 1) := by decide +kernel
theorem dX0_whoDoAsAsked_35 : decode cX0_whoDoAsAsked 35 = .ok (.iinc 2 1, 3) := by decide +kernel
theorem dX0_whoDoAsAsked_38 : decode cX0_whoDoAsAsked 38 = .ok (.goto (-34), 3) := by decide +kernel
theorem dX0_whoDoAsAsked_41 : decode cX0_whoDoAsAsked 41 = .ok (.iload_n 1, 1) := by decide +kernel
theorem dX0_whoDoAsAsked_42 : decode cX0_whoDoAsAsked 42 = .ok (.ireturn, 1) := by decide +kernel
set_option maxRecDepth 20000 in
theorem ggX0_howManyDo_X0_deedOf : GoodIn wsX0_howManyDo wsX0_deedOf := goodIn_r _ [6, 7, 8, 9, 10, 11, 12, 5, 13, 14, 15, 16, 17, 18, 1, 19, 20, 21, 22, 23, 24, 25, 26, 27, 28, 29, 30, 31, 32, 33, 34, 35, 36, 37, 38] (by decide +kernel) (by decide +kernel)
set_option maxRecDepth 20000 in
theorem gX0_howManyDo_X0_deedOf : GoodIn wsX0_howManyDo (wsV RX0 57 RX0 yX0_deedOf wsX0_deedOf) := goodIn_app (goodIn_of _ (by decide +kernel)) ggX0_howManyDo_X0_deedOf
theorem dX0_howManyDo_0 : decode cX0_howManyDo 0 = .ok (.iconst 0, 1) := by decide +kernel
theorem dX0_howManyDo_1 : decode cX0_howManyDo 1 = .ok (.istore_n 2, 1) := by decide +kernel
theorem dX0_howManyDo_2 : decode cX0_howManyDo 2 = .ok (.iconst 0, 1) := by decide +kernel
theorem dX0_howManyDo_3 : decode cX0_howManyDo 3 = .ok (.istore_n 3, 1) := by decide +kernel
theorem dX0_howManyDo_4 : decode cX0_howManyDo 4 = .ok (.iload_n 3, 1) := by decide +kernel
theorem dX0_howManyDo_5 : decode cX0_howManyDo 5 = .ok (.aload_n 0, 1) := by decide +kernel
theorem dX0_howManyDo_6 : decode cX0_howManyDo 6 = .ok (.getfield 18, 3) := by decide +kernel
theorem dX0_howManyDo_9 : decode cX0_howManyDo 9 = .ok (.if_icmp .ge 21, 3) := by decide +kernel
theorem dX0_howManyDo_12 : decode cX0_howManyDo 12 = .ok (.aload_n 0, 1) := by decide +kernel
theorem dX0_howManyDo_13 : decode cX0_howManyDo 13 = .ok (.iload_n 3, 1) := by decide +kernel
theorem dX0_howManyDo_14 : decode cX0_howManyDo 14 = .ok (.invokevirtual 57, 3) := by decide +kernel
theorem dX0_howManyDo_17 : decode cX0_howManyDo 17 = .ok (.iload_n 1, 1) := by decide +kernel
theorem dX0_howManyDo_18 : decode cX0_howManyDo 18 = .ok (.if_icmp .ne 6, 3) := by decide +kernel
theorem dX0_howManyDo_21 : decode cX0_howManyDo 21 = .ok (.iinc 2 1, 3) := by decide +kernel
theorem dX0_howManyDo_24 : decode cX0_howManyDo 24 = .ok (.iinc 3 1, 3) := by decide +kernel
theorem dX0_howManyDo_27 : decode cX0_howManyDo 27 = .ok (.goto (-23), 3) := by decide +kernel
theorem dX0_howManyDo_30 : decode cX0_howManyDo 30 = .ok (.iload_n 2, 1) := by decide +kernel
theorem dX0_howManyDo_31 : decode cX0_howManyDo 31 = .ok (.ireturn, 1) := by decide +kernel
set_option maxRecDepth 20000 in
theorem ggX0_deedOf_X0_cougherDeed : GoodIn wsX0_deedOf wsX0_cougherDeed := goodIn_r _ [8, 9, 10, 11, 7, 12, 13, 14, 15, 16, 17, 18, 19, 20, 3, 2, 25, 26, 27, 28, 29, 30, 31, 32, 33, 34] (by decide +kernel) (by decide +kernel)
set_option maxRecDepth 20000 in
theorem gX0_deedOf_X0_cougherDeed : GoodIn wsX0_deedOf (wsV RX0 61 RX0 yX0_cougherDeed wsX0_cougherDeed) := goodIn_app (goodIn_of _ (by decide +kernel)) ggX0_deedOf_X0_cougherDeed
set_option maxRecDepth 20000 in
theorem ggX0_deedOf_X0_weeperDeed : GoodIn wsX0_deedOf wsX0_weeperDeed := goodIn_r _ [24, 19, 2, 3, 15, 16, 17, 7, 18, 20, 25, 26, 27, 28, 29, 30, 31, 32, 33, 34] (by decide +kernel) (by decide +kernel)
set_option maxRecDepth 20000 in
theorem gX0_deedOf_X0_weeperDeed : GoodIn wsX0_deedOf (wsV RX0 64 RX0 yX0_weeperDeed wsX0_weeperDeed) := goodIn_app (goodIn_of _ (by decide +kernel)) ggX0_deedOf_X0_weeperDeed
set_option maxRecDepth 20000 in
theorem ggX0_deedOf_X0_neighbourDid : GoodIn wsX0_deedOf wsX0_neighbourDid := goodIn_r _ [12, 13, 14, 25, 26, 27, 28, 29, 30, 31, 32, 33, 34] (by decide +kernel) (by decide +kernel)
set_option maxRecDepth 20000 in
theorem gX0_deedOf_X0_neighbourDid : GoodIn wsX0_deedOf (wsV RX0 67 RX0 yX0_neighbourDid wsX0_neighbourDid) := goodIn_app (goodIn_of _ (by decide +kernel)) ggX0_deedOf_X0_neighbourDid
set_option maxRecDepth 20000 in
theorem ggX0_deedOf_X0_sitterDeed : GoodIn wsX0_deedOf wsX0_sitterDeed := goodIn_r _ [18, 19, 20, 3, 2, 25, 26, 27, 28, 29, 30, 31, 32, 33, 34] (by decide +kernel) (by decide +kernel)
set_option maxRecDepth 20000 in
theorem gX0_deedOf_X0_sitterDeed : GoodIn wsX0_deedOf (wsV RX0 71 RX0 yX0_sitterDeed wsX0_sitterDeed) := goodIn_app (goodIn_of _ (by decide +kernel)) ggX0_deedOf_X0_sitterDeed
theorem dX0_deedOf_0 : decode cX0_deedOf 0 = .ok (.aload_n 0, 1) := by decide +kernel
theorem dX0_deedOf_1 : decode cX0_deedOf 1 = .ok (.getfield 28, 3) := by decide +kernel
theorem dX0_deedOf_4 : decode cX0_deedOf 4 = .ok (.iload_n 1, 1) := by decide +kernel
theorem dX0_deedOf_5 : decode cX0_deedOf 5 = .ok (.iaload, 1) := by decide +kernel
theorem dX0_deedOf_6 : decode cX0_deedOf 6 = .ok (.tableswitch 102 1 5 #[34, 40, 46, 48, 83], 34) := by decide +kernel
theorem dX0_deedOf_40 : decode cX0_deedOf 40 = .ok (.aload_n 0, 1) := by decide +kernel
theorem dX0_deedOf_41 : decode cX0_deedOf 41 = .ok (.iload_n 1, 1) := by decide +kernel
theorem dX0_deedOf_42 : decode cX0_deedOf 42 = .ok (.invokevirtual 61, 3) := by decide +kernel
theorem dX0_deedOf_45 : decode cX0_deedOf 45 = .ok (.ireturn, 1) := by decide +kernel
theorem dX0_deedOf_46 : decode cX0_deedOf 46 = .ok (.aload_n 0, 1) := by decide +kernel
theorem dX0_deedOf_47 : decode cX0_deedOf 47 = .ok (.iload_n 1, 1) := by decide +kernel
theorem dX0_deedOf_48 : decode cX0_deedOf 48 = .ok (.invokevirtual 64, 3) := by decide +kernel
theorem dX0_deedOf_51 : decode cX0_deedOf 51 = .ok (.ireturn, 1) := by decide +kernel
theorem dX0_deedOf_52 : decode cX0_deedOf 52 = .ok (.iconst 0, 1) := by decide +kernel
theorem dX0_deedOf_53 : decode cX0_deedOf 53 = .ok (.ireturn, 1) := by decide +kernel
theorem dX0_deedOf_54 : decode cX0_deedOf 54 = .ok (.aload_n 0, 1) := by decide +kernel
theorem dX0_deedOf_55 : decode cX0_deedOf 55 = .ok (.getfield 21, 3) := by decide +kernel
theorem dX0_deedOf_58 : decode cX0_deedOf 58 = .ok (.aload_n 0, 1) := by decide +kernel
theorem dX0_deedOf_59 : decode cX0_deedOf 59 = .ok (.getfield 15, 3) := by decide +kernel
theorem dX0_deedOf_62 : decode cX0_deedOf 62 = .ok (.iaload, 1) := by decide +kernel
theorem dX0_deedOf_63 : decode cX0_deedOf 63 = .ok (.iconst 4, 1) := by decide +kernel
theorem dX0_deedOf_64 : decode cX0_deedOf 64 = .ok (.if_icmp .eq 15, 3) := by decide +kernel
theorem dX0_deedOf_67 : decode cX0_deedOf 67 = .ok (.aload_n 0, 1) := by decide +kernel
theorem dX0_deedOf_68 : decode cX0_deedOf 68 = .ok (.getfield 15, 3) := by decide +kernel
theorem dX0_deedOf_71 : decode cX0_deedOf 71 = .ok (.bipush 8, 2) := by decide +kernel
theorem dX0_deedOf_73 : decode cX0_deedOf 73 = .ok (.irem, 1) := by decide +kernel
theorem dX0_deedOf_74 : decode cX0_deedOf 74 = .ok (.bipush 7, 2) := by decide +kernel
theorem dX0_deedOf_76 : decode cX0_deedOf 76 = .ok (.if_icmp .ne 7, 3) := by decide +kernel
theorem dX0_deedOf_79 : decode cX0_deedOf 79 = .ok (.iconst 4, 1) := by decide +kernel
theorem dX0_deedOf_80 : decode cX0_deedOf 80 = .ok (.goto 8, 3) := by decide +kernel
theorem dX0_deedOf_83 : decode cX0_deedOf 83 = .ok (.aload_n 0, 1) := by decide +kernel
theorem dX0_deedOf_84 : decode cX0_deedOf 84 = .ok (.iload_n 1, 1) := by decide +kernel
theorem dX0_deedOf_85 : decode cX0_deedOf 85 = .ok (.invokevirtual 61, 3) := by decide +kernel
theorem dX0_deedOf_88 : decode cX0_deedOf 88 = .ok (.ireturn, 1) := by decide +kernel
theorem dX0_deedOf_89 : decode cX0_deedOf 89 = .ok (.aload_n 0, 1) := by decide +kernel
theorem dX0_deedOf_90 : decode cX0_deedOf 90 = .ok (.iload_n 1, 1) := by decide +kernel
theorem dX0_deedOf_91 : decode cX0_deedOf 91 = .ok (.iconst 1, 1) := by decide +kernel
theorem dX0_deedOf_92 : decode cX0_deedOf 92 = .ok (.invokevirtual 67, 3) := by decide +kernel
theorem dX0_deedOf_95 : decode cX0_deedOf 95 = .ok (.ifCond .eq 7, 3) := by decide +kernel
theorem dX0_deedOf_98 : decode cX0_deedOf 98 = .ok (.iconst 1, 1) := by decide +kernel
theorem dX0_deedOf_99 : decode cX0_deedOf 99 = .ok (.goto 8, 3) := by decide +kernel
theorem dX0_deedOf_102 : decode cX0_deedOf 102 = .ok (.aload_n 0, 1) := by decide +kernel
theorem dX0_deedOf_103 : decode cX0_deedOf 103 = .ok (.iload_n 1, 1) := by decide +kernel
theorem dX0_deedOf_104 : decode cX0_deedOf 104 = .ok (.invokevirtual 64, 3) := by decide +kernel
theorem dX0_deedOf_107 : decode cX0_deedOf 107 = .ok (.ireturn, 1) := by decide +kernel
theorem dX0_deedOf_108 : decode cX0_deedOf 108 = .ok (.aload_n 0, 1) := by decide +kernel
theorem dX0_deedOf_109 : decode cX0_deedOf 109 = .ok (.iload_n 1, 1) := by decide +kernel
theorem dX0_deedOf_110 : decode cX0_deedOf 110 = .ok (.invokevirtual 71, 3) := by decide +kernel
theorem dX0_deedOf_113 : decode cX0_deedOf 113 = .ok (.ireturn, 1) := by decide +kernel
theorem dX0_sitterDeed_0 : decode cX0_sitterDeed 0 = .ok (.aload_n 0, 1) := by decide +kernel
theorem dX0_sitterDeed_1 : decode cX0_sitterDeed 1 = .ok (.getfield 31, 3) := by decide +kernel
theorem dX0_sitterDeed_4 : decode cX0_sitterDeed 4 = .ok (.iload_n 1, 1) := by decide +kernel
theorem dX0_sitterDeed_5 : decode cX0_sitterDeed 5 = .ok (.iaload, 1) := by decide +kernel
theorem dX0_sitterDeed_6 : decode cX0_sitterDeed 6 = .ok (.aload_n 0, 1) := by decide +kernel
theorem dX0_sitterDeed_7 : decode cX0_sitterDeed 7 = .ok (.getfield 25, 3) := by decide +kernel
theorem dX0_sitterDeed_10 : decode cX0_sitterDeed 10 = .ok (.aload_n 0, 1) := by decide +kernel
theorem dX0_sitterDeed_11 : decode cX0_sitterDeed 11 = .ok (.getfield 15, 3) := by decide +kernel
theorem dX0_sitterDeed_14 : decode cX0_sitterDeed 14 = .ok (.iaload, 1) := by decide +kernel
theorem dX0_sitterDeed_15 : decode cX0_sitterDeed 15 = .ok (.if_icmp .lt 15, 3) := by decide +kernel
theorem dX0_sitterDeed_18 : decode cX0_sitterDeed 18 = .ok (.aload_n 0, 1) := by decide +kernel
theorem dX0_sitterDeed_19 : decode cX0_sitterDeed 19 = .ok (.getfield 21, 3) := by decide +kernel
theorem dX0_sitterDeed_22 : decode cX0_sitterDeed 22 = .ok (.aload_n 0, 1) := by decide +kernel
theorem dX0_sitterDeed_23 : decode cX0_sitterDeed 23 = .ok (.getfield 15, 3) := by decide +kernel
theorem dX0_sitterDeed_26 : decode cX0_sitterDeed 26 = .ok (.iaload, 1) := by decide +kernel
theorem dX0_sitterDeed_27 : decode cX0_sitterDeed 27 = .ok (.goto 4, 3) := by decide +kernel
theorem dX0_sitterDeed_30 : decode cX0_sitterDeed 30 = .ok (.iconst 0, 1) := by decide +kernel
theorem dX0_sitterDeed_31 : decode cX0_sitterDeed 31 = .ok (.ireturn, 1) := by decide +kernel
set_option maxRecDepth 20000 in
theorem ggX0_cougherDeed_X0_neighbourDid : GoodIn wsX0_cougherDeed wsX0_neighbourDid := goodIn_r _ [5, 6, 7, 16, 17, 18, 19, 20, 21, 22, 23, 24, 25] (by decide +kernel) (by decide +kernel)
set_option maxRecDepth 20000 in
theorem gX0_cougherDeed_X0_neighbourDid : GoodIn wsX0_cougherDeed (wsV RX0 67 RX0 yX0_neighbourDid wsX0_neighbourDid) := goodIn_app (goodIn_of _ (by decide +kernel)) ggX0_cougherDeed_X0_neighbourDid
set_option maxRecDepth 20000 in
theorem ggX0_cougherDeed_X0_sitterDeed : GoodIn wsX0_cougherDeed wsX0_sitterDeed := goodIn_r _ [11, 12, 13, 14, 15, 16, 17, 18, 19, 20, 21, 22, 23, 24, 25] (by decide +kernel) (by decide +kernel)
set_option maxRecDepth 20000 in
theorem gX0_cougherDeed_X0_sitterDeed : GoodIn wsX0_cougherDeed (wsV RX0 71 RX0 yX0_sitterDeed wsX0_sitterDeed) := goodIn_app (goodIn_of _ (by decide +kernel)) ggX0_cougherDeed_X0_sitterDeed
theorem dX0_cougherDeed_0 : decode cX0_cougherDeed 0 = .ok (.aload_n 0, 1) := by decide +kernel
theorem dX0_cougherDeed_1 : decode cX0_cougherDeed 1 = .ok (.iload_n 1, 1) := by decide +kernel
theorem dX0_cougherDeed_2 : decode cX0_cougherDeed 2 = .ok (.iconst 3, 1) := by decide +kernel
theorem dX0_cougherDeed_3 : decode cX0_cougherDeed 3 = .ok (.invokevirtual 67, 3) := by decide +kernel
theorem dX0_cougherDeed_6 : decode cX0_cougherDeed 6 = .ok (.ifCond .eq 7, 3) := by decide +kernel
theorem dX0_cougherDeed_9 : decode cX0_cougherDeed 9 = .ok (.iconst 3, 1) := by decide +kernel
theorem dX0_cougherDeed_10 : decode cX0_cougherDeed 10 = .ok (.goto 8, 3) := by decide +kernel
theorem dX0_cougherDeed_13 : decode cX0_cougherDeed 13 = .ok (.aload_n 0, 1) := by decide +kernel
theorem dX0_cougherDeed_14 : decode cX0_cougherDeed 14 = .ok (.iload_n 1, 1) := by decide +kernel
theorem dX0_cougherDeed_15 : decode cX0_cougherDeed 15 = .ok (.invokevirtual 71, 3) := by decide +kernel
theorem dX0_cougherDeed_18 : decode cX0_cougherDeed 18 = .ok (.ireturn, 1) := by decide +kernel
set_option maxRecDepth 20000 in
theorem ggX0_weeperDeed_X0_sitterDeed : GoodIn wsX0_weeperDeed wsX0_sitterDeed := goodIn_r _ [8, 1, 9, 3, 2, 10, 11, 12, 13, 14, 15, 16, 17, 18, 19] (by decide +kernel) (by decide +kernel)
set_option maxRecDepth 20000 in
theorem gX0_weeperDeed_X0_sitterDeed : GoodIn wsX0_weeperDeed (wsV RX0 71 RX0 yX0_sitterDeed wsX0_sitterDeed) := goodIn_app (goodIn_of _ (by decide +kernel)) ggX0_weeperDeed_X0_sitterDeed
theorem dX0_weeperDeed_0 : decode cX0_weeperDeed 0 = .ok (.aload_n 0, 1) := by decide +kernel
theorem dX0_weeperDeed_1 : decode cX0_weeperDeed 1 = .ok (.getfield 31, 3) := by decide +kernel
theorem dX0_weeperDeed_4 : decode cX0_weeperDeed 4 = .ok (.iload_n 1, 1) := by decide +kernel
theorem dX0_weeperDeed_5 : decode cX0_weeperDeed 5 = .ok (.iaload, 1) := by decide +kernel
theorem dX0_weeperDeed_6 : decode cX0_weeperDeed 6 = .ok (.bipush 40, 2) := by decide +kernel
theorem dX0_weeperDeed_8 : decode cX0_weeperDeed 8 = .ok (.if_icmp .lt 20, 3) := by decide +kernel
theorem dX0_weeperDeed_11 : decode cX0_weeperDeed 11 = .ok (.aload_n 0, 1) := by decide +kernel
theorem dX0_weeperDeed_12 : decode cX0_weeperDeed 12 = .ok (.getfield 21, 3) := by decide +kernel
theorem dX0_weeperDeed_15 : decode cX0_weeperDeed 15 = .ok (.aload_n 0, 1) := by decide +kernel
theorem dX0_weeperDeed_16 : decode cX0_weeperDeed 16 = .ok (.getfield 15, 3) := by decide +kernel
theorem dX0_weeperDeed_19 : decode cX0_weeperDeed 19 = .ok (.iaload, 1) := by decide +kernel
theorem dX0_weeperDeed_20 : decode cX0_weeperDeed 20 = .ok (.iconst 2, 1) := by decide +kernel
theorem dX0_weeperDeed_21 : decode cX0_weeperDeed 21 = .ok (.if_icmp .eq 7, 3) := by decide +kernel
theorem dX0_weeperDeed_24 : decode cX0_weeperDeed 24 = .ok (.iconst 1, 1) := by decide +kernel
theorem dX0_weeperDeed_25 : decode cX0_weeperDeed 25 = .ok (.goto 8, 3) := by decide +kernel
theorem dX0_weeperDeed_28 : decode cX0_weeperDeed 28 = .ok (.aload_n 0, 1) := by decide +kernel
theorem dX0_weeperDeed_29 : decode cX0_weeperDeed 29 = .ok (.iload_n 1, 1) := by decide +kernel
theorem dX0_weeperDeed_30 : decode cX0_weeperDeed 30 = .ok (.invokevirtual 71, 3) := by decide +kernel
theorem dX0_weeperDeed_33 : decode cX0_weeperDeed 33 = .ok (.ireturn, 1) := by decide +kernel
theorem dX0_neighbourDid_0 : decode cX0_neighbourDid 0 = .ok (.iload_n 1, 1) := by decide +kernel
theorem dX0_neighbourDid_1 : decode cX0_neighbourDid 1 = .ok (.ifCond .le 15, 3) := by decide +kernel
theorem dX0_neighbourDid_4 : decode cX0_neighbourDid 4 = .ok (.aload_n 0, 1) := by decide +kernel
theorem dX0_neighbourDid_5 : decode cX0_neighbourDid 5 = .ok (.getfield 37, 3) := by decide +kernel
theorem dX0_neighbourDid_8 : decode cX0_neighbourDid 8 = .ok (.iload_n 1, 1) := by decide +kernel
theorem dX0_neighbourDid_9 : decode cX0_neighbourDid 9 = .ok (.iconst 1, 1) := by decide +kernel
theorem dX0_neighbourDid_10 : decode cX0_neighbourDid 10 = .ok (.isub, 1) := by decide +kernel
theorem dX0_neighbourDid_11 : decode cX0_neighbourDid 11 = .ok (.iaload, 1) := by decide +kernel
theorem dX0_neighbourDid_12 : decode cX0_neighbourDid 12 = .ok (.iload_n 2, 1) := by decide +kernel
theorem dX0_neighbourDid_13 : decode cX0_neighbourDid 13 = .ok (.if_icmp .eq 25, 3) := by decide +kernel
theorem dX0_neighbourDid_16 : decode cX0_neighbourDid 16 = .ok (.iload_n 1, 1) := by decide +kernel
theorem dX0_neighbourDid_17 : decode cX0_neighbourDid 17 = .ok (.iconst 1, 1) := by decide +kernel
theorem dX0_neighbourDid_18 : decode cX0_neighbourDid 18 = .ok (.iadd, 1) := by decide +kernel
theorem dX0_neighbourDid_19 : decode cX0_neighbourDid 19 = .ok (.aload_n 0, 1) := by decide +kernel
theorem dX0_neighbourDid_20 : decode cX0_neighbourDid 20 = .ok (.getfield 18, 3) := by decide +kernel
theorem dX0_neighbourDid_23 : decode cX0_neighbourDid 23 = .ok (.if_icmp .ge 19, 3) := by decide +kernel
theorem dX0_neighbourDid_26 : decode cX0_neighbourDid 26 = .ok (.aload_n 0, 1) := by decide +kernel
theorem dX0_neighbourDid_27 : decode cX0_neighbourDid 27 = .ok (.getfield 37, 3) := by decide +kernel
theorem dX0_neighbourDid_30 : decode cX0_neighbourDid 30 = .ok (.iload_n 1, 1) := by decide +kernel
theorem dX0_neighbourDid_31 : decode cX0_neighbourDid 31 = .ok (.iconst 1, 1) := by decide +kernel
theorem dX0_neighbourDid_32 : decode cX0_neighbourDid 32 = .ok (.iadd, 1) := by decide +kernel
theorem dX0_neighbourDid_33 : decode cX0_neighbourDid 33 = .ok (.iaload, 1) := by decide +kernel
theorem dX0_neighbourDid_34 : decode cX0_neighbourDid 34 = .ok (.iload_n 2, 1) := by decide +kernel
theorem dX0_neighbourDid_35 : decode cX0_neighbourDid 35 = .ok (.if_icmp .ne 7, 3) := by decide +kernel
theorem dX0_neighbourDid_38 : decode cX0_neighbourDid 38 = .ok (.iconst 1, 1) := by decide +kernel
theorem dX0_neighbourDid_39 : decode cX0_neighbourDid 39 = .ok (.goto 4, 3) := by decide +kernel
theorem dX0_neighbourDid_42 : decode cX0_neighbourDid 42 = .ok (.iconst 0, 1) := by decide +kernel
theorem dX0_neighbourDid_43 : decode cX0_neighbourDid 43 = .ok (.ireturn, 1) := by decide +kernel
set_option maxRecDepth 20000 in
theorem ggX0_allNotesOn_X0_goOn : GoodIn wsX0_allNotesOn wsX0_goOn := goodIn_r _ [5, 6, 7, 8, 4, 9, 10, 11, 12, 13, 14, 15, 16, 17, 18, 19, 20, 21, 22, 23, 24, 25, 26, 27, 28, 29, 30, 31, 32, 33, 34, 35, 36, 37, 38, 39, 40, 41, 42, 43, 44, 45, 46, 47, 48, 49, 50, 51, 52, 53, 54, 55, 56, 57, 58, 59, 60, 61, 62, 63, 64, 65, 66, 74, 75, 76, 77, 78, 79, 80, 81, 82, 83] (by decide +kernel) (by decide +kernel)
set_option maxRecDepth 20000 in
theorem gX0_allNotesOn_X0_goOn : GoodIn wsX0_allNotesOn (wsV RX0 74 RX0 yX0_goOn wsX0_goOn) := goodIn_app (goodIn_of _ (by decide +kernel)) ggX0_allNotesOn_X0_goOn
set_option maxRecDepth 20000 in
theorem ggX0_allNotesOn_X0_allNotes : GoodIn wsX0_allNotesOn wsX0_allNotes := goodIn_r _ [70, 14, 12, 71, 72, 4, 73, 74, 75, 76, 77, 78, 79, 80, 81, 82, 83] (by decide +kernel) (by decide +kernel)
set_option maxRecDepth 20000 in
theorem gX0_allNotesOn_X0_allNotes : GoodIn wsX0_allNotesOn (wsV RX0 78 RX0 yX0_allNotes wsX0_allNotes) := goodIn_app (goodIn_of _ (by decide +kernel)) ggX0_allNotesOn_X0_allNotes
theorem dX0_allNotesOn_0 : decode cX0_allNotesOn 0 = .ok (.aload_n 0, 1) := by decide +kernel
theorem dX0_allNotesOn_1 : decode cX0_allNotesOn 1 = .ok (.iload_n 1, 1) := by decide +kernel
theorem dX0_allNotesOn_2 : decode cX0_allNotesOn 2 = .ok (.invokevirtual 74, 3) := by decide +kernel
theorem dX0_allNotesOn_5 : decode cX0_allNotesOn 5 = .ok (.aload_n 0, 1) := by decide +kernel
theorem dX0_allNotesOn_6 : decode cX0_allNotesOn 6 = .ok (.invokevirtual 78, 3) := by decide +kernel
theorem dX0_allNotesOn_9 : decode cX0_allNotesOn 9 = .ok (.ireturn, 1) := by decide +kernel
set_option maxRecDepth 20000 in
theorem ggX0_goOn_X0_go : GoodIn wsX0_goOn wsX0_go := goodIn_r _ [5, 6, 7, 8, 9, 10, 11, 12, 13, 14, 15, 4, 16, 17, 18, 19, 20, 21, 22, 23, 24, 25, 26, 27, 28, 29, 30, 31, 32, 33, 34, 35, 36, 37, 38, 39, 40, 41, 42, 43, 44, 45, 46, 47, 48, 49, 50, 51, 52, 53, 54, 55, 56, 57, 58, 59, 60, 61, 62, 63, 64, 65, 66, 67, 68, 69, 70, 71, 72] (by decide +kernel) (by decide +kernel)
set_option maxRecDepth 20000 in
theorem gX0_goOn_X0_go : GoodIn wsX0_goOn (wsV RX0 82 RX0 yX0_go wsX0_go) := goodIn_app (goodIn_of _ (by decide +kernel)) ggX0_goOn_X0_go
theorem dX0_goOn_0 : decode cX0_goOn 0 = .ok (.iconst 0, 1) := by decide +kernel
theorem dX0_goOn_1 : decode cX0_goOn 1 = .ok (.istore_n 2, 1) := by decide +kernel
theorem dX0_goOn_2 : decode cX0_goOn 2 = .ok (.iload_n 2, 1) := by decide +kernel
theorem dX0_goOn_3 : decode cX0_goOn 3 = .ok (.iload_n 1, 1) := by decide +kernel
theorem dX0_goOn_4 : decode cX0_goOn 4 = .ok (.if_icmp .ge 13, 3) := by decide +kernel
theorem dX0_goOn_7 : decode cX0_goOn 7 = .ok (.aload_n 0, 1) := by decide +kernel
theorem dX0_goOn_8 : decode cX0_goOn 8 = .ok (.invokevirtual 82, 3) := by decide +kernel
theorem dX0_goOn_11 : decode cX0_goOn 11 = .ok (.iinc 2 1, 3) := by decide +kernel
theorem dX0_goOn_14 : decode cX0_goOn 14 = .ok (.goto (-12), 3) := by decide +kernel
theorem dX0_goOn_17 : decode cX0_goOn 17 = .ok (.return_, 1) := by decide +kernel
set_option maxRecDepth 20000 in
theorem ggX0_go_X0_deedOf : GoodIn wsX0_go wsX0_deedOf := goodIn_r _ [12, 6, 1, 2, 13, 14, 15, 11, 16, 17, 18, 19, 20, 7, 3, 21, 22, 23, 24, 25, 26, 27, 28, 29, 30, 59, 60, 61, 62, 63, 64, 65, 66, 67, 68] (by decide +kernel) (by decide +kernel)
set_option maxRecDepth 20000 in
theorem gX0_go_X0_deedOf : GoodIn wsX0_go (wsV RX0 57 RX0 yX0_deedOf wsX0_deedOf) := goodIn_app (goodIn_of _ (by decide +kernel)) ggX0_go_X0_deedOf
set_option maxRecDepth 20000 in
theorem ggX0_go_X3_scoreFor : GoodIn wsX0_go wsX3_scoreFor := goodIn_r _ [33, 34, 35, 36, 37, 38, 39, 32, 40, 41, 42, 43, 44, 45, 46] (by decide +kernel) (by decide +kernel)
set_option maxRecDepth 20000 in
theorem gX0_go_X3_scoreFor_n85 : GoodIn wsX0_go (wsX3_scoreFor) := ggX0_go_X3_scoreFor
set_option maxRecDepth 20000 in
theorem ggX0_go_X3_held : GoodIn wsX0_go wsX3_held := goodIn_r _ [48, 49, 50, 36, 51, 34, 35, 37] (by decide +kernel) (by decide +kernel)
set_option maxRecDepth 20000 in
theorem gX0_go_X3_held_n89 : GoodIn wsX0_go (wsX3_held) := ggX0_go_X3_held
set_option maxRecDepth 20000 in
theorem ggX0_go_X0_endNight : GoodIn wsX0_go wsX0_endNight := goodIn_r _ [55, 2, 56, 3, 25, 6, 7, 57, 32, 58, 47, 48, 49, 50, 36, 51, 34, 35, 37, 59, 60, 61, 62, 63, 64, 65, 66, 67, 68] (by decide +kernel) (by decide +kernel)
set_option maxRecDepth 20000 in
theorem gX0_go_X0_endNight : GoodIn wsX0_go (wsV RX0 92 RX0 yX0_endNight wsX0_endNight) := goodIn_app (goodIn_of _ (by decide +kernel)) ggX0_go_X0_endNight
theorem dX0_go_0 : decode cX0_go 0 = .ok (.aload_n 0, 1) := by decide +kernel
theorem dX0_go_1 : decode cX0_go 1 = .ok (.getfield 21, 3) := by decide +kernel
theorem dX0_go_4 : decode cX0_go 4 = .ok (.aload_n 0, 1) := by decide +kernel
theorem dX0_go_5 : decode cX0_go 5 = .ok (.getfield 15, 3) := by decide +kernel
theorem dX0_go_8 : decode cX0_go 8 = .ok (.iaload, 1) := by decide +kernel
theorem dX0_go_9 : decode cX0_go 9 = .ok (.istore_n 1, 1) := by decide +kernel
theorem dX0_go_10 : decode cX0_go 10 = .ok (.iconst 0, 1) := by decide +kernel
theorem dX0_go_11 : decode cX0_go 11 = .ok (.istore_n 2, 1) := by decide +kernel
theorem dX0_go_12 : decode cX0_go 12 = .ok (.iload_n 2, 1) := by decide +kernel
theorem dX0_go_13 : decode cX0_go 13 = .ok (.aload_n 0, 1) := by decide +kernel
theorem dX0_go_14 : decode cX0_go 14 = .ok (.getfield 18, 3) := by decide +kernel
theorem dX0_go_17 : decode cX0_go 17 = .ok (.if_icmp .ge 20, 3) := by decide +kernel
theorem dX0_go_20 : decode cX0_go 20 = .ok (.aload_n 0, 1) := by decide +kernel
theorem dX0_go_21 : decode cX0_go 21 = .ok (.getfield 40, 3) := by decide +kernel
theorem dX0_go_24 : decode cX0_go 24 = .ok (.iload_n 2, 1) := by decide +kernel
theorem dX0_go_25 : decode cX0_go 25 = .ok (.aload_n 0, 1) := by decide +kernel
theorem dX0_go_26 : decode cX0_go 26 = .ok (.iload_n 2, 1) := by decide +kernel
theorem dX0_go_27 : decode cX0_go 27 = .ok (.invokevirtual 57, 3) := by decide +kernel
theorem dX0_go_30 : decode cX0_go 30 = .ok (.iastore, 1) := by decide +kernel
theorem dX0_go_31 : decode cX0_go 31 = .ok (.iinc 2 1, 3) := by decide +kernel
theorem dX0_go_34 : decode cX0_go 34 = .ok (.goto (-22), 3) := by decide +kernel
theorem dX0_go_37 : decode cX0_go 37 = .ok (.iconst 0, 1) := by decide +kernel
theorem dX0_go_38 : decode cX0_go 38 = .ok (.istore_n 2, 1) := by decide +kernel
theorem dX0_go_39 : decode cX0_go 39 = .ok (.iload_n 2, 1) := by decide +kernel
theorem dX0_go_40 : decode cX0_go 40 = .ok (.aload_n 0, 1) := by decide +kernel
theorem dX0_go_41 : decode cX0_go 41 = .ok (.getfield 18, 3) := by decide +kernel
theorem dX0_go_44 : decode cX0_go 44 = .ok (.if_icmp .ge 59, 3) := by decide +kernel
theorem dX0_go_47 : decode cX0_go 47 = .ok (.aload_n 0, 1) := by decide +kernel
theorem dX0_go_48 : decode cX0_go 48 = .ok (.getfield 34, 3) := by decide +kernel
theorem dX0_go_51 : decode cX0_go 51 = .ok (.iload_n 2, 1) := by decide +kernel
theorem dX0_go_52 : decode cX0_go 52 = .ok (.aload_n 0, 1) := by decide +kernel
theorem dX0_go_53 : decode cX0_go 53 = .ok (.getfield 34, 3) := by decide +kernel
theorem dX0_go_56 : decode cX0_go 56 = .ok (.iload_n 2, 1) := by decide +kernel
theorem dX0_go_57 : decode cX0_go 57 = .ok (.iaload, 1) := by decide +kernel
theorem dX0_go_58 : decode cX0_go 58 = .ok (.aload_n 0, 1) := by decide +kernel
theorem dX0_go_59 : decode cX0_go 59 = .ok (.getfield 28, 3) := by decide +kernel
theorem dX0_go_62 : decode cX0_go 62 = .ok (.iload_n 2, 1) := by decide +kernel
theorem dX0_go_63 : decode cX0_go 63 = .ok (.iaload, 1) := by decide +kernel
theorem dX0_go_64 : decode cX0_go 64 = .ok (.aload_n 0, 1) := by decide +kernel
theorem dX0_go_65 : decode cX0_go 65 = .ok (.getfield 40, 3) := by decide +kernel
theorem dX0_go_68 : decode cX0_go 68 = .ok (.iload_n 2, 1) := by decide +kernel
theorem dX0_go_69 : decode cX0_go 69 = .ok (.iaload, 1) := by decide +kernel
theorem dX0_go_70 : decode cX0_go 70 = .ok (.iload_n 1, 1) := by decide +kernel
theorem dX0_go_71 : decode cX0_go 71 = .ok (.invokestatic 85, 3) := by decide +kernel
theorem dX0_go_74 : decode cX0_go 74 = .ok (.iadd, 1) := by decide +kernel
theorem dX0_go_75 : decode cX0_go 75 = .ok (.sipush (-9999), 3) := by decide +kernel
theorem dX0_go_78 : decode cX0_go 78 = .ok (.sipush 9999, 3) := by decide +kernel
theorem dX0_go_81 : decode cX0_go 81 = .ok (.invokestatic 89, 3) := by decide +kernel
theorem dX0_go_84 : decode cX0_go 84 = .ok (.iastore, 1) := by decide +kernel
theorem dX0_go_85 : decode cX0_go 85 = .ok (.aload_n 0, 1) := by decide +kernel
theorem dX0_go_86 : decode cX0_go 86 = .ok (.getfield 37, 3) := by decide +kernel
theorem dX0_go_89 : decode cX0_go 89 = .ok (.iload_n 2, 1) := by decide +kernel
theorem dX0_go_90 : decode cX0_go 90 = .ok (.aload_n 0, 1) := by decide +kernel
theorem dX0_go_91 : decode cX0_go 91 = .ok (.getfield 40, 3) := by decide +kernel
theorem dX0_go_94 : decode cX0_go 94 = .ok (.iload_n 2, 1) := by decide +kernel
theorem dX0_go_95 : decode cX0_go 95 = .ok (.iaload, 1) := by decide +kernel
theorem dX0_go_96 : decode cX0_go 96 = .ok (.iastore, 1) := by decide +kernel
theorem dX0_go_97 : decode cX0_go 97 = .ok (.iinc 2 1, 3) := by decide +kernel
theorem dX0_go_100 : decode cX0_go 100 = .ok (.goto (-61), 3) := by decide +kernel
theorem dX0_go_103 : decode cX0_go 103 = .ok (.aload_n 0, 1) := by decide +kernel
theorem dX0_go_104 : decode cX0_go 104 = .ok (.dup, 1) := by decide +kernel
theorem dX0_go_105 : decode cX0_go 105 = .ok (.getfield 15, 3) := by decide +kernel
theorem dX0_go_108 : decode cX0_go 108 = .ok (.iconst 1, 1) := by decide +kernel
theorem dX0_go_109 : decode cX0_go 109 = .ok (.iadd, 1) := by decide +kernel
theorem dX0_go_110 : decode cX0_go 110 = .ok (.putfield 15, 3) := by decide +kernel
theorem dX0_go_113 : decode cX0_go 113 = .ok (.aload_n 0, 1) := by decide +kernel
theorem dX0_go_114 : decode cX0_go 114 = .ok (.getfield 15, 3) := by decide +kernel
theorem dX0_go_117 : decode cX0_go 117 = .ok (.bipush 16, 2) := by decide +kernel
theorem dX0_go_119 : decode cX0_go 119 = .ok (.if_icmp .lt 7, 3) := by decide +kernel
theorem dX0_go_122 : decode cX0_go 122 = .ok (.aload_n 0, 1) := by decide +kernel
theorem dX0_go_123 : decode cX0_go 123 = .ok (.invokevirtual 92, 3) := by decide +kernel
theorem dX0_go_126 : decode cX0_go 126 = .ok (.return_, 1) := by decide +kernel
set_option maxRecDepth 20000 in
theorem ggX0_endNight_X3_staleness : GoodIn wsX0_endNight wsX3_staleness := goodIn_r _ [9] (by decide +kernel) (by decide +kernel)
set_option maxRecDepth 20000 in
theorem gX0_endNight_X3_staleness_n95 : GoodIn wsX0_endNight (wsX3_staleness) := ggX0_endNight_X3_staleness
set_option maxRecDepth 20000 in
theorem ggX0_endNight_X3_held : GoodIn wsX0_endNight wsX3_held := goodIn_r _ [11, 12, 13, 14, 15, 16, 17, 18] (by decide +kernel) (by decide +kernel)
set_option maxRecDepth 20000 in
theorem gX0_endNight_X3_held_n89 : GoodIn wsX0_endNight (wsX3_held) := ggX0_endNight_X3_held
theorem dX0_endNight_0 : decode cX0_endNight 0 = .ok (.aload_n 0, 1) := by decide +kernel
theorem dX0_endNight_1 : decode cX0_endNight 1 = .ok (.iconst 0, 1) := by decide +kernel
theorem dX0_endNight_2 : decode cX0_endNight 2 = .ok (.putfield 15, 3) := by decide +kernel
theorem dX0_endNight_5 : decode cX0_endNight 5 = .ok (.aload_n 0, 1) := by decide +kernel
theorem dX0_endNight_6 : decode cX0_endNight 6 = .ok (.dup, 1) := by decide +kernel
theorem dX0_endNight_7 : decode cX0_endNight 7 = .ok (.getfield 9, 3) := by decide +kernel
theorem dX0_endNight_10 : decode cX0_endNight 10 = .ok (.iconst 1, 1) := by decide +kernel
theorem dX0_endNight_11 : decode cX0_endNight 11 = .ok (.iadd, 1) := by decide +kernel
theorem dX0_endNight_12 : decode cX0_endNight 12 = .ok (.putfield 9, 3) := by decide +kernel
theorem dX0_endNight_15 : decode cX0_endNight 15 = .ok (.iconst 0, 1) := by decide +kernel
theorem dX0_endNight_16 : decode cX0_endNight 16 = .ok (.istore_n 1, 1) := by decide +kernel
theorem dX0_endNight_17 : decode cX0_endNight 17 = .ok (.iload_n 1, 1) := by decide +kernel
theorem dX0_endNight_18 : decode cX0_endNight 18 = .ok (.aload_n 0, 1) := by decide +kernel
theorem dX0_endNight_19 : decode cX0_endNight 19 = .ok (.getfield 18, 3) := by decide +kernel
theorem dX0_endNight_22 : decode cX0_endNight 22 = .ok (.if_icmp .ge 44, 3) := by decide +kernel
theorem dX0_endNight_25 : decode cX0_endNight 25 = .ok (.aload_n 0, 1) := by decide +kernel
theorem dX0_endNight_26 : decode cX0_endNight 26 = .ok (.getfield 31, 3) := by decide +kernel
theorem dX0_endNight_29 : decode cX0_endNight 29 = .ok (.iload_n 1, 1) := by decide +kernel
theorem dX0_endNight_30 : decode cX0_endNight 30 = .ok (.aload_n 0, 1) := by decide +kernel
theorem dX0_endNight_31 : decode cX0_endNight 31 = .ok (.getfield 31, 3) := by decide +kernel
theorem dX0_endNight_34 : decode cX0_endNight 34 = .ok (.iload_n 1, 1) := by decide +kernel
theorem dX0_endNight_35 : decode cX0_endNight 35 = .ok (.iaload, 1) := by decide +kernel
theorem dX0_endNight_36 : decode cX0_endNight 36 = .ok (.aload_n 0, 1) := by decide +kernel
theorem dX0_endNight_37 : decode cX0_endNight 37 = .ok (.getfield 28, 3) := by decide +kernel
theorem dX0_endNight_40 : decode cX0_endNight 40 = .ok (.iload_n 1, 1) := by decide +kernel
theorem dX0_endNight_41 : decode cX0_endNight 41 = .ok (.iaload, 1) := by decide +kernel
theorem dX0_endNight_42 : decode cX0_endNight 42 = .ok (.invokestatic 95, 3) := by decide +kernel
theorem dX0_endNight_45 : decode cX0_endNight 45 = .ok (.isub, 1) := by decide +kernel
theorem dX0_endNight_46 : decode cX0_endNight 46 = .ok (.iconst 0, 1) := by decide +kernel
theorem dX0_endNight_47 : decode cX0_endNight 47 = .ok (.bipush 99, 2) := by decide +kernel
theorem dX0_endNight_49 : decode cX0_endNight 49 = .ok (.invokestatic 89, 3) := by decide +kernel
theorem dX0_endNight_52 : decode cX0_endNight 52 = .ok (.iastore, 1) := by decide +kernel
theorem dX0_endNight_53 : decode cX0_endNight 53 = .ok (.aload_n 0, 1) := by decide +kernel
theorem dX0_endNight_54 : decode cX0_endNight 54 = .ok (.getfield 37, 3) := by decide +kernel
theorem dX0_endNight_57 : decode cX0_endNight 57 = .ok (.iload_n 1, 1) := by decide +kernel
theorem dX0_endNight_58 : decode cX0_endNight 58 = .ok (.iconst 0, 1) := by decide +kernel
theorem dX0_endNight_59 : decode cX0_endNight 59 = .ok (.iastore, 1) := by decide +kernel
theorem dX0_endNight_60 : decode cX0_endNight 60 = .ok (.iinc 1 1, 3) := by decide +kernel
theorem dX0_endNight_63 : decode cX0_endNight 63 = .ok (.goto (-46), 3) := by decide +kernel
theorem dX0_endNight_66 : decode cX0_endNight 66 = .ok (.return_, 1) := by decide +kernel
theorem dX1_init_0 : decode cX1_init 0 = .ok (.aload_n 0, 1) := by decide +kernel
theorem dX1_init_1 : decode cX1_init 1 = .ok (.invokespecial 3, 3) := by decide +kernel
theorem dX1_init_4 : decode cX1_init 4 = .ok (.aload_n 0, 1) := by decide +kernel
theorem dX1_init_5 : decode cX1_init 5 = .ok (.bipush 40, 2) := by decide +kernel
theorem dX1_init_7 : decode cX1_init 7 = .ok (.newarray .long, 2) := by decide +kernel
theorem dX1_init_9 : decode cX1_init 9 = .ok (.putfield 9, 3) := by decide +kernel
theorem dX1_init_12 : decode cX1_init 12 = .ok (.aload_n 0, 1) := by decide +kernel
theorem dX1_init_13 : decode cX1_init 13 = .ok (.iconst 0, 1) := by decide +kernel
theorem dX1_init_14 : decode cX1_init 14 = .ok (.putfield 15, 3) := by decide +kernel
theorem dX1_init_17 : decode cX1_init 17 = .ok (.aload_n 0, 1) := by decide +kernel
theorem dX1_init_18 : decode cX1_init 18 = .ok (.iconst 0, 1) := by decide +kernel
theorem dX1_init_19 : decode cX1_init 19 = .ok (.putfield 19, 3) := by decide +kernel
theorem dX1_init_22 : decode cX1_init 22 = .ok (.return_, 1) := by decide +kernel
theorem dX1_isMissing_0 : decode cX1_isMissing 0 = .ok (.aload_n 0, 1) := by decide +kernel
theorem dX1_isMissing_1 : decode cX1_isMissing 1 = .ok (.getfield 15, 3) := by decide +kernel
theorem dX1_isMissing_4 : decode cX1_isMissing 4 = .ok (.ifCond .ne 7, 3) := by decide +kernel
theorem dX1_isMissing_7 : decode cX1_isMissing 7 = .ok (.iconst 1, 1) := by decide +kernel
theorem dX1_isMissing_8 : decode cX1_isMissing 8 = .ok (.goto 4, 3) := by decide +kernel
theorem dX1_isMissing_11 : decode cX1_isMissing 11 = .ok (.iconst 0, 1) := by decide +kernel
theorem dX1_isMissing_12 : decode cX1_isMissing 12 = .ok (.ireturn, 1) := by decide +kernel
theorem dX1_layOut_0 : decode cX1_layOut 0 = .ok (.aload_n 0, 1) := by decide +kernel
theorem dX1_layOut_1 : decode cX1_layOut 1 = .ok (.iload_n 1, 1) := by decide +kernel
theorem dX1_layOut_2 : decode cX1_layOut 2 = .ok (.putfield 15, 3) := by decide +kernel
theorem dX1_layOut_5 : decode cX1_layOut 5 = .ok (.aload_n 0, 1) := by decide +kernel
theorem dX1_layOut_6 : decode cX1_layOut 6 = .ok (.iload_n 1, 1) := by decide +kernel
theorem dX1_layOut_7 : decode cX1_layOut 7 = .ok (.ifCond .ne 7, 3) := by decide +kernel
theorem dX1_layOut_10 : decode cX1_layOut 10 = .ok (.iconst 0, 1) := by decide +kernel
theorem dX1_layOut_11 : decode cX1_layOut 11 = .ok (.goto 4, 3) := by decide +kernel
theorem dX1_layOut_14 : decode cX1_layOut 14 = .ok (.iload_n 2, 1) := by decide +kernel
theorem dX1_layOut_15 : decode cX1_layOut 15 = .ok (.putfield 19, 3) := by decide +kernel
theorem dX1_layOut_18 : decode cX1_layOut 18 = .ok (.iconst 0, 1) := by decide +kernel
theorem dX1_layOut_19 : decode cX1_layOut 19 = .ok (.istore_n 3, 1) := by decide +kernel
theorem dX1_layOut_20 : decode cX1_layOut 20 = .ok (.iload_n 3, 1) := by decide +kernel
theorem dX1_layOut_21 : decode cX1_layOut 21 = .ok (.bipush 40, 2) := by decide +kernel
theorem dX1_layOut_23 : decode cX1_layOut 23 = .ok (.if_icmp .ge 16, 3) := by decide +kernel
theorem dX1_layOut_26 : decode cX1_layOut 26 = .ok (.aload_n 0, 1) := by decide +kernel
theorem dX1_layOut_27 : decode cX1_layOut 27 = .ok (.getfield 9, 3) := by decide +kernel
theorem dX1_layOut_30 : decode cX1_layOut 30 = .ok (.iload_n 3, 1) := by decide +kernel
theorem dX1_layOut_31 : decode cX1_layOut 31 = .ok (.lconst 0, 1) := by decide +kernel
theorem dX1_layOut_32 : decode cX1_layOut 32 = .ok (.lastore, 1) := by decide +kernel
theorem dX1_layOut_33 : decode cX1_layOut 33 = .ok (.iinc 3 1, 3) := by decide +kernel
theorem dX1_layOut_36 : decode cX1_layOut 36 = .ok (.goto (-16), 3) := by decide +kernel
theorem dX1_layOut_39 : decode cX1_layOut 39 = .ok (.return_, 1) := by decide +kernel
theorem dX1_put_0 : decode cX1_put 0 = .ok (.aload_n 0, 1) := by decide +kernel
theorem dX1_put_1 : decode cX1_put 1 = .ok (.getfield 9, 3) := by decide +kernel
theorem dX1_put_4 : decode cX1_put 4 = .ok (.iload_n 1, 1) := by decide +kernel
theorem dX1_put_5 : decode cX1_put 5 = .ok (.aload_n 0, 1) := by decide +kernel
theorem dX1_put_6 : decode cX1_put 6 = .ok (.getfield 15, 3) := by decide +kernel
theorem dX1_put_9 : decode cX1_put 9 = .ok (.bipush 8, 2) := by decide +kernel
theorem dX1_put_11 : decode cX1_put 11 = .ok (.if_icmp .ne 10, 3) := by decide +kernel
theorem dX1_put_14 : decode cX1_put 14 = .ok (.lload_n 2, 1) := by decide +kernel
theorem dX1_put_15 : decode cX1_put 15 = .ok (.l2i, 1) := by decide +kernel
theorem dX1_put_16 : decode cX1_put 16 = .ok (.i2b, 1) := by decide +kernel
theorem dX1_put_17 : decode cX1_put 17 = .ok (.i2l, 1) := by decide +kernel
theorem dX1_put_18 : decode cX1_put 18 = .ok (.goto 20, 3) := by decide +kernel
theorem dX1_put_21 : decode cX1_put 21 = .ok (.aload_n 0, 1) := by decide +kernel
theorem dX1_put_22 : decode cX1_put 22 = .ok (.getfield 15, 3) := by decide +kernel
theorem dX1_put_25 : decode cX1_put 25 = .ok (.bipush 16, 2) := by decide +kernel
theorem dX1_put_27 : decode cX1_put 27 = .ok (.if_icmp .ne 10, 3) := by decide +kernel
theorem dX1_put_30 : decode cX1_put 30 = .ok (.lload_n 2, 1) := by decide +kernel
theorem dX1_put_31 : decode cX1_put 31 = .ok (.l2i, 1) := by decide +kernel
theorem dX1_put_32 : decode cX1_put 32 = .ok (.i2s, 1) := by decide +kernel
theorem dX1_put_33 : decode cX1_put 33 = .ok (.i2l, 1) := by decide +kernel
theorem dX1_put_34 : decode cX1_put 34 = .ok (.goto 4, 3) := by decide +kernel
theorem dX1_put_37 : decode cX1_put 37 = .ok (.lload_n 2, 1) := by decide +kernel
theorem dX1_put_38 : decode cX1_put 38 = .ok (.lastore, 1) := by decide +kernel
theorem dX1_put_39 : decode cX1_put 39 = .ok (.return_, 1) := by decide +kernel
theorem dX1_has_0 : decode cX1_has 0 = .ok (.iload_n 1, 1) := by decide +kernel
theorem dX1_has_1 : decode cX1_has 1 = .ok (.ifCond .lt 21, 3) := by decide +kernel
theorem dX1_has_4 : decode cX1_has 4 = .ok (.iload_n 2, 1) := by decide +kernel
theorem dX1_has_5 : decode cX1_has 5 = .ok (.ifCond .lt 17, 3) := by decide +kernel
theorem dX1_has_8 : decode cX1_has 8 = .ok (.iload_n 2, 1) := by decide +kernel
theorem dX1_has_9 : decode cX1_has 9 = .ok (.aload_n 0, 1) := by decide +kernel
theorem dX1_has_10 : decode cX1_has 10 = .ok (.getfield 19, 3) := by decide +kernel
theorem dX1_has_13 : decode cX1_has 13 = .ok (.iload_n 1, 1) := by decide +kernel
theorem dX1_has_14 : decode cX1_has 14 = .ok (.isub, 1) := by decide +kernel
theorem dX1_has_15 : decode cX1_has 15 = .ok (.if_icmp .gt 7, 3) := by decide +kernel
theorem dX1_has_18 : decode cX1_has 18 = .ok (.iconst 1, 1) := by decide +kernel
theorem dX1_has_19 : decode cX1_has 19 = .ok (.goto 4, 3) := by decide +kernel
theorem dX1_has_22 : decode cX1_has 22 = .ok (.iconst 0, 1) := by decide +kernel
theorem dX1_has_23 : decode cX1_has 23 = .ok (.ireturn, 1) := by decide +kernel
theorem dX2_init_0 : decode cX2_init 0 = .ok (.aload_n 0, 1) := by decide +kernel
theorem dX2_init_1 : decode cX2_init 1 = .ok (.invokespecial 3, 3) := by decide +kernel
theorem dX2_init_4 : decode cX2_init 4 = .ok (.aload_n 0, 1) := by decide +kernel
theorem dX2_init_5 : decode cX2_init 5 = .ok (.bipush 120, 2) := by decide +kernel
theorem dX2_init_7 : decode cX2_init 7 = .ok (.newarray .byte, 2) := by decide +kernel
theorem dX2_init_9 : decode cX2_init 9 = .ok (.putfield 9, 3) := by decide +kernel
theorem dX2_init_12 : decode cX2_init 12 = .ok (.aload_n 0, 1) := by decide +kernel
theorem dX2_init_13 : decode cX2_init 13 = .ok (.iconst 0, 1) := by decide +kernel
theorem dX2_init_14 : decode cX2_init 14 = .ok (.putfield 15, 3) := by decide +kernel
theorem dX2_init_17 : decode cX2_init 17 = .ok (.aload_n 0, 1) := by decide +kernel
theorem dX2_init_18 : decode cX2_init 18 = .ok (.iconst 0, 1) := by decide +kernel
theorem dX2_init_19 : decode cX2_init 19 = .ok (.putfield 19, 3) := by decide +kernel
theorem dX2_init_22 : decode cX2_init 22 = .ok (.aload_n 0, 1) := by decide +kernel
theorem dX2_init_23 : decode cX2_init 23 = .ok (.iconst 0, 1) := by decide +kernel
theorem dX2_init_24 : decode cX2_init 24 = .ok (.putfield 22, 3) := by decide +kernel
theorem dX2_init_27 : decode cX2_init 27 = .ok (.aload_n 0, 1) := by decide +kernel
theorem dX2_init_28 : decode cX2_init 28 = .ok (.iconst 0, 1) := by decide +kernel
theorem dX2_init_29 : decode cX2_init 29 = .ok (.putfield 25, 3) := by decide +kernel
theorem dX2_init_32 : decode cX2_init 32 = .ok (.aload_n 0, 1) := by decide +kernel
theorem dX2_init_33 : decode cX2_init 33 = .ok (.iconst 0, 1) := by decide +kernel
theorem dX2_init_34 : decode cX2_init 34 = .ok (.putfield 28, 3) := by decide +kernel
theorem dX2_init_37 : decode cX2_init 37 = .ok (.return_, 1) := by decide +kernel
theorem dX2_add_0 : decode cX2_add 0 = .ok (.aload_n 0, 1) := by decide +kernel
theorem dX2_add_1 : decode cX2_add 1 = .ok (.getfield 15, 3) := by decide +kernel
theorem dX2_add_4 : decode cX2_add 4 = .ok (.bipush 120, 2) := by decide +kernel
theorem dX2_add_6 : decode cX2_add 6 = .ok (.if_icmp .ge 23, 3) := by decide +kernel
theorem dX2_add_9 : decode cX2_add 9 = .ok (.aload_n 0, 1) := by decide +kernel
theorem dX2_add_10 : decode cX2_add 10 = .ok (.getfield 9, 3) := by decide +kernel
theorem dX2_add_13 : decode cX2_add 13 = .ok (.aload_n 0, 1) := by decide +kernel
theorem dX2_add_14 : decode cX2_add 14 = .ok (.getfield 15, 3) := by decide +kernel
theorem dX2_add_17 : decode cX2_add 17 = .ok (.iload_n 1, 1) := by decide +kernel
theorem dX2_add_18 : decode cX2_add 18 = .ok (.bastore, 1) := by decide +kernel
theorem dX2_add_19 : decode cX2_add 19 = .ok (.aload_n 0, 1) := by decide +kernel
theorem dX2_add_20 : decode cX2_add 20 = .ok (.dup, 1) := by decide +kernel
theorem dX2_add_21 : decode cX2_add 21 = .ok (.getfield 15, 3) := by decide +kernel
theorem dX2_add_24 : decode cX2_add 24 = .ok (.iconst 1, 1) := by decide +kernel
theorem dX2_add_25 : decode cX2_add 25 = .ok (.iadd, 1) := by decide +kernel
theorem dX2_add_26 : decode cX2_add 26 = .ok (.putfield 15, 3) := by decide +kernel
theorem dX2_add_29 : decode cX2_add 29 = .ok (.return_, 1) := by decide +kernel
set_option maxRecDepth 20000 in
theorem ggX2_tellTo_X2_take : GoodIn wsX2_tellTo wsX2_take := goodIn_r _ [8, 1, 2, 9, 10, 3, 11, 12, 7, 13, 14, 15, 16, 17, 18, 19, 20, 21, 22, 23, 24, 25, 26, 27, 28, 29, 136, 137, 138, 139, 140, 141] (by decide +kernel) (by decide +kernel)
set_option maxRecDepth 20000 in
theorem gX2_tellTo_X2_take : GoodIn wsX2_tellTo (wsV RX2 31 RX2 yX2_take wsX2_take) := goodIn_app (goodIn_of _ (by decide +kernel)) ggX2_tellTo_X2_take
set_option maxRecDepth 20000 in
theorem ggX2_tellTo_X2_takeItem : GoodIn wsX2_tellTo wsX2_takeItem := goodIn_r _ [33, 3, 34, 35, 36, 7, 37, 1, 2, 10, 38, 39, 40, 41, 42, 43, 44, 45, 46, 47, 48, 49, 50, 51, 52, 53, 54, 55, 56, 57, 58, 59, 60, 61, 62, 63, 64, 65, 66, 67, 68, 69, 70, 71, 72, 73, 74, 75, 76, 77, 78, 79, 80, 81, 82, 83, 84, 85, 86, 87, 88, 89, 90, 25, 4, 5, 6, 8, 9, 11, 12, 13, 14, 15, 16, 17, 18, 19, 20, 21, 22, 23, 24, 26, 27, 28, 29, 91, 92, 93, 94, 95, 96, 97, 98, 99, 100, 101, 102, 103, 104, 105, 106, 107, 108, 109, 110, 111, 112, 113, 114, 115, 116, 117, 118, 119, 120, 121, 122, 123, 124, 125, 126, 127, 128, 129, 130, 131, 132, 133, 134, 135, 136, 137, 138, 139, 140, 141, 142, 143, 144, 145, 146, 147, 148, 149, 150, 151] (by decide +kernel) (by decide +kernel)
set_option maxRecDepth 20000 in
theorem gX2_tellTo_X2_takeItem : GoodIn wsX2_tellTo (wsV RX2 34 RX2 yX2_takeItem wsX2_takeItem) := goodIn_app (goodIn_of _ (by decide +kernel)) ggX2_tellTo_X2_takeItem
theorem dX2_tellTo_0 : decode cX2_tellTo 0 = .ok (.aload_n 0, 1) := by decide +kernel
theorem dX2_tellTo_1 : decode cX2_tellTo 1 = .ok (.iconst 0, 1) := by decide +kernel
theorem dX2_tellTo_2 : decode cX2_tellTo 2 = .ok (.putfield 22, 3) := by decide +kernel
theorem dX2_tellTo_5 : decode cX2_tellTo 5 = .ok (.iconst 1, 1) := by decide +kernel
theorem dX2_tellTo_6 : decode cX2_tellTo 6 = .ok (.istore_n 2, 1) := by decide +kernel
theorem dX2_tellTo_7 : decode cX2_tellTo 7 = .ok (.iload_n 2, 1) := by decide +kernel
theorem dX2_tellTo_8 : decode cX2_tellTo 8 = .ok (.bipush 120, 2) := by decide +kernel
theorem dX2_tellTo_10 : decode cX2_tellTo 10 = .ok (.if_icmp .gt 52, 3) := by decide +kernel
theorem dX2_tellTo_13 : decode cX2_tellTo 13 = .ok (.aload_n 0, 1) := by decide +kernel
theorem dX2_tellTo_14 : decode cX2_tellTo 14 = .ok (.invokevirtual 31, 3) := by decide +kernel
theorem dX2_tellTo_17 : decode cX2_tellTo 17 = .ok (.aload_n 0, 1) := by decide +kernel
theorem dX2_tellTo_18 : decode cX2_tellTo 18 = .ok (.aload_n 1, 1) := by decide +kernel
theorem dX2_tellTo_19 : decode cX2_tellTo 19 = .ok (.invokevirtual 34, 3) := by decide +kernel
theorem dX2_tellTo_22 : decode cX2_tellTo 22 = .ok (.ifCond .ne 10, 3) := by decide +kernel
theorem dX2_tellTo_25 : decode cX2_tellTo 25 = .ok (.iconst (-1), 1) := by decide +kernel
theorem dX2_tellTo_26 : decode cX2_tellTo 26 = .ok (.aload_n 0, 1) := by decide +kernel
theorem dX2_tellTo_27 : decode cX2_tellTo 27 = .ok (.getfield 19, 3) := by decide +kernel
theorem dX2_tellTo_30 : decode cX2_tellTo 30 = .ok (.isub, 1) := by decide +kernel
theorem dX2_tellTo_31 : decode cX2_tellTo 31 = .ok (.ireturn, 1) := by decide +kernel
theorem dX2_tellTo_32 : decode cX2_tellTo 32 = .ok (.aload_n 0, 1) := by decide +kernel
theorem dX2_tellTo_33 : decode cX2_tellTo 33 = .ok (.getfield 25, 3) := by decide +kernel
theorem dX2_tellTo_36 : decode cX2_tellTo 36 = .ok (.ifCond .ne 5, 3) := by decide +kernel
theorem dX2_tellTo_39 : decode cX2_tellTo 39 = .ok (.iload_n 2, 1) := by decide +kernel
theorem dX2_tellTo_40 : decode cX2_tellTo 40 = .ok (.ireturn, 1) := by decide +kernel
theorem dX2_tellTo_41 : decode cX2_tellTo 41 = .ok (.aload_n 0, 1) := by decide +kernel
theorem dX2_tellTo_42 : decode cX2_tellTo 42 = .ok (.getfield 25, 3) := by decide +kernel
theorem dX2_tellTo_45 : decode cX2_tellTo 45 = .ok (.iconst 3, 1) := by decide +kernel
theorem dX2_tellTo_46 : decode cX2_tellTo 46 = .ok (.if_icmp .eq 10, 3) := by decide +kernel
theorem dX2_tellTo_49 : decode cX2_tellTo 49 = .ok (.iconst (-1), 1) := by decide +kernel
theorem dX2_tellTo_50 : decode cX2_tellTo 50 = .ok (.aload_n 0, 1) := by decide +kernel
theorem dX2_tellTo_51 : decode cX2_tellTo 51 = .ok (.getfield 19, 3) := by decide +kernel
theorem dX2_tellTo_54 : decode cX2_tellTo 54 = .ok (.isub, 1) := by decide +kernel
theorem dX2_tellTo_55 : decode cX2_tellTo 55 = .ok (.ireturn, 1) := by decide +kernel
theorem dX2_tellTo_56 : decode cX2_tellTo 56 = .ok (.iinc 2 1, 3) := by decide +kernel
theorem dX2_tellTo_59 : decode cX2_tellTo 59 = .ok (.goto (-52), 3) := by decide +kernel
theorem dX2_tellTo_62 : decode cX2_tellTo 62 = .ok (.iconst (-1), 1) := by decide +kernel
theorem dX2_tellTo_63 : decode cX2_tellTo 63 = .ok (.aload_n 0, 1) := by decide +kernel
theorem dX2_tellTo_64 : decode cX2_tellTo 64 = .ok (.getfield 19, 3) := by decide +kernel
theorem dX2_tellTo_67 : decode cX2_tellTo 67 = .ok (.isub, 1) := by decide +kernel
theorem dX2_tellTo_68 : decode cX2_tellTo 68 = .ok (.ireturn, 1) := by decide +kernel
set_option maxRecDepth 20000 in
theorem ggX2_takeItem_X2_isWord : GoodIn wsX2_takeItem wsX2_isWord := goodIn_r _ [6, 1, 7, 8, 9, 10, 11, 12, 13, 14, 15, 16, 17, 18, 19, 20, 21, 22, 23, 24, 25, 26, 27, 28, 29, 30, 31, 32, 33, 34, 35, 36, 37, 38, 39, 40, 41, 42, 43, 44, 45, 46, 47, 48, 49, 50, 51, 52, 53, 54, 55, 56, 57, 58, 132, 133, 134, 135, 136, 137] (by decide +kernel) (by decide +kernel)
set_option maxRecDepth 20000 in
theorem gX2_takeItem_X2_isWord : GoodIn wsX2_takeItem (wsV RX2 40 RX2 yX2_isWord wsX2_isWord) := goodIn_app (goodIn_of _ (by decide +kernel)) ggX2_takeItem_X2_isWord
set_option maxRecDepth 20000 in
theorem ggX2_takeItem_X2_takeCue : GoodIn wsX2_takeItem wsX2_takeCue := goodIn_r _ [62, 63, 64, 65, 66, 5, 67, 7, 8, 68, 9, 1, 69, 70, 71, 72, 73, 74, 75, 76, 77, 78, 79, 80, 81, 82, 83, 84, 85, 86, 87, 88, 89, 90, 91, 92, 93, 94, 95, 96, 97, 2, 3, 4, 6, 10, 11, 12, 13, 14, 15, 16, 17, 18, 19, 20, 21, 22, 23, 24, 25, 26, 27, 28, 29, 30, 31, 32, 33, 34, 35, 36, 37, 38, 39, 40, 41, 42, 43, 44, 45, 46, 47, 48, 49, 50, 51, 52, 53, 54, 55, 56, 57, 58, 132, 133, 134, 135, 136, 137, 138, 139, 140, 141, 142, 143, 144, 145, 146, 147] (by decide +kernel) (by decide +kernel)
set_option maxRecDepth 20000 in
theorem gX2_takeItem_X2_takeCue : GoodIn wsX2_takeItem (wsV RX2 44 RX2 yX2_takeCue wsX2_takeCue) := goodIn_app (goodIn_of _ (by decide +kernel)) ggX2_takeItem_X2_takeCue
set_option maxRecDepth 20000 in
theorem ggX2_takeItem_X2_takeTense : GoodIn wsX2_takeItem wsX2_takeTense := goodIn_r _ [101, 63, 64, 65, 66, 5, 67, 7, 8, 68, 9, 1, 69, 70, 71, 72, 73, 74, 75, 76, 77, 78, 79, 80, 81, 82, 83, 84, 85, 86, 87, 88, 89, 90, 132, 133, 134, 135, 136, 137, 138, 139, 140, 141, 142, 143, 144, 145, 146, 147] (by decide +kernel) (by decide +kernel)
set_option maxRecDepth 20000 in
theorem gX2_takeItem_X2_takeTense : GoodIn wsX2_takeItem (wsV RX2 49 RX2 yX2_takeTense wsX2_takeTense) := goodIn_app (goodIn_of _ (by decide +kernel)) ggX2_takeItem_X2_takeTense
set_option maxRecDepth 20000 in
theorem ggX2_takeItem_X2_takeSwap : GoodIn wsX2_takeItem wsX2_takeSwap := goodIn_r _ [105, 63, 64, 65, 66, 5, 67, 7, 8, 68, 9, 1, 69, 70, 71, 72, 73, 74, 75, 76, 77, 78, 79, 80, 81, 82, 83, 84, 85, 86, 87, 88, 89, 90, 106, 107, 108, 109, 110, 111, 112, 113, 114, 115, 116, 138, 139, 140, 141, 142, 143, 144, 145, 146, 147, 132, 133, 134, 135, 136, 137] (by decide +kernel) (by decide +kernel)
set_option maxRecDepth 20000 in
theorem gX2_takeItem_X2_takeSwap : GoodIn wsX2_takeItem (wsV RX2 54 RX2 yX2_takeSwap wsX2_takeSwap) := goodIn_app (goodIn_of _ (by decide +kernel)) ggX2_takeItem_X2_takeSwap
set_option maxRecDepth 20000 in
theorem ggX2_takeItem_X2_takePerson : GoodIn wsX2_takeItem wsX2_takePerson := goodIn_r _ [120, 63, 121, 122, 123, 5, 124, 125, 126, 127, 2, 3, 4, 6, 1, 7, 8, 9, 10, 11, 12, 13, 14, 15, 16, 17, 18, 19, 20, 21, 22, 23, 24, 25, 26, 27, 28, 29, 30, 31, 32, 33, 34, 35, 36, 37, 38, 39, 40, 41, 42, 43, 44, 45, 46, 47, 48, 49, 50, 51, 52, 53, 54, 55, 56, 57, 58, 128, 107, 129, 130, 131, 110, 111, 112, 113, 64, 65, 66, 67, 68, 69, 70, 71, 72, 73, 74, 75, 76, 77, 78, 79, 80, 81, 82, 83, 84, 85, 86, 87, 88, 89, 90, 138, 139, 140, 141, 142, 143, 144, 145, 146, 147, 132, 133, 134, 135, 136, 137] (by decide +kernel) (by decide +kernel)
set_option maxRecDepth 20000 in
theorem gX2_takeItem_X2_takePerson : GoodIn wsX2_takeItem (wsV RX2 57 RX2 yX2_takePerson wsX2_takePerson) := goodIn_app (goodIn_of _ (by decide +kernel)) ggX2_takeItem_X2_takePerson
theorem dX2_takeItem_0 : decode cX2_takeItem 0 = .ok (.aload_n 0, 1) := by decide +kernel
theorem dX2_takeItem_1 : decode cX2_takeItem 1 = .ok (.getfield 25, 3) := by decide +kernel
theorem dX2_takeItem_4 : decode cX2_takeItem 4 = .ok (.iconst 1, 1) := by decide +kernel
theorem dX2_takeItem_5 : decode cX2_takeItem 5 = .ok (.if_icmp .eq 5, 3) := by decide +kernel
theorem dX2_takeItem_8 : decode cX2_takeItem 8 = .ok (.iconst 0, 1) := by decide +kernel
theorem dX2_takeItem_9 : decode cX2_takeItem 9 = .ok (.ireturn, 1) := by decide +kernel
theorem dX2_takeItem_10 : decode cX2_takeItem 10 = .ok (.aload_n 0, 1) := by decide +kernel
theorem dX2_takeItem_11 : decode cX2_takeItem 11 = .ok (.ldc 38, 2) := by decide +kernel
theorem dX2_takeItem_13 : decode cX2_takeItem 13 = .ok (.invokevirtual 40, 3) := by decide +kernel
theorem dX2_takeItem_16 : decode cX2_takeItem 16 = .ok (.ifCond .eq 9, 3) := by decide +kernel
theorem dX2_takeItem_19 : decode cX2_takeItem 19 = .ok (.aload_n 0, 1) := by decide +kernel
theorem dX2_takeItem_20 : decode cX2_takeItem 20 = .ok (.aload_n 1, 1) := by decide +kernel
theorem dX2_takeItem_21 : decode cX2_takeItem 21 = .ok (.invokevirtual 44, 3) := by decide +kernel
theorem dX2_takeItem_24 : decode cX2_takeItem 24 = .ok (.ireturn, 1) := by decide +kernel
theorem dX2_takeItem_25 : decode cX2_takeItem 25 = .ok (.aload_n 0, 1) := by decide +kernel
theorem dX2_takeItem_26 : decode cX2_takeItem 26 = .ok (.ldc 47, 2) := by decide +kernel
theorem dX2_takeItem_28 : decode cX2_takeItem 28 = .ok (.invokevirtual 40, 3) := by decide +kernel
theorem dX2_takeItem_31 : decode cX2_takeItem 31 = .ok (.ifCond .eq 9, 3) := by decide +kernel
theorem dX2_takeItem_34 : decode cX2_takeItem 34 = .ok (.aload_n 0, 1) := by decide +kernel
theorem dX2_takeItem_35 : decode cX2_takeItem 35 = .ok (.aload_n 1, 1) := by decide +kernel
theorem dX2_takeItem_36 : decode cX2_takeItem 36 = .ok (.invokevirtual 49, 3) := by decide +kernel
theorem dX2_takeItem_39 : decode cX2_takeItem 39 = .ok (.ireturn, 1) := by decide +kernel
theorem dX2_takeItem_40 : decode cX2_takeItem 40 = .ok (.aload_n 0, 1) := by decide +kernel
theorem dX2_takeItem_41 : decode cX2_takeItem 41 = .ok (.ldc 52, 2) := by decide +kernel
theorem dX2_takeItem_43 : decode cX2_takeItem 43 = .ok (.invokevirtual 40, 3) := by decide +kernel
theorem dX2_takeItem_46 : decode cX2_takeItem 46 = .ok (.ifCond .eq 9, 3) := by decide +kernel
theorem dX2_takeItem_49 : decode cX2_takeItem 49 = .ok (.aload_n 0, 1) := by decide +kernel
theorem dX2_takeItem_50 : decode cX2_takeItem 50 = .ok (.aload_n 1, 1) := by decide +kernel
theorem dX2_takeItem_51 : decode cX2_takeItem 51 = .ok (.invokevirtual 54, 3) := by decide +kernel
theorem dX2_takeItem_54 : decode cX2_takeItem 54 = .ok (.ireturn, 1) := by decide +kernel
theorem dX2_takeItem_55 : decode cX2_takeItem 55 = .ok (.aload_n 0, 1) := by decide +kernel
theorem dX2_takeItem_56 : decode cX2_takeItem 56 = .ok (.aload_n 1, 1) := by decide +kernel
theorem dX2_takeItem_57 : decode cX2_takeItem 57 = .ok (.invokevirtual 57, 3) := by decide +kernel
theorem dX2_takeItem_60 : decode cX2_takeItem 60 = .ok (.ireturn, 1) := by decide +kernel
set_option maxRecDepth 20000 in
theorem ggX2_takePerson_X2_kindNamed : GoodIn wsX2_takePerson wsX2_kindNamed := goodIn_r _ [6, 7, 8, 5, 9, 10, 11, 12, 13, 14, 15, 16, 17, 18, 19, 20, 21, 22, 23, 24, 25, 26, 27, 28, 29, 30, 31, 32, 33, 34, 35, 36, 37, 38, 39, 40, 41, 42, 43, 44, 45, 46, 47, 48, 49, 50, 51, 52, 53, 54, 55, 56, 57, 58, 59, 60, 61, 62, 63, 64, 65, 66, 113, 114, 115, 116, 117, 118] (by decide +kernel) (by decide +kernel)
set_option maxRecDepth 20000 in
theorem gX2_takePerson_X2_kindNamed : GoodIn wsX2_takePerson (wsV RX2 60 RX2 yX2_kindNamed wsX2_kindNamed) := goodIn_app (goodIn_of _ (by decide +kernel)) ggX2_takePerson_X2_kindNamed
set_option maxRecDepth 20000 in
theorem ggX2_takePerson_X0_seat : GoodIn wsX2_takePerson wsX0_seat := goodIn_r _ [70, 71, 72, 73, 74, 75, 103, 104, 105, 106, 107, 108, 109, 110, 111, 112] (by decide +kernel) (by decide +kernel)
set_option maxRecDepth 20000 in
theorem gX2_takePerson_X0_seat_n69 : GoodIn wsX2_takePerson (wsX0_seat) := ggX2_takePerson_X0_seat
set_option maxRecDepth 20000 in
theorem ggX2_takePerson_X2_take : GoodIn wsX2_takePerson wsX2_take := goodIn_r _ [79, 15, 16, 80, 17, 14, 81, 82, 5, 83, 84, 85, 86, 87, 88, 89, 90, 91, 92, 93, 94, 1, 95, 96, 97, 98, 113, 114, 115, 116, 117, 118] (by decide +kernel) (by decide +kernel)
set_option maxRecDepth 20000 in
theorem gX2_takePerson_X2_take : GoodIn wsX2_takePerson (wsV RX2 31 RX2 yX2_take wsX2_take) := goodIn_app (goodIn_of _ (by decide +kernel)) ggX2_takePerson_X2_take
set_option maxRecDepth 20000 in
theorem ggX2_takePerson_X2_isWord : GoodIn wsX2_takePerson wsX2_isWord := goodIn_r _ [13, 14, 15, 16, 17, 18, 19, 20, 21, 22, 23, 24, 25, 26, 27, 28, 29, 30, 31, 32, 33, 34, 35, 36, 37, 38, 39, 40, 41, 42, 43, 44, 45, 46, 47, 48, 49, 50, 51, 52, 53, 54, 55, 56, 57, 58, 59, 60, 61, 62, 63, 64, 65, 66, 113, 114, 115, 116, 117, 118] (by decide +kernel) (by decide +kernel)
set_option maxRecDepth 20000 in
theorem gX2_takePerson_X2_isWord : GoodIn wsX2_takePerson (wsV RX2 40 RX2 yX2_isWord wsX2_isWord) := goodIn_app (goodIn_of _ (by decide +kernel)) ggX2_takePerson_X2_isWord
set_option maxRecDepth 20000 in
theorem ggX2_takePerson_X2_isNumberTo : GoodIn wsX2_takePerson wsX2_isNumberTo := goodIn_r _ [102, 14, 1, 113, 114, 115, 116, 117, 118] (by decide +kernel) (by decide +kernel)
set_option maxRecDepth 20000 in
theorem gX2_takePerson_X2_isNumberTo : GoodIn wsX2_takePerson (wsV RX2 75 RX2 yX2_isNumberTo wsX2_isNumberTo) := goodIn_app (goodIn_of _ (by decide +kernel)) ggX2_takePerson_X2_isNumberTo
theorem dX2_takePerson_0 : decode cX2_takePerson 0 = .ok (.aload_n 0, 1) := by decide +kernel
theorem dX2_takePerson_1 : decode cX2_takePerson 1 = .ok (.invokevirtual 60, 3) := by decide +kernel
theorem dX2_takePerson_4 : decode cX2_takePerson 4 = .ok (.istore_n 2, 1) := by decide +kernel
theorem dX2_takePerson_5 : decode cX2_takePerson 5 = .ok (.iload_n 2, 1) := by decide +kernel
theorem dX2_takePerson_6 : decode cX2_takePerson 6 = .ok (.ifCond .lt 12, 3) := by decide +kernel
theorem dX2_takePerson_9 : decode cX2_takePerson 9 = .ok (.aload_n 1, 1) := by decide +kernel
theorem dX2_takePerson_10 : decode cX2_takePerson 10 = .ok (.getfield 64, 3) := by decide +kernel
theorem dX2_takePerson_13 : decode cX2_takePerson 13 = .ok (.bipush 8, 2) := by decide +kernel
theorem dX2_takePerson_15 : decode cX2_takePerson 15 = .ok (.if_icmp .lt 5, 3) := by decide +kernel
theorem dX2_takePerson_18 : decode cX2_takePerson 18 = .ok (.iconst 0, 1) := by decide +kernel
theorem dX2_takePerson_19 : decode cX2_takePerson 19 = .ok (.ireturn, 1) := by decide +kernel
theorem dX2_takePerson_20 : decode cX2_takePerson 20 = .ok (.aload_n 1, 1) := by decide +kernel
theorem dX2_takePerson_21 : decode cX2_takePerson 21 = .ok (.iload_n 2, 1) := by decide +kernel
theorem dX2_takePerson_22 : decode cX2_takePerson 22 = .ok (.bipush 60, 2) := by decide +kernel
theorem dX2_takePerson_24 : decode cX2_takePerson 24 = .ok (.invokevirtual 69, 3) := by decide +kernel
theorem dX2_takePerson_27 : decode cX2_takePerson 27 = .ok (.istore_n 3, 1) := by decide +kernel
theorem dX2_takePerson_28 : decode cX2_takePerson 28 = .ok (.aload_n 0, 1) := by decide +kernel
theorem dX2_takePerson_29 : decode cX2_takePerson 29 = .ok (.invokevirtual 31, 3) := by decide +kernel
theorem dX2_takePerson_32 : decode cX2_takePerson 32 = .ok (.aload_n 0, 1) := by decide +kernel
theorem dX2_takePerson_33 : decode cX2_takePerson 33 = .ok (.ldc 73, 2) := by decide +kernel
theorem dX2_takePerson_35 : decode cX2_takePerson 35 = .ok (.invokevirtual 40, 3) := by decide +kernel
theorem dX2_takePerson_38 : decode cX2_takePerson 38 = .ok (.ifCond .eq 32, 3) := by decide +kernel
theorem dX2_takePerson_41 : decode cX2_takePerson 41 = .ok (.aload_n 0, 1) := by decide +kernel
theorem dX2_takePerson_42 : decode cX2_takePerson 42 = .ok (.invokevirtual 31, 3) := by decide +kernel
theorem dX2_takePerson_45 : decode cX2_takePerson 45 = .ok (.aload_n 0, 1) := by decide +kernel
theorem dX2_takePerson_46 : decode cX2_takePerson 46 = .ok (.bipush 99, 2) := by decide +kernel
theorem dX2_takePerson_48 : decode cX2_takePerson 48 = .ok (.invokevirtual 75, 3) := by decide +kernel
theorem dX2_takePerson_51 : decode cX2_takePerson 51 = .ok (.ifCond .ne 5, 3) := by decide +kernel
theorem dX2_takePerson_54 : decode cX2_takePerson 54 = .ok (.iconst 0, 1) := by decide +kernel
theorem dX2_takePerson_55 : decode cX2_takePerson 55 = .ok (.ireturn, 1) := by decide +kernel
theorem dX2_takePerson_56 : decode cX2_takePerson 56 = .ok (.aload_n 1, 1) := by decide +kernel
theorem dX2_takePerson_57 : decode cX2_takePerson 57 = .ok (.getfield 79, 3) := by decide +kernel
theorem dX2_takePerson_60 : decode cX2_takePerson 60 = .ok (.iload_n 3, 1) := by decide +kernel
theorem dX2_takePerson_61 : decode cX2_takePerson 61 = .ok (.aload_n 0, 1) := by decide +kernel
theorem dX2_takePerson_62 : decode cX2_takePerson 62 = .ok (.getfield 28, 3) := by decide +kernel
theorem dX2_takePerson_65 : decode cX2_takePerson 65 = .ok (.iastore, 1) := by decide +kernel
theorem dX2_takePerson_66 : decode cX2_takePerson 66 = .ok (.aload_n 0, 1) := by decide +kernel
theorem dX2_takePerson_67 : decode cX2_takePerson 67 = .ok (.invokevirtual 31, 3) := by decide +kernel
theorem dX2_takePerson_70 : decode cX2_takePerson 70 = .ok (.iconst 1, 1) := by decide +kernel
theorem dX2_takePerson_71 : decode cX2_takePerson 71 = .ok (.ireturn, 1) := by decide +kernel
set_option maxRecDepth 20000 in
theorem ggX2_takeCue_X2_take : GoodIn wsX2_takeCue wsX2_take := goodIn_r _ [6, 7, 8, 9, 10, 11, 12, 13, 5, 14, 15, 16, 17, 18, 19, 20, 21, 22, 23, 24, 25, 1, 26, 27, 28, 29, 94, 95, 96, 97, 98, 99] (by decide +kernel) (by decide +kernel)
set_option maxRecDepth 20000 in
theorem gX2_takeCue_X2_take : GoodIn wsX2_takeCue (wsV RX2 31 RX2 yX2_take wsX2_take) := goodIn_app (goodIn_of _ (by decide +kernel)) ggX2_takeCue_X2_take
set_option maxRecDepth 20000 in
theorem ggX2_takeCue_X2_isNumberTo : GoodIn wsX2_takeCue wsX2_isNumberTo := goodIn_r _ [33, 11, 1, 94, 95, 96, 97, 98, 99] (by decide +kernel) (by decide +kernel)
set_option maxRecDepth 20000 in
theorem gX2_takeCue_X2_isNumberTo : GoodIn wsX2_takeCue (wsV RX2 75 RX2 yX2_isNumberTo wsX2_isNumberTo) := goodIn_app (goodIn_of _ (by decide +kernel)) ggX2_takeCue_X2_isNumberTo
set_option maxRecDepth 20000 in
theorem ggX2_takeCue_X2_cueNamed : GoodIn wsX2_takeCue wsX2_cueNamed := goodIn_r _ [37, 38, 39, 5, 40, 41, 42, 43, 44, 11, 7, 8, 10, 45, 46, 47, 48, 49, 50, 51, 52, 53, 54, 55, 56, 57, 58, 59, 60, 61, 62, 63, 64, 65, 66, 67, 68, 69, 70, 71, 72, 73, 74, 75, 76, 77, 78, 79, 80, 81, 82, 83, 84, 85, 86, 87, 88, 89, 90, 91, 92, 93, 94, 95, 96, 97, 98, 99] (by decide +kernel) (by decide +kernel)
set_option maxRecDepth 20000 in
theorem gX2_takeCue_X2_cueNamed : GoodIn wsX2_takeCue (wsV RX2 83 RX2 yX2_cueNamed wsX2_cueNamed) := goodIn_app (goodIn_of _ (by decide +kernel)) ggX2_takeCue_X2_cueNamed
theorem dX2_takeCue_0 : decode cX2_takeCue 0 = .ok (.aload_n 0, 1) := by decide +kernel
