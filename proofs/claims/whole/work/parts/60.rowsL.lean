/-- words by their places -/
theorem kmem_r {big : List Cond} (ws : List Cond) (ps : List Nat) (hp : ws = ps.filterMap (fun i => big[i]?)) : ∀ w ∈ ws, w ∈ big := fun w hw => by
  rw [hp] at hw
  obtain ⟨i, -, hi⟩ := List.mem_filterMap.mp hw
  exact List.mem_of_getElem? hi
def wsL_append : List Cond := .codeWith yL_append cL_append 4 (some .int) [(0, 9, 12, 13), (0, 9, 15, 15)] :: ([.classLink RL 13 "java/lang/IllegalArgumentException", .classLink RL 15 "java/lang/IllegalStateException", .methodLink RL 7 yX7_append, .instanceMethod yX7_append, .selects RX7 yX7_append yX7_append, .initialized RX7, .code yX7_append cX7_append 2 (some .int), .classLink RX7 40 "java/lang/IllegalArgumentException", .initialized "java/lang/IllegalArgumentException", .classLink RX7 51 "java/lang/IllegalStateException", .initialized "java/lang/IllegalStateException", .fieldLink RX7 10 "PinDeck" "text" "LPinDeck$GameText;", .methodLink RX7 47 yX0_isFull, .instanceMethod yX0_isFull, .selects RX0 yX0_isFull yX0_isFull, .initialized RX0, .code yX0_isFull cX0_isFull 1 (some .boolean), .fieldLink RX0 15 "PinDeck$GameText" "length" "I", .methodLink RX7 56 yX0_add, .instanceMethod yX0_add, .selects RX0 yX0_add yX0_add, .code yX0_add cX0_add 2 (some .int), .fieldLink RX0 9 "PinDeck$GameText" "signs" "[I"] ++ wsX70 ++ wsX00 ++ (vx_atS RX7 44 "java/lang/IllegalArgumentException" ["java/lang/RuntimeException", "java/lang/Exception"]).filter goodWord ++ (vx_atS RX7 55 "java/lang/IllegalStateException" ["java/lang/RuntimeException", "java/lang/Exception"]).filter goodWord)
def wsL_load_r1 : List Cond := [Cond.classLink RL 15 "java/lang/IllegalStateException", Cond.methodLink RL 17 yX7_load, Cond.instanceMethod yX7_load, Cond.selects RX7 yX7_load yX7_load, Cond.initialized RX7, Cond.code yX7_load cX7_load 1 (some .int), Cond.classLink RX7 51 "java/lang/IllegalStateException", Cond.initialized "java/lang/IllegalStateException", Cond.fieldLink RX7 10 "PinDeck" "text" "LPinDeck$GameText;", Cond.fieldLink RX7 19 "PinDeck" "now" "LPinDeck$State;", Cond.fieldLink RX7 29 "PinDeck" "history" "LPinDeck$History;", Cond.fieldLink RX7 36 "PinDeck" "slots" "LPinDeck$Slots;", Cond.methodLink RX7 64 yX0_firstError, Cond.instanceMethod yX0_firstError, Cond.selects RX0 yX0_firstError yX0_firstError, Cond.initialized RX0, Cond.code yX0_firstError cX0_firstError 3 (some .int), Cond.fieldLink RX0 15 "PinDeck$GameText" "length" "I", Cond.methodLink RX0 19 yX0_signAt, Cond.instanceMethod yX0_signAt, Cond.selects RX0 yX0_signAt yX0_signAt, Cond.code yX0_signAt cX0_signAt 2 (some .int), Cond.fieldLink RX0 9 "PinDeck$GameText" "signs" "[I", Cond.methodLink RX0 23 yX0_isFoulAt]
def wsL_load_r2 : List Cond := [Cond.instanceMethod yX0_isFoulAt, Cond.selects RX0 yX0_isFoulAt yX0_isFoulAt, Cond.code yX0_isFoulAt cX0_isFoulAt 2 (some .boolean), Cond.methodLink RX0 31 yX0_isBetween, Cond.static yX0_isBetween, Cond.code yX0_isBetween cX0_isBetween 3 (some .boolean), Cond.methodLink RX0 27 yX0_isAllowed, Cond.static yX0_isAllowed, Cond.code yX0_isAllowed cX0_isAllowed 3 (some .boolean), Cond.methodLink RX0 34 yX0_driftOf, Cond.static yX0_driftOf, Cond.code yX0_driftOf cX0_driftOf 1 (some .int), Cond.methodLink RX7 69 yX6_renew, Cond.instanceMethod yX6_renew, Cond.selects RX6 yX6_renew yX6_renew, Cond.initialized RX6, Cond.code yX6_renew cX6_renew 1 none, Cond.fieldLink RX6 12 "PinDeck$State" "pins" "LPinDeck$Pins;", Cond.fieldLink RX6 21 "PinDeck$State" "sheet" "LPinDeck$Sheet;", Cond.fieldLink RX6 38 "PinDeck$State" "stopped" "I", Cond.fieldLink RX6 42 "PinDeck$State" "dropped" "I", Cond.fieldLink RX6 45 "PinDeck$State" "fouls" "I", Cond.methodLink RX6 32 yX2_newRack, Cond.instanceMethod yX2_newRack]
def wsL_load_r3 : List Cond := [Cond.selects RX2 yX2_newRack yX2_newRack, Cond.initialized RX2, Cond.code yX2_newRack cX2_newRack 2 none, Cond.fieldLink RX2 9 "PinDeck$Pins" "leaning" "[I", Cond.fieldLink RX2 15 "PinDeck$Pins" "shift" "[I", Cond.fieldLink RX2 18 "PinDeck$Pins" "told" "I", Cond.methodLink RX6 35 yX4_clear, Cond.instanceMethod yX4_clear, Cond.selects RX4 yX4_clear yX4_clear, Cond.initialized RX4, Cond.code yX4_clear cX4_clear 1 none, Cond.fieldLink RX4 18 "PinDeck$Sheet" "rolls" "I", Cond.fieldLink RX4 22 "PinDeck$Sheet" "frame" "I", Cond.methodLink RX6 29 yX6_firstSettings, Cond.instanceMethod yX6_firstSettings, Cond.selects RX6 yX6_firstSettings yX6_firstSettings, Cond.code yX6_firstSettings cX6_firstSettings 1 none, Cond.fieldLink RX6 25 "PinDeck$State" "settings" "[I", Cond.methodLink RX7 72 yX1_forget, Cond.instanceMethod yX1_forget, Cond.selects RX1 yX1_forget yX1_forget, Cond.initialized RX1, Cond.code yX1_forget cX1_forget 1 none, Cond.fieldLink RX1 18 "PinDeck$History" "size" "I"]
def wsL_load_r4 : List Cond := [Cond.methodLink RX7 75 yX5_forget, Cond.instanceMethod yX5_forget, Cond.selects RX5 yX5_forget yX5_forget, Cond.initialized RX5, Cond.code yX5_forget cX5_forget 2 none, Cond.fieldLink RX5 17 "PinDeck$Slots" "kept" "[Z", Cond.methodLink RX7 76 yX0_playOn, Cond.instanceMethod yX0_playOn, Cond.selects RX0 yX0_playOn yX0_playOn, Cond.code yX0_playOn cX0_playOn 8 (some .int), Cond.methodLink RX0 37 yX0_numberAt, Cond.instanceMethod yX0_numberAt, Cond.selects RX0 yX0_numberAt yX0_numberAt, Cond.code yX0_numberAt cX0_numberAt 2 (some .int), Cond.methodLink RX0 40 yX6_tryRoll, Cond.instanceMethod yX6_tryRoll, Cond.selects RX6 yX6_tryRoll yX6_tryRoll, Cond.code yX6_tryRoll cX6_tryRoll 6 (some .boolean), Cond.static yX7_isBall, Cond.code yX7_isBall cX7_isBall 2 (some .boolean), Cond.static yX7_isSpeed, Cond.code yX7_isSpeed cX7_isSpeed 1 (some .boolean), Cond.methodLink RX6 90 yX4_isOver, Cond.instanceMethod yX4_isOver]
def wsL_load_r5 : List Cond := [Cond.selects RX4 yX4_isOver yX4_isOver, Cond.code yX4_isOver cX4_isOver 1 (some .boolean), Cond.methodLink RX6 103 yX6_bowl, Cond.instanceMethod yX6_bowl, Cond.selects RX6 yX6_bowl yX6_bowl, Cond.code yX6_bowl cX6_bowl 6 (some .int), Cond.methodLink RX6 67 yX6_stops, Cond.instanceMethod yX6_stops, Cond.selects RX6 yX6_stops yX6_stops, Cond.code yX6_stops cX6_stops 2 (some .boolean), Cond.methodLink RX6 70 yX2_meetBall, Cond.instanceMethod yX2_meetBall, Cond.selects RX2 yX2_meetBall yX2_meetBall, Cond.code yX2_meetBall cX2_meetBall 9 none, Cond.fieldLink RX2 36 "PinDeck$Pins" "wentLeft" "I", Cond.fieldLink RX2 39 "PinDeck$Pins" "wentRight" "I", Cond.methodLink RX2 42 yX2_meet, Cond.instanceMethod yX2_meet, Cond.selects RX2 yX2_meet yX2_meet, Cond.code yX2_meet cX2_meet 5 (some .int), Cond.methodLink RX2 62 Lib.Math.min.name, Cond.static Lib.Math.min.name, Cond.initialized "java/lang/Math", Cond.code Lib.Math.min.name Lib.Math.min.code 2 (some .int)]
def wsL_load_r6 : List Cond := [Cond.methodLink RX2 67 Lib.Math.max.name, Cond.static Lib.Math.max.name, Cond.code Lib.Math.max.name Lib.Math.max.code 2 (some .int), Cond.methodLink RX2 33 yX2_isUp, Cond.instanceMethod yX2_isUp, Cond.selects RX2 yX2_isUp yX2_isUp, Cond.code yX2_isUp cX2_isUp 2 (some .boolean), Cond.methodLink RX2 50 yX2_boardOf, Cond.instanceMethod yX2_boardOf, Cond.selects RX2 yX2_boardOf yX2_boardOf, Cond.code yX2_boardOf cX2_boardOf 2 (some .int), Cond.methodLink RX2 53 yX2_leanMore, Cond.instanceMethod yX2_leanMore, Cond.selects RX2 yX2_leanMore yX2_leanMore, Cond.code yX2_leanMore cX2_leanMore 4 none, Cond.methodLink RX2 57 yJ6_compare_7cf53, Cond.static yJ6_compare_7cf53, Cond.initialized RJ6, Cond.code yJ6_compare_7cf53 cJ6_compare_7cf53 2 (some .int), Cond.methodLink RX2 46 yX2_pushBehind, Cond.instanceMethod yX2_pushBehind, Cond.selects RX2 yX2_pushBehind yX2_pushBehind, Cond.code yX2_pushBehind cX2_pushBehind 3 none, Cond.methodLink RX6 74 yX2_tell]
def wsL_load_r7 : List Cond := [Cond.instanceMethod yX2_tell, Cond.selects RX2 yX2_tell yX2_tell, Cond.code yX2_tell cX2_tell 3 (some .int), Cond.methodLink RX2 70 yX2_moreThan, Cond.instanceMethod yX2_moreThan, Cond.selects RX2 yX2_moreThan yX2_moreThan, Cond.code yX2_moreThan cX2_moreThan 4 (some .int), Cond.methodLink RX6 77 yJ6_bitCount_0f7a4, Cond.static yJ6_bitCount_0f7a4, Cond.code yJ6_bitCount_0f7a4 cJ6_bitCount_0f7a4 1 (some .int), Cond.constant RJ6 265 (1431655765), Cond.constant RJ6 266 (858993459), Cond.constant RJ6 267 (252645135), Cond.methodLink RX6 82 yX4_add, Cond.instanceMethod yX4_add, Cond.selects RX4 yX4_add yX4_add, Cond.code yX4_add cX4_add 4 none, Cond.fieldLink RX4 9 "PinDeck$Sheet" "taken" "[I", Cond.fieldLink RX4 15 "PinDeck$Sheet" "start" "[I", Cond.methodLink RX4 32 yX4_markOf, Cond.instanceMethod yX4_markOf, Cond.selects RX4 yX4_markOf yX4_markOf, Cond.code yX4_markOf cX4_markOf 3 (some .int), Cond.methodLink RX4 25 yX4_startOf]
def wsL_load_r8 : List Cond := [Cond.instanceMethod yX4_startOf, Cond.selects RX4 yX4_startOf yX4_startOf, Cond.code yX4_startOf cX4_startOf 2 (some .int), Cond.methodLink RX4 29 yX4_takenBy, Cond.instanceMethod yX4_takenBy, Cond.selects RX4 yX4_takenBy yX4_takenBy, Cond.code yX4_takenBy cX4_takenBy 2 (some .int), Cond.methodLink RX4 38 yX4_rollsIn, Cond.instanceMethod yX4_rollsIn, Cond.selects RX4 yX4_rollsIn yX4_rollsIn, Cond.code yX4_rollsIn cX4_rollsIn 2 (some .int), Cond.methodLink RX6 86 yX4_wantsNewRack, Cond.instanceMethod yX4_wantsNewRack, Cond.selects RX4 yX4_wantsNewRack yX4_wantsNewRack, Cond.code yX4_wantsNewRack cX4_wantsNewRack 1 (some .boolean), Cond.methodLink RX4 41 yX4_isOver, Cond.methodLink RX6 93 yX2_setAgain, Cond.instanceMethod yX2_setAgain, Cond.selects RX2 yX2_setAgain yX2_setAgain, Cond.code yX2_setAgain cX2_setAgain 4 (some .int), Cond.methodLink RX2 73 yX2_dropSet, Cond.instanceMethod yX2_dropSet, Cond.selects RX2 yX2_dropSet yX2_dropSet, Cond.code yX2_dropSet cX2_dropSet 2 (some .int)]
def wsL_load_r9 : List Cond := [Cond.methodLink RX2 76 yJ6_bitCount_0f7a4]
def wsL_load : List Cond := .codeWith yL_load cL_load 3 (some .int) [(0, 8, 11, 15)] :: ((wsL_load_r1 ++ (wsL_load_r2 ++ (wsL_load_r3 ++ (wsL_load_r4 ++ (wsL_load_r5 ++ (wsL_load_r6 ++ (wsL_load_r7 ++ (wsL_load_r8 ++ wsL_load_r9)))))))) ++ wsX70 ++ wsX00 ++ wsX60 ++ wsX20 ++ wsX40 ++ wsX10 ++ wsX50 ++ (vx_atS RX7 55 "java/lang/IllegalStateException" ["java/lang/RuntimeException", "java/lang/Exception"]).filter goodWord)
def wsL_about_r1 : List Cond := [Cond.classLink RL 13 "java/lang/IllegalArgumentException", Cond.methodLink RL 21 yX7_about, Cond.instanceMethod yX7_about, Cond.selects RX7 yX7_about yX7_about, Cond.initialized RX7, Cond.code yX7_about cX7_about 2 (some .int), Cond.classLink RX7 40 "java/lang/IllegalArgumentException", Cond.initialized "java/lang/IllegalArgumentException", Cond.fieldLink RX7 19 "PinDeck" "now" "LPinDeck$State;", Cond.methodLink RX7 84 yX4_frameNow, Cond.instanceMethod yX4_frameNow, Cond.selects RX4 yX4_frameNow yX4_frameNow, Cond.initialized RX4, Cond.code yX4_frameNow cX4_frameNow 1 (some .int), Cond.fieldLink RX4 22 "PinDeck$Sheet" "frame" "I", Cond.methodLink RX7 89 yX4_rollsIn, Cond.instanceMethod yX4_rollsIn, Cond.selects RX4 yX4_rollsIn yX4_rollsIn, Cond.code yX4_rollsIn cX4_rollsIn 2 (some .int), Cond.methodLink RX4 25 yX4_startOf, Cond.instanceMethod yX4_startOf, Cond.selects RX4 yX4_startOf yX4_startOf, Cond.code yX4_startOf cX4_startOf 2 (some .int), Cond.fieldLink RX4 15 "PinDeck$Sheet" "start" "[I"]
def wsL_about_r2 : List Cond := [Cond.fieldLink RX4 18 "PinDeck$Sheet" "rolls" "I", Cond.methodLink RX7 92 yX4_rolls, Cond.instanceMethod yX4_rolls, Cond.selects RX4 yX4_rolls yX4_rolls, Cond.code yX4_rolls cX4_rolls 1 (some .int), Cond.methodLink RX7 95 yX4_allPoints, Cond.instanceMethod yX4_allPoints, Cond.selects RX4 yX4_allPoints yX4_allPoints, Cond.code yX4_allPoints cX4_allPoints 3 (some .int), Cond.methodLink RX4 35 yX4_pointsOf, Cond.instanceMethod yX4_pointsOf, Cond.selects RX4 yX4_pointsOf yX4_pointsOf, Cond.code yX4_pointsOf cX4_pointsOf 4 (some .int), Cond.methodLink RX4 29 yX4_takenBy, Cond.instanceMethod yX4_takenBy, Cond.selects RX4 yX4_takenBy yX4_takenBy, Cond.code yX4_takenBy cX4_takenBy 2 (some .int), Cond.fieldLink RX4 9 "PinDeck$Sheet" "taken" "[I", Cond.methodLink RX4 32 yX4_markOf, Cond.instanceMethod yX4_markOf, Cond.selects RX4 yX4_markOf yX4_markOf, Cond.code yX4_markOf cX4_markOf 3 (some .int), Cond.methodLink RX7 112 yX2_toldSet, Cond.instanceMethod yX2_toldSet]
def wsL_about_r3 : List Cond := [Cond.selects RX2 yX2_toldSet yX2_toldSet, Cond.initialized RX2, Cond.code yX2_toldSet cX2_toldSet 1 (some .int), Cond.fieldLink RX2 18 "PinDeck$Pins" "told" "I", Cond.methodLink RX7 117 yJ6_bitCount_0f7a4, Cond.static yJ6_bitCount_0f7a4, Cond.initialized RJ6, Cond.code yJ6_bitCount_0f7a4 cJ6_bitCount_0f7a4 1 (some .int), Cond.constant RJ6 265 (1431655765), Cond.constant RJ6 266 (858993459), Cond.constant RJ6 267 (252645135), Cond.methodLink RX7 122 yX2_upSet, Cond.instanceMethod yX2_upSet, Cond.selects RX2 yX2_upSet yX2_upSet, Cond.code yX2_upSet cX2_upSet 1 (some .int), Cond.methodLink RX2 70 yX2_moreThan, Cond.instanceMethod yX2_moreThan, Cond.selects RX2 yX2_moreThan yX2_moreThan, Cond.code yX2_moreThan cX2_moreThan 4 (some .int), Cond.fieldLink RX2 9 "PinDeck$Pins" "leaning" "[I", Cond.methodLink RX7 125 yX4_isOver, Cond.instanceMethod yX4_isOver, Cond.selects RX4 yX4_isOver yX4_isOver, Cond.code yX4_isOver cX4_isOver 1 (some .boolean)]
def wsL_about : List Cond := .codeWith yL_about cL_about 4 (some .int) [(0, 9, 12, 13)] :: ((wsL_about_r1 ++ (wsL_about_r2 ++ wsL_about_r3)) ++ wsX70 ++ wsX60 ++ wsX40 ++ wsX20 ++ (vx_atS RX7 44 "java/lang/IllegalArgumentException" ["java/lang/RuntimeException", "java/lang/Exception"]).filter goodWord)
def wsL_pin_r1 : List Cond := [Cond.classLink RL 28 "java/lang/IndexOutOfBoundsException", Cond.classLink RL 13 "java/lang/IllegalArgumentException", Cond.methodLink RL 24 yX7_pin, Cond.instanceMethod yX7_pin, Cond.selects RX7 yX7_pin yX7_pin, Cond.initialized RX7, Cond.code yX7_pin cX7_pin 3 (some .int), Cond.classLink RX7 134 "java/lang/IndexOutOfBoundsException", Cond.initialized "java/lang/IndexOutOfBoundsException", Cond.classLink RX7 40 "java/lang/IllegalArgumentException", Cond.initialized "java/lang/IllegalArgumentException", Cond.fieldLink RX7 19 "PinDeck" "now" "LPinDeck$State;", Cond.methodLink RX7 130 yX7_isPin, Cond.static yX7_isPin, Cond.code yX7_isPin cX7_isPin 1 (some .boolean), Cond.methodLink RX7 139 yX2_leaningOf, Cond.instanceMethod yX2_leaningOf, Cond.selects RX2 yX2_leaningOf yX2_leaningOf, Cond.initialized RX2, Cond.code yX2_leaningOf cX2_leaningOf 2 (some .int), Cond.fieldLink RX2 9 "PinDeck$Pins" "leaning" "[I", Cond.methodLink RX7 142 yX2_shiftOf, Cond.instanceMethod yX2_shiftOf, Cond.selects RX2 yX2_shiftOf yX2_shiftOf]
def wsL_pin_r2 : List Cond := [Cond.code yX2_shiftOf cX2_shiftOf 2 (some .int), Cond.fieldLink RX2 15 "PinDeck$Pins" "shift" "[I", Cond.methodLink RX7 145 yX2_boardOf, Cond.instanceMethod yX2_boardOf, Cond.selects RX2 yX2_boardOf yX2_boardOf, Cond.code yX2_boardOf cX2_boardOf 2 (some .int), Cond.methodLink RX7 112 yX2_toldSet, Cond.instanceMethod yX2_toldSet, Cond.selects RX2 yX2_toldSet yX2_toldSet, Cond.code yX2_toldSet cX2_toldSet 1 (some .int), Cond.fieldLink RX2 18 "PinDeck$Pins" "told" "I"]
def wsL_pin : List Cond := .codeWith yL_pin cL_pin 5 (some .int) [(0, 10, 13, 28), (0, 10, 17, 13)] :: ((wsL_pin_r1 ++ wsL_pin_r2) ++ wsX70 ++ wsX60 ++ wsX20 ++ (vx_atS RX7 138 "java/lang/IndexOutOfBoundsException" ["java/lang/RuntimeException", "java/lang/Exception"]).filter goodWord ++ (vx_atS RX7 44 "java/lang/IllegalArgumentException" ["java/lang/RuntimeException", "java/lang/Exception"]).filter goodWord)
def wsL_frame_r1 : List Cond := [Cond.classLink RL 28 "java/lang/IndexOutOfBoundsException", Cond.classLink RL 13 "java/lang/IllegalArgumentException", Cond.methodLink RL 30 yX7_frame, Cond.instanceMethod yX7_frame, Cond.selects RX7 yX7_frame yX7_frame, Cond.initialized RX7, Cond.code yX7_frame cX7_frame 3 (some .int), Cond.classLink RX7 134 "java/lang/IndexOutOfBoundsException", Cond.initialized "java/lang/IndexOutOfBoundsException", Cond.classLink RX7 40 "java/lang/IllegalArgumentException", Cond.initialized "java/lang/IllegalArgumentException", Cond.fieldLink RX7 19 "PinDeck" "now" "LPinDeck$State;", Cond.methodLink RX7 150 yX7_isFrame, Cond.static yX7_isFrame, Cond.code yX7_isFrame cX7_isFrame 1 (some .boolean), Cond.methodLink RX7 89 yX4_rollsIn, Cond.instanceMethod yX4_rollsIn, Cond.selects RX4 yX4_rollsIn yX4_rollsIn, Cond.initialized RX4, Cond.code yX4_rollsIn cX4_rollsIn 2 (some .int), Cond.methodLink RX4 25 yX4_startOf, Cond.instanceMethod yX4_startOf, Cond.selects RX4 yX4_startOf yX4_startOf, Cond.code yX4_startOf cX4_startOf 2 (some .int)]
def wsL_frame_r2 : List Cond := [Cond.fieldLink RX4 22 "PinDeck$Sheet" "frame" "I", Cond.fieldLink RX4 15 "PinDeck$Sheet" "start" "[I", Cond.fieldLink RX4 18 "PinDeck$Sheet" "rolls" "I", Cond.methodLink RX7 155 yX4_pointsOf, Cond.instanceMethod yX4_pointsOf, Cond.selects RX4 yX4_pointsOf yX4_pointsOf, Cond.code yX4_pointsOf cX4_pointsOf 4 (some .int), Cond.methodLink RX4 29 yX4_takenBy, Cond.instanceMethod yX4_takenBy, Cond.selects RX4 yX4_takenBy yX4_takenBy, Cond.code yX4_takenBy cX4_takenBy 2 (some .int), Cond.fieldLink RX4 9 "PinDeck$Sheet" "taken" "[I", Cond.methodLink RX4 32 yX4_markOf, Cond.instanceMethod yX4_markOf, Cond.selects RX4 yX4_markOf yX4_markOf, Cond.code yX4_markOf cX4_markOf 3 (some .int), Cond.methodLink RX7 158 yX4_markOf]
def wsL_frame : List Cond := .codeWith yL_frame cL_frame 5 (some .int) [(0, 10, 13, 28), (0, 10, 17, 13)] :: ((wsL_frame_r1 ++ wsL_frame_r2) ++ wsX70 ++ wsX60 ++ wsX40 ++ (vx_atS RX7 138 "java/lang/IndexOutOfBoundsException" ["java/lang/RuntimeException", "java/lang/Exception"]).filter goodWord ++ (vx_atS RX7 44 "java/lang/IllegalArgumentException" ["java/lang/RuntimeException", "java/lang/Exception"]).filter goodWord)
def wsL_taken : List Cond := .codeWith yL_taken cL_taken 4 (some .int) [(0, 9, 12, 28)] :: ([.classLink RL 28 "java/lang/IndexOutOfBoundsException", .methodLink RL 33 yX7_taken, .instanceMethod yX7_taken, .selects RX7 yX7_taken yX7_taken, .initialized RX7, .code yX7_taken cX7_taken 2 (some .int), .classLink RX7 134 "java/lang/IndexOutOfBoundsException", .initialized "java/lang/IndexOutOfBoundsException", .fieldLink RX7 19 "PinDeck" "now" "LPinDeck$State;", .methodLink RX7 92 yX4_rolls, .instanceMethod yX4_rolls, .selects RX4 yX4_rolls yX4_rolls, .initialized RX4, .code yX4_rolls cX4_rolls 1 (some .int), .fieldLink RX4 18 "PinDeck$Sheet" "rolls" "I", .methodLink RX7 165 yX4_takenBy, .instanceMethod yX4_takenBy, .selects RX4 yX4_takenBy yX4_takenBy, .code yX4_takenBy cX4_takenBy 2 (some .int), .fieldLink RX4 9 "PinDeck$Sheet" "taken" "[I"] ++ wsX70 ++ wsX60 ++ wsX40 ++ (vx_atS RX7 138 "java/lang/IndexOutOfBoundsException" ["java/lang/RuntimeException", "java/lang/Exception"]).filter goodWord)
def wsL_setting : List Cond := .codeWith yL_setting cL_setting 4 (some .int) [(0, 9, 12, 13)] :: ([.classLink RL 13 "java/lang/IllegalArgumentException", .methodLink RL 36 yX7_setting, .instanceMethod yX7_setting, .selects RX7 yX7_setting yX7_setting, .initialized RX7, .code yX7_setting cX7_setting 2 (some .int), .classLink RX7 40 "java/lang/IllegalArgumentException", .initialized "java/lang/IllegalArgumentException", .fieldLink RX7 19 "PinDeck" "now" "LPinDeck$State;", .methodLink RX7 168 yX7_isSetting, .static yX7_isSetting, .code yX7_isSetting cX7_isSetting 1 (some .boolean), .methodLink RX7 173 yX6_settingAt, .instanceMethod yX6_settingAt, .selects RX6 yX6_settingAt yX6_settingAt, .initialized RX6, .code yX6_settingAt cX6_settingAt 2 (some .int), .fieldLink RX6 25 "PinDeck$State" "settings" "[I"] ++ wsX70 ++ wsX60 ++ (vx_atS RX7 44 "java/lang/IllegalArgumentException" ["java/lang/RuntimeException", "java/lang/Exception"]).filter goodWord)
def wsL_roll_r1 : List Cond := [Cond.classLink RL 13 "java/lang/IllegalArgumentException", Cond.classLink RL 15 "java/lang/IllegalStateException", Cond.methodLink RL 39 yX7_roll, Cond.instanceMethod yX7_roll, Cond.selects RX7 yX7_roll yX7_roll, Cond.initialized RX7, Cond.code yX7_roll cX7_roll 5 (some .int), Cond.classLink RX7 40 "java/lang/IllegalArgumentException", Cond.initialized "java/lang/IllegalArgumentException", Cond.classLink RX7 51 "java/lang/IllegalStateException", Cond.initialized "java/lang/IllegalStateException", Cond.fieldLink RX7 19 "PinDeck" "now" "LPinDeck$State;", Cond.fieldLink RX7 29 "PinDeck" "history" "LPinDeck$History;", Cond.methodLink RX7 183 yX7_isBall, Cond.static yX7_isBall, Cond.code yX7_isBall cX7_isBall 2 (some .boolean), Cond.methodLink RX7 187 yX7_isSpeed, Cond.static yX7_isSpeed, Cond.code yX7_isSpeed cX7_isSpeed 1 (some .boolean), Cond.methodLink RX7 125 yX4_isOver, Cond.instanceMethod yX4_isOver, Cond.selects RX4 yX4_isOver yX4_isOver, Cond.initialized RX4, Cond.code yX4_isOver cX4_isOver 1 (some .boolean)]
def wsL_roll_r2 : List Cond := [Cond.fieldLink RX4 22 "PinDeck$Sheet" "frame" "I", Cond.methodLink RX7 176 yX1_remember, Cond.instanceMethod yX1_remember, Cond.selects RX1 yX1_remember yX1_remember, Cond.initialized RX1, Cond.code yX1_remember cX1_remember 2 none, Cond.fieldLink RX1 11 "PinDeck$History" "states" "[LPinDeck$State;", Cond.fieldLink RX1 22 "PinDeck$History" "next" "I", Cond.fieldLink RX1 18 "PinDeck$History" "size" "I", Cond.methodLink RX1 35 Lib.Math.min.name, Cond.static Lib.Math.min.name, Cond.initialized "java/lang/Math", Cond.code Lib.Math.min.name Lib.Math.min.code 2 (some .int), Cond.methodLink RX1 25 yJ9_floorMod_7cf53, Cond.static yJ9_floorMod_7cf53, Cond.initialized RJ9, Cond.code yJ9_floorMod_7cf53 cJ9_floorMod_7cf53 3 (some .int), Cond.methodLink RX1 31 yX6_copyFrom, Cond.instanceMethod yX6_copyFrom, Cond.selects RX6 yX6_copyFrom yX6_copyFrom, Cond.initialized RX6, Cond.code yX6_copyFrom cX6_copyFrom 3 none, Cond.fieldLink RX6 12 "PinDeck$State" "pins" "LPinDeck$Pins;", Cond.fieldLink RX6 21 "PinDeck$State" "sheet" "LPinDeck$Sheet;"]
def wsL_roll_r3 : List Cond := [Cond.fieldLink RX6 25 "PinDeck$State" "settings" "[I", Cond.fieldLink RX6 38 "PinDeck$State" "stopped" "I", Cond.fieldLink RX6 42 "PinDeck$State" "dropped" "I", Cond.fieldLink RX6 45 "PinDeck$State" "fouls" "I", Cond.methodLink RX6 48 yX2_copyFrom, Cond.instanceMethod yX2_copyFrom, Cond.selects RX2 yX2_copyFrom yX2_copyFrom, Cond.initialized RX2, Cond.code yX2_copyFrom cX2_copyFrom 3 none, Cond.fieldLink RX2 9 "PinDeck$Pins" "leaning" "[I", Cond.fieldLink RX2 15 "PinDeck$Pins" "shift" "[I", Cond.fieldLink RX2 18 "PinDeck$Pins" "told" "I", Cond.methodLink RX6 52 yX4_copyFrom, Cond.instanceMethod yX4_copyFrom, Cond.selects RX4 yX4_copyFrom yX4_copyFrom, Cond.code yX4_copyFrom cX4_copyFrom 3 none, Cond.fieldLink RX4 9 "PinDeck$Sheet" "taken" "[I", Cond.fieldLink RX4 15 "PinDeck$Sheet" "start" "[I", Cond.fieldLink RX4 18 "PinDeck$Sheet" "rolls" "I", Cond.methodLink RX7 194 yX6_bowl, Cond.instanceMethod yX6_bowl, Cond.selects RX6 yX6_bowl yX6_bowl, Cond.code yX6_bowl cX6_bowl 6 (some .int), Cond.methodLink RX6 67 yX6_stops]
def wsL_roll_r4 : List Cond := [Cond.instanceMethod yX6_stops, Cond.selects RX6 yX6_stops yX6_stops, Cond.code yX6_stops cX6_stops 2 (some .boolean), Cond.methodLink RX6 70 yX2_meetBall, Cond.instanceMethod yX2_meetBall, Cond.selects RX2 yX2_meetBall yX2_meetBall, Cond.code yX2_meetBall cX2_meetBall 9 none, Cond.fieldLink RX2 36 "PinDeck$Pins" "wentLeft" "I", Cond.fieldLink RX2 39 "PinDeck$Pins" "wentRight" "I", Cond.methodLink RX2 42 yX2_meet, Cond.instanceMethod yX2_meet, Cond.selects RX2 yX2_meet yX2_meet, Cond.code yX2_meet cX2_meet 5 (some .int), Cond.methodLink RX2 62 Lib.Math.min.name, Cond.methodLink RX2 67 Lib.Math.max.name, Cond.static Lib.Math.max.name, Cond.code Lib.Math.max.name Lib.Math.max.code 2 (some .int), Cond.methodLink RX2 33 yX2_isUp, Cond.instanceMethod yX2_isUp, Cond.selects RX2 yX2_isUp yX2_isUp, Cond.code yX2_isUp cX2_isUp 2 (some .boolean), Cond.methodLink RX2 50 yX2_boardOf, Cond.instanceMethod yX2_boardOf, Cond.selects RX2 yX2_boardOf yX2_boardOf]
def wsL_roll_r5 : List Cond := [Cond.code yX2_boardOf cX2_boardOf 2 (some .int), Cond.methodLink RX2 53 yX2_leanMore, Cond.instanceMethod yX2_leanMore, Cond.selects RX2 yX2_leanMore yX2_leanMore, Cond.code yX2_leanMore cX2_leanMore 4 none, Cond.methodLink RX2 57 yJ6_compare_7cf53, Cond.static yJ6_compare_7cf53, Cond.initialized RJ6, Cond.code yJ6_compare_7cf53 cJ6_compare_7cf53 2 (some .int), Cond.methodLink RX2 46 yX2_pushBehind, Cond.instanceMethod yX2_pushBehind, Cond.selects RX2 yX2_pushBehind yX2_pushBehind, Cond.code yX2_pushBehind cX2_pushBehind 3 none, Cond.methodLink RX6 74 yX2_tell, Cond.instanceMethod yX2_tell, Cond.selects RX2 yX2_tell yX2_tell, Cond.code yX2_tell cX2_tell 3 (some .int), Cond.methodLink RX2 70 yX2_moreThan, Cond.instanceMethod yX2_moreThan, Cond.selects RX2 yX2_moreThan yX2_moreThan, Cond.code yX2_moreThan cX2_moreThan 4 (some .int), Cond.methodLink RX6 77 yJ6_bitCount_0f7a4, Cond.static yJ6_bitCount_0f7a4, Cond.code yJ6_bitCount_0f7a4 cJ6_bitCount_0f7a4 1 (some .int)]
def wsL_roll_r6 : List Cond := [Cond.constant RJ6 265 (1431655765), Cond.constant RJ6 266 (858993459), Cond.constant RJ6 267 (252645135), Cond.methodLink RX6 82 yX4_add, Cond.instanceMethod yX4_add, Cond.selects RX4 yX4_add yX4_add, Cond.code yX4_add cX4_add 4 none, Cond.methodLink RX4 32 yX4_markOf, Cond.instanceMethod yX4_markOf, Cond.selects RX4 yX4_markOf yX4_markOf, Cond.code yX4_markOf cX4_markOf 3 (some .int), Cond.methodLink RX4 25 yX4_startOf, Cond.instanceMethod yX4_startOf, Cond.selects RX4 yX4_startOf yX4_startOf, Cond.code yX4_startOf cX4_startOf 2 (some .int), Cond.methodLink RX4 29 yX4_takenBy, Cond.instanceMethod yX4_takenBy, Cond.selects RX4 yX4_takenBy yX4_takenBy, Cond.code yX4_takenBy cX4_takenBy 2 (some .int), Cond.methodLink RX4 38 yX4_rollsIn, Cond.instanceMethod yX4_rollsIn, Cond.selects RX4 yX4_rollsIn yX4_rollsIn, Cond.code yX4_rollsIn cX4_rollsIn 2 (some .int), Cond.methodLink RX6 86 yX4_wantsNewRack]
def wsL_roll_r7 : List Cond := [Cond.instanceMethod yX4_wantsNewRack, Cond.selects RX4 yX4_wantsNewRack yX4_wantsNewRack, Cond.code yX4_wantsNewRack cX4_wantsNewRack 1 (some .boolean), Cond.methodLink RX4 41 yX4_isOver, Cond.methodLink RX6 32 yX2_newRack, Cond.instanceMethod yX2_newRack, Cond.selects RX2 yX2_newRack yX2_newRack, Cond.code yX2_newRack cX2_newRack 2 none, Cond.methodLink RX6 90 yX4_isOver, Cond.methodLink RX6 93 yX2_setAgain, Cond.instanceMethod yX2_setAgain, Cond.selects RX2 yX2_setAgain yX2_setAgain, Cond.code yX2_setAgain cX2_setAgain 4 (some .int), Cond.methodLink RX2 73 yX2_dropSet, Cond.instanceMethod yX2_dropSet, Cond.selects RX2 yX2_dropSet yX2_dropSet, Cond.code yX2_dropSet cX2_dropSet 2 (some .int), Cond.methodLink RX2 76 yJ6_bitCount_0f7a4]
def wsL_roll : List Cond := .codeWith yL_roll cL_roll 7 (some .int) [(0, 14, 17, 13), (0, 14, 21, 15)] :: ((wsL_roll_r1 ++ (wsL_roll_r2 ++ (wsL_roll_r3 ++ (wsL_roll_r4 ++ (wsL_roll_r5 ++ (wsL_roll_r6 ++ wsL_roll_r7)))))) ++ wsX70 ++ wsX60 ++ wsX40 ++ wsX10 ++ wsX20 ++ (vx_atS RX7 44 "java/lang/IllegalArgumentException" ["java/lang/RuntimeException", "java/lang/Exception"]).filter goodWord ++ (vx_atS RX7 55 "java/lang/IllegalStateException" ["java/lang/RuntimeException", "java/lang/Exception"]).filter goodWord)
def wsL_touch_r1 : List Cond := [Cond.classLink RL 28 "java/lang/IndexOutOfBoundsException", Cond.classLink RL 13 "java/lang/IllegalArgumentException", Cond.classLink RL 15 "java/lang/IllegalStateException", Cond.methodLink RL 43 yX7_touch, Cond.instanceMethod yX7_touch, Cond.selects RX7 yX7_touch yX7_touch, Cond.initialized RX7, Cond.code yX7_touch cX7_touch 3 (some .int), Cond.classLink RX7 134 "java/lang/IndexOutOfBoundsException", Cond.initialized "java/lang/IndexOutOfBoundsException", Cond.classLink RX7 40 "java/lang/IllegalArgumentException", Cond.initialized "java/lang/IllegalArgumentException", Cond.classLink RX7 51 "java/lang/IllegalStateException", Cond.initialized "java/lang/IllegalStateException", Cond.fieldLink RX7 19 "PinDeck" "now" "LPinDeck$State;", Cond.fieldLink RX7 29 "PinDeck" "history" "LPinDeck$History;", Cond.methodLink RX7 130 yX7_isPin, Cond.static yX7_isPin, Cond.code yX7_isPin cX7_isPin 1 (some .boolean), Cond.methodLink RX7 198 yX7_isLeaning, Cond.static yX7_isLeaning, Cond.code yX7_isLeaning cX7_isLeaning 1 (some .boolean), Cond.methodLink RX7 203 yX2_isUp, Cond.instanceMethod yX2_isUp]
def wsL_touch_r2 : List Cond := [Cond.selects RX2 yX2_isUp yX2_isUp, Cond.initialized RX2, Cond.code yX2_isUp cX2_isUp 2 (some .boolean), Cond.fieldLink RX2 9 "PinDeck$Pins" "leaning" "[I", Cond.methodLink RX7 176 yX1_remember, Cond.instanceMethod yX1_remember, Cond.selects RX1 yX1_remember yX1_remember, Cond.initialized RX1, Cond.code yX1_remember cX1_remember 2 none, Cond.fieldLink RX1 11 "PinDeck$History" "states" "[LPinDeck$State;", Cond.fieldLink RX1 22 "PinDeck$History" "next" "I", Cond.fieldLink RX1 18 "PinDeck$History" "size" "I", Cond.methodLink RX1 35 Lib.Math.min.name, Cond.static Lib.Math.min.name, Cond.initialized "java/lang/Math", Cond.code Lib.Math.min.name Lib.Math.min.code 2 (some .int), Cond.methodLink RX1 25 yJ9_floorMod_7cf53, Cond.static yJ9_floorMod_7cf53, Cond.initialized RJ9, Cond.code yJ9_floorMod_7cf53 cJ9_floorMod_7cf53 3 (some .int), Cond.methodLink RX1 31 yX6_copyFrom, Cond.instanceMethod yX6_copyFrom, Cond.selects RX6 yX6_copyFrom yX6_copyFrom, Cond.initialized RX6]
def wsL_touch_r3 : List Cond := [Cond.code yX6_copyFrom cX6_copyFrom 3 none, Cond.fieldLink RX6 12 "PinDeck$State" "pins" "LPinDeck$Pins;", Cond.fieldLink RX6 21 "PinDeck$State" "sheet" "LPinDeck$Sheet;", Cond.fieldLink RX6 25 "PinDeck$State" "settings" "[I", Cond.fieldLink RX6 38 "PinDeck$State" "stopped" "I", Cond.fieldLink RX6 42 "PinDeck$State" "dropped" "I", Cond.fieldLink RX6 45 "PinDeck$State" "fouls" "I", Cond.methodLink RX6 48 yX2_copyFrom, Cond.instanceMethod yX2_copyFrom, Cond.selects RX2 yX2_copyFrom yX2_copyFrom, Cond.code yX2_copyFrom cX2_copyFrom 3 none, Cond.fieldLink RX2 15 "PinDeck$Pins" "shift" "[I", Cond.fieldLink RX2 18 "PinDeck$Pins" "told" "I", Cond.methodLink RX6 52 yX4_copyFrom, Cond.instanceMethod yX4_copyFrom, Cond.selects RX4 yX4_copyFrom yX4_copyFrom, Cond.initialized RX4, Cond.code yX4_copyFrom cX4_copyFrom 3 none, Cond.fieldLink RX4 9 "PinDeck$Sheet" "taken" "[I", Cond.fieldLink RX4 15 "PinDeck$Sheet" "start" "[I", Cond.fieldLink RX4 18 "PinDeck$Sheet" "rolls" "I", Cond.fieldLink RX4 22 "PinDeck$Sheet" "frame" "I", Cond.methodLink RX7 208 yX2_makeLean, Cond.instanceMethod yX2_makeLean]
def wsL_touch_r4 : List Cond := [Cond.selects RX2 yX2_makeLean yX2_makeLean, Cond.code yX2_makeLean cX2_makeLean 4 (some .int), Cond.methodLink RX2 29 yX2_leaningOf, Cond.instanceMethod yX2_leaningOf, Cond.selects RX2 yX2_leaningOf yX2_leaningOf, Cond.code yX2_leaningOf cX2_leaningOf 2 (some .int), Cond.methodLink RX2 33 yX2_isUp]
def wsL_touch : List Cond := .codeWith yL_touch cL_touch 5 (some .int) [(0, 10, 13, 28), (0, 10, 17, 13), (0, 10, 21, 15)] :: ((wsL_touch_r1 ++ (wsL_touch_r2 ++ (wsL_touch_r3 ++ wsL_touch_r4))) ++ wsX70 ++ wsX60 ++ wsX20 ++ wsX10 ++ wsX40 ++ (vx_atS RX7 138 "java/lang/IndexOutOfBoundsException" ["java/lang/RuntimeException", "java/lang/Exception"]).filter goodWord ++ (vx_atS RX7 44 "java/lang/IllegalArgumentException" ["java/lang/RuntimeException", "java/lang/Exception"]).filter goodWord ++ (vx_atS RX7 55 "java/lang/IllegalStateException" ["java/lang/RuntimeException", "java/lang/Exception"]).filter goodWord)
def wsL_set_r1 : List Cond := [Cond.classLink RL 13 "java/lang/IllegalArgumentException", Cond.methodLink RL 46 yX7_set, Cond.instanceMethod yX7_set, Cond.selects RX7 yX7_set yX7_set, Cond.initialized RX7, Cond.code yX7_set cX7_set 3 (some .int), Cond.classLink RX7 40 "java/lang/IllegalArgumentException", Cond.initialized "java/lang/IllegalArgumentException", Cond.fieldLink RX7 29 "PinDeck" "history" "LPinDeck$History;", Cond.fieldLink RX7 19 "PinDeck" "now" "LPinDeck$State;", Cond.methodLink RX7 168 yX7_isSetting, Cond.static yX7_isSetting, Cond.code yX7_isSetting cX7_isSetting 1 (some .boolean), Cond.methodLink RX7 212 yX7_isValue, Cond.static yX7_isValue, Cond.code yX7_isValue cX7_isValue 2 (some .boolean), Cond.methodLink RX7 198 yX7_isLeaning, Cond.static yX7_isLeaning, Cond.code yX7_isLeaning cX7_isLeaning 1 (some .boolean), Cond.methodLink RX7 176 yX1_remember, Cond.instanceMethod yX1_remember, Cond.selects RX1 yX1_remember yX1_remember, Cond.initialized RX1, Cond.code yX1_remember cX1_remember 2 none]
def wsL_set_r2 : List Cond := [Cond.fieldLink RX1 11 "PinDeck$History" "states" "[LPinDeck$State;", Cond.fieldLink RX1 22 "PinDeck$History" "next" "I", Cond.fieldLink RX1 18 "PinDeck$History" "size" "I", Cond.methodLink RX1 35 Lib.Math.min.name, Cond.static Lib.Math.min.name, Cond.initialized "java/lang/Math", Cond.code Lib.Math.min.name Lib.Math.min.code 2 (some .int), Cond.methodLink RX1 25 yJ9_floorMod_7cf53, Cond.static yJ9_floorMod_7cf53, Cond.initialized RJ9, Cond.code yJ9_floorMod_7cf53 cJ9_floorMod_7cf53 3 (some .int), Cond.methodLink RX1 31 yX6_copyFrom, Cond.instanceMethod yX6_copyFrom, Cond.selects RX6 yX6_copyFrom yX6_copyFrom, Cond.initialized RX6, Cond.code yX6_copyFrom cX6_copyFrom 3 none, Cond.fieldLink RX6 12 "PinDeck$State" "pins" "LPinDeck$Pins;", Cond.fieldLink RX6 21 "PinDeck$State" "sheet" "LPinDeck$Sheet;", Cond.fieldLink RX6 25 "PinDeck$State" "settings" "[I", Cond.fieldLink RX6 38 "PinDeck$State" "stopped" "I", Cond.fieldLink RX6 42 "PinDeck$State" "dropped" "I", Cond.fieldLink RX6 45 "PinDeck$State" "fouls" "I", Cond.methodLink RX6 48 yX2_copyFrom, Cond.instanceMethod yX2_copyFrom]
def wsL_set_r3 : List Cond := [Cond.selects RX2 yX2_copyFrom yX2_copyFrom, Cond.initialized RX2, Cond.code yX2_copyFrom cX2_copyFrom 3 none, Cond.fieldLink RX2 9 "PinDeck$Pins" "leaning" "[I", Cond.fieldLink RX2 15 "PinDeck$Pins" "shift" "[I", Cond.fieldLink RX2 18 "PinDeck$Pins" "told" "I", Cond.methodLink RX6 52 yX4_copyFrom, Cond.instanceMethod yX4_copyFrom, Cond.selects RX4 yX4_copyFrom yX4_copyFrom, Cond.initialized RX4, Cond.code yX4_copyFrom cX4_copyFrom 3 none, Cond.fieldLink RX4 9 "PinDeck$Sheet" "taken" "[I", Cond.fieldLink RX4 15 "PinDeck$Sheet" "start" "[I", Cond.fieldLink RX4 18 "PinDeck$Sheet" "rolls" "I", Cond.fieldLink RX4 22 "PinDeck$Sheet" "frame" "I", Cond.methodLink RX7 217 yX6_change, Cond.instanceMethod yX6_change, Cond.selects RX6 yX6_change yX6_change, Cond.code yX6_change cX6_change 4 (some .int), Cond.methodLink RX6 59 yX6_settingAt, Cond.instanceMethod yX6_settingAt, Cond.selects RX6 yX6_settingAt yX6_settingAt, Cond.code yX6_settingAt cX6_settingAt 2 (some .int)]
def wsL_set : List Cond := .codeWith yL_set cL_set 5 (some .int) [(0, 10, 13, 13)] :: ((wsL_set_r1 ++ (wsL_set_r2 ++ wsL_set_r3)) ++ wsX70 ++ wsX10 ++ wsX60 ++ wsX20 ++ wsX40 ++ (vx_atS RX7 44 "java/lang/IllegalArgumentException" ["java/lang/RuntimeException", "java/lang/Exception"]).filter goodWord)
def wsL_undo_r1 : List Cond := [Cond.classLink RL 15 "java/lang/IllegalStateException", Cond.methodLink RL 49 yX7_undo, Cond.instanceMethod yX7_undo, Cond.selects RX7 yX7_undo yX7_undo, Cond.initialized RX7, Cond.code yX7_undo cX7_undo 1 (some .int), Cond.classLink RX7 51 "java/lang/IllegalStateException", Cond.initialized "java/lang/IllegalStateException", Cond.fieldLink RX7 29 "PinDeck" "history" "LPinDeck$History;", Cond.fieldLink RX7 19 "PinDeck" "now" "LPinDeck$State;", Cond.methodLink RX7 220 yX1_isEmpty, Cond.instanceMethod yX1_isEmpty, Cond.selects RX1 yX1_isEmpty yX1_isEmpty, Cond.initialized RX1, Cond.code yX1_isEmpty cX1_isEmpty 1 (some .boolean), Cond.fieldLink RX1 18 "PinDeck$History" "size" "I", Cond.methodLink RX7 225 yX1_takeBack, Cond.instanceMethod yX1_takeBack, Cond.selects RX1 yX1_takeBack yX1_takeBack, Cond.code yX1_takeBack cX1_takeBack 2 (some .int), Cond.fieldLink RX1 22 "PinDeck$History" "next" "I", Cond.methodLink RX1 38 Lib.Math.max.name, Cond.static Lib.Math.max.name, Cond.initialized "java/lang/Math"]
def wsL_undo_r2 : List Cond := [Cond.code Lib.Math.max.name Lib.Math.max.code 2 (some .int), Cond.fieldLink RX1 11 "PinDeck$History" "states" "[LPinDeck$State;", Cond.methodLink RX1 25 yJ9_floorMod_7cf53, Cond.static yJ9_floorMod_7cf53, Cond.initialized RJ9, Cond.code yJ9_floorMod_7cf53 cJ9_floorMod_7cf53 3 (some .int), Cond.methodLink RX1 31 yX6_copyFrom, Cond.instanceMethod yX6_copyFrom, Cond.selects RX6 yX6_copyFrom yX6_copyFrom, Cond.initialized RX6, Cond.code yX6_copyFrom cX6_copyFrom 3 none, Cond.fieldLink RX6 12 "PinDeck$State" "pins" "LPinDeck$Pins;", Cond.fieldLink RX6 21 "PinDeck$State" "sheet" "LPinDeck$Sheet;", Cond.fieldLink RX6 25 "PinDeck$State" "settings" "[I", Cond.fieldLink RX6 38 "PinDeck$State" "stopped" "I", Cond.fieldLink RX6 42 "PinDeck$State" "dropped" "I", Cond.fieldLink RX6 45 "PinDeck$State" "fouls" "I", Cond.methodLink RX6 48 yX2_copyFrom, Cond.instanceMethod yX2_copyFrom, Cond.selects RX2 yX2_copyFrom yX2_copyFrom, Cond.initialized RX2, Cond.code yX2_copyFrom cX2_copyFrom 3 none, Cond.fieldLink RX2 9 "PinDeck$Pins" "leaning" "[I", Cond.fieldLink RX2 15 "PinDeck$Pins" "shift" "[I"]
def wsL_undo_r3 : List Cond := [Cond.fieldLink RX2 18 "PinDeck$Pins" "told" "I", Cond.methodLink RX6 52 yX4_copyFrom, Cond.instanceMethod yX4_copyFrom, Cond.selects RX4 yX4_copyFrom yX4_copyFrom, Cond.initialized RX4, Cond.code yX4_copyFrom cX4_copyFrom 3 none, Cond.fieldLink RX4 9 "PinDeck$Sheet" "taken" "[I", Cond.fieldLink RX4 15 "PinDeck$Sheet" "start" "[I", Cond.fieldLink RX4 18 "PinDeck$Sheet" "rolls" "I", Cond.fieldLink RX4 22 "PinDeck$Sheet" "frame" "I"]
def wsL_undo : List Cond := .codeWith yL_undo cL_undo 3 (some .int) [(0, 8, 11, 15)] :: ((wsL_undo_r1 ++ (wsL_undo_r2 ++ wsL_undo_r3)) ++ wsX70 ++ wsX10 ++ wsX60 ++ wsX20 ++ wsX40 ++ (vx_atS RX7 55 "java/lang/IllegalStateException" ["java/lang/RuntimeException", "java/lang/Exception"]).filter goodWord)
def wsL_would_r1 : List Cond := [Cond.classLink RL 13 "java/lang/IllegalArgumentException", Cond.methodLink RL 52 yX7_would, Cond.instanceMethod yX7_would, Cond.selects RX7 yX7_would yX7_would, Cond.initialized RX7, Cond.code yX7_would cX7_would 5 (some .int), Cond.classLink RX7 40 "java/lang/IllegalArgumentException", Cond.initialized "java/lang/IllegalArgumentException", Cond.fieldLink RX7 23 "PinDeck" "trial" "LPinDeck$State;", Cond.methodLink RX7 183 yX7_isBall, Cond.static yX7_isBall, Cond.code yX7_isBall cX7_isBall 2 (some .boolean), Cond.methodLink RX7 228 yX7_takesOnTrial, Cond.instanceMethod yX7_takesOnTrial, Cond.selects RX7 yX7_takesOnTrial yX7_takesOnTrial, Cond.code yX7_takesOnTrial cX7_takesOnTrial 3 (some .int), Cond.fieldLink RX7 19 "PinDeck" "now" "LPinDeck$State;", Cond.methodLink RX7 239 yX2_copyFrom, Cond.instanceMethod yX2_copyFrom, Cond.selects RX2 yX2_copyFrom yX2_copyFrom, Cond.initialized RX2, Cond.code yX2_copyFrom cX2_copyFrom 3 none, Cond.fieldLink RX2 9 "PinDeck$Pins" "leaning" "[I", Cond.fieldLink RX2 15 "PinDeck$Pins" "shift" "[I"]
def wsL_would_r2 : List Cond := [Cond.fieldLink RX2 18 "PinDeck$Pins" "told" "I", Cond.methodLink RX7 243 yX2_meetBall, Cond.instanceMethod yX2_meetBall, Cond.selects RX2 yX2_meetBall yX2_meetBall, Cond.code yX2_meetBall cX2_meetBall 9 none, Cond.fieldLink RX2 36 "PinDeck$Pins" "wentLeft" "I", Cond.fieldLink RX2 39 "PinDeck$Pins" "wentRight" "I", Cond.methodLink RX2 42 yX2_meet, Cond.instanceMethod yX2_meet, Cond.selects RX2 yX2_meet yX2_meet, Cond.code yX2_meet cX2_meet 5 (some .int), Cond.methodLink RX2 62 Lib.Math.min.name, Cond.static Lib.Math.min.name, Cond.initialized "java/lang/Math", Cond.code Lib.Math.min.name Lib.Math.min.code 2 (some .int), Cond.methodLink RX2 67 Lib.Math.max.name, Cond.static Lib.Math.max.name, Cond.code Lib.Math.max.name Lib.Math.max.code 2 (some .int), Cond.methodLink RX2 33 yX2_isUp, Cond.instanceMethod yX2_isUp, Cond.selects RX2 yX2_isUp yX2_isUp, Cond.code yX2_isUp cX2_isUp 2 (some .boolean), Cond.methodLink RX2 50 yX2_boardOf, Cond.instanceMethod yX2_boardOf]
def wsL_would_r3 : List Cond := [Cond.selects RX2 yX2_boardOf yX2_boardOf, Cond.code yX2_boardOf cX2_boardOf 2 (some .int), Cond.methodLink RX2 53 yX2_leanMore, Cond.instanceMethod yX2_leanMore, Cond.selects RX2 yX2_leanMore yX2_leanMore, Cond.code yX2_leanMore cX2_leanMore 4 none, Cond.methodLink RX2 57 yJ6_compare_7cf53, Cond.static yJ6_compare_7cf53, Cond.initialized RJ6, Cond.code yJ6_compare_7cf53 cJ6_compare_7cf53 2 (some .int), Cond.methodLink RX2 46 yX2_pushBehind, Cond.instanceMethod yX2_pushBehind, Cond.selects RX2 yX2_pushBehind yX2_pushBehind, Cond.code yX2_pushBehind cX2_pushBehind 3 none, Cond.methodLink RX7 173 yX6_settingAt, Cond.instanceMethod yX6_settingAt, Cond.selects RX6 yX6_settingAt yX6_settingAt, Cond.initialized RX6, Cond.code yX6_settingAt cX6_settingAt 2 (some .int), Cond.fieldLink RX6 25 "PinDeck$State" "settings" "[I", Cond.static yX7_isSetting, Cond.code yX7_isSetting cX7_isSetting 1 (some .boolean), Cond.methodLink RX7 247 yX2_tell, Cond.instanceMethod yX2_tell]
def wsL_would_r4 : List Cond := [Cond.selects RX2 yX2_tell yX2_tell, Cond.code yX2_tell cX2_tell 3 (some .int), Cond.methodLink RX2 70 yX2_moreThan, Cond.instanceMethod yX2_moreThan, Cond.selects RX2 yX2_moreThan yX2_moreThan, Cond.code yX2_moreThan cX2_moreThan 4 (some .int), Cond.methodLink RX7 231 yX2_fellSet, Cond.instanceMethod yX2_fellSet, Cond.selects RX2 yX2_fellSet yX2_fellSet, Cond.code yX2_fellSet cX2_fellSet 1 (some .int), Cond.methodLink RX7 234 yX2_leaningSet, Cond.instanceMethod yX2_leaningSet, Cond.selects RX2 yX2_leaningSet yX2_leaningSet, Cond.code yX2_leaningSet cX2_leaningSet 1 (some .int), Cond.methodLink RX2 79 yX2_upSet, Cond.instanceMethod yX2_upSet, Cond.selects RX2 yX2_upSet yX2_upSet, Cond.code yX2_upSet cX2_upSet 1 (some .int), Cond.methodLink RX7 117 yJ6_bitCount_0f7a4, Cond.static yJ6_bitCount_0f7a4, Cond.code yJ6_bitCount_0f7a4 cJ6_bitCount_0f7a4 1 (some .int), Cond.constant RJ6 265 (1431655765), Cond.constant RJ6 266 (858993459), Cond.constant RJ6 267 (252645135)]
def wsL_would_r5 : List Cond := [Cond.methodLink RX7 122 yX2_upSet]
def wsL_would : List Cond := .codeWith yL_would cL_would 6 (some .int) [(0, 12, 15, 13)] :: ((wsL_would_r1 ++ (wsL_would_r2 ++ (wsL_would_r3 ++ (wsL_would_r4 ++ wsL_would_r5)))) ++ wsX70 ++ wsX60 ++ wsX20 ++ (vx_atS RX7 44 "java/lang/IllegalArgumentException" ["java/lang/RuntimeException", "java/lang/Exception"]).filter goodWord)
def wsL_bestBoard_r1 : List Cond := [Cond.classLink RL 13 "java/lang/IllegalArgumentException", Cond.methodLink RL 56 yX7_bestBoard, Cond.instanceMethod yX7_bestBoard, Cond.selects RX7 yX7_bestBoard yX7_bestBoard, Cond.initialized RX7, Cond.code yX7_bestBoard cX7_bestBoard 6 (some .int), Cond.classLink RX7 40 "java/lang/IllegalArgumentException", Cond.initialized "java/lang/IllegalArgumentException", Cond.methodLink RX7 183 yX7_isBall, Cond.static yX7_isBall, Cond.code yX7_isBall cX7_isBall 2 (some .boolean), Cond.methodLink RX7 228 yX7_takesOnTrial, Cond.instanceMethod yX7_takesOnTrial, Cond.selects RX7 yX7_takesOnTrial yX7_takesOnTrial, Cond.code yX7_takesOnTrial cX7_takesOnTrial 3 (some .int), Cond.fieldLink RX7 23 "PinDeck" "trial" "LPinDeck$State;", Cond.fieldLink RX7 19 "PinDeck" "now" "LPinDeck$State;", Cond.methodLink RX7 239 yX2_copyFrom, Cond.instanceMethod yX2_copyFrom, Cond.selects RX2 yX2_copyFrom yX2_copyFrom, Cond.initialized RX2, Cond.code yX2_copyFrom cX2_copyFrom 3 none, Cond.fieldLink RX2 9 "PinDeck$Pins" "leaning" "[I", Cond.fieldLink RX2 15 "PinDeck$Pins" "shift" "[I"]
def wsL_bestBoard_r2 : List Cond := [Cond.fieldLink RX2 18 "PinDeck$Pins" "told" "I", Cond.methodLink RX7 243 yX2_meetBall, Cond.instanceMethod yX2_meetBall, Cond.selects RX2 yX2_meetBall yX2_meetBall, Cond.code yX2_meetBall cX2_meetBall 9 none, Cond.fieldLink RX2 36 "PinDeck$Pins" "wentLeft" "I", Cond.fieldLink RX2 39 "PinDeck$Pins" "wentRight" "I", Cond.methodLink RX2 42 yX2_meet, Cond.instanceMethod yX2_meet, Cond.selects RX2 yX2_meet yX2_meet, Cond.code yX2_meet cX2_meet 5 (some .int), Cond.methodLink RX2 62 Lib.Math.min.name, Cond.static Lib.Math.min.name, Cond.initialized "java/lang/Math", Cond.code Lib.Math.min.name Lib.Math.min.code 2 (some .int), Cond.methodLink RX2 67 Lib.Math.max.name, Cond.static Lib.Math.max.name, Cond.code Lib.Math.max.name Lib.Math.max.code 2 (some .int), Cond.methodLink RX2 33 yX2_isUp, Cond.instanceMethod yX2_isUp, Cond.selects RX2 yX2_isUp yX2_isUp, Cond.code yX2_isUp cX2_isUp 2 (some .boolean), Cond.methodLink RX2 50 yX2_boardOf, Cond.instanceMethod yX2_boardOf]
def wsL_bestBoard_r3 : List Cond := [Cond.selects RX2 yX2_boardOf yX2_boardOf, Cond.code yX2_boardOf cX2_boardOf 2 (some .int), Cond.methodLink RX2 53 yX2_leanMore, Cond.instanceMethod yX2_leanMore, Cond.selects RX2 yX2_leanMore yX2_leanMore, Cond.code yX2_leanMore cX2_leanMore 4 none, Cond.methodLink RX2 57 yJ6_compare_7cf53, Cond.static yJ6_compare_7cf53, Cond.initialized RJ6, Cond.code yJ6_compare_7cf53 cJ6_compare_7cf53 2 (some .int), Cond.methodLink RX2 46 yX2_pushBehind, Cond.instanceMethod yX2_pushBehind, Cond.selects RX2 yX2_pushBehind yX2_pushBehind, Cond.code yX2_pushBehind cX2_pushBehind 3 none, Cond.methodLink RX7 173 yX6_settingAt, Cond.instanceMethod yX6_settingAt, Cond.selects RX6 yX6_settingAt yX6_settingAt, Cond.initialized RX6, Cond.code yX6_settingAt cX6_settingAt 2 (some .int), Cond.fieldLink RX6 25 "PinDeck$State" "settings" "[I", Cond.static yX7_isSetting, Cond.code yX7_isSetting cX7_isSetting 1 (some .boolean), Cond.methodLink RX7 247 yX2_tell, Cond.instanceMethod yX2_tell]
def wsL_bestBoard_r4 : List Cond := [Cond.selects RX2 yX2_tell yX2_tell, Cond.code yX2_tell cX2_tell 3 (some .int), Cond.methodLink RX2 70 yX2_moreThan, Cond.instanceMethod yX2_moreThan, Cond.selects RX2 yX2_moreThan yX2_moreThan, Cond.code yX2_moreThan cX2_moreThan 4 (some .int), Cond.methodLink RX7 117 yJ6_bitCount_0f7a4, Cond.static yJ6_bitCount_0f7a4, Cond.code yJ6_bitCount_0f7a4 cJ6_bitCount_0f7a4 1 (some .int), Cond.constant RJ6 265 (1431655765), Cond.constant RJ6 266 (858993459), Cond.constant RJ6 267 (252645135)]
def wsL_bestBoard : List Cond := .codeWith yL_bestBoard cL_bestBoard 4 (some .int) [(0, 9, 12, 13)] :: ((wsL_bestBoard_r1 ++ (wsL_bestBoard_r2 ++ (wsL_bestBoard_r3 ++ wsL_bestBoard_r4))) ++ wsX70 ++ wsX60 ++ wsX20 ++ (vx_atS RX7 44 "java/lang/IllegalArgumentException" ["java/lang/RuntimeException", "java/lang/Exception"]).filter goodWord)
def wsL_goesOn_r1 : List Cond := [Cond.classLink RL 13 "java/lang/IllegalArgumentException", Cond.methodLink RL 59 yX7_goesOn, Cond.instanceMethod yX7_goesOn, Cond.selects RX7 yX7_goesOn yX7_goesOn, Cond.initialized RX7, Cond.code yX7_goesOn cX7_goesOn 4 (some .int), Cond.classLink RX7 40 "java/lang/IllegalArgumentException", Cond.initialized "java/lang/IllegalArgumentException", Cond.fieldLink RX7 23 "PinDeck" "trial" "LPinDeck$State;", Cond.fieldLink RX7 19 "PinDeck" "now" "LPinDeck$State;", Cond.methodLink RX7 183 yX7_isBall, Cond.static yX7_isBall, Cond.code yX7_isBall cX7_isBall 2 (some .boolean), Cond.methodLink RX7 253 yX6_copyFrom, Cond.instanceMethod yX6_copyFrom, Cond.selects RX6 yX6_copyFrom yX6_copyFrom, Cond.initialized RX6, Cond.code yX6_copyFrom cX6_copyFrom 3 none, Cond.fieldLink RX6 12 "PinDeck$State" "pins" "LPinDeck$Pins;", Cond.fieldLink RX6 21 "PinDeck$State" "sheet" "LPinDeck$Sheet;", Cond.fieldLink RX6 25 "PinDeck$State" "settings" "[I", Cond.fieldLink RX6 38 "PinDeck$State" "stopped" "I", Cond.fieldLink RX6 42 "PinDeck$State" "dropped" "I", Cond.fieldLink RX6 45 "PinDeck$State" "fouls" "I"]
def wsL_goesOn_r2 : List Cond := [Cond.methodLink RX6 48 yX2_copyFrom, Cond.instanceMethod yX2_copyFrom, Cond.selects RX2 yX2_copyFrom yX2_copyFrom, Cond.initialized RX2, Cond.code yX2_copyFrom cX2_copyFrom 3 none, Cond.fieldLink RX2 9 "PinDeck$Pins" "leaning" "[I", Cond.fieldLink RX2 15 "PinDeck$Pins" "shift" "[I", Cond.fieldLink RX2 18 "PinDeck$Pins" "told" "I", Cond.methodLink RX6 52 yX4_copyFrom, Cond.instanceMethod yX4_copyFrom, Cond.selects RX4 yX4_copyFrom yX4_copyFrom, Cond.initialized RX4, Cond.code yX4_copyFrom cX4_copyFrom 3 none, Cond.fieldLink RX4 9 "PinDeck$Sheet" "taken" "[I", Cond.fieldLink RX4 15 "PinDeck$Sheet" "start" "[I", Cond.fieldLink RX4 18 "PinDeck$Sheet" "rolls" "I", Cond.fieldLink RX4 22 "PinDeck$Sheet" "frame" "I", Cond.methodLink RX7 125 yX4_isOver, Cond.instanceMethod yX4_isOver, Cond.selects RX4 yX4_isOver yX4_isOver, Cond.code yX4_isOver cX4_isOver 1 (some .boolean), Cond.methodLink RX7 194 yX6_bowl, Cond.instanceMethod yX6_bowl, Cond.selects RX6 yX6_bowl yX6_bowl]
def wsL_goesOn_r3 : List Cond := [Cond.code yX6_bowl cX6_bowl 6 (some .int), Cond.methodLink RX6 67 yX6_stops, Cond.instanceMethod yX6_stops, Cond.selects RX6 yX6_stops yX6_stops, Cond.code yX6_stops cX6_stops 2 (some .boolean), Cond.methodLink RX6 70 yX2_meetBall, Cond.instanceMethod yX2_meetBall, Cond.selects RX2 yX2_meetBall yX2_meetBall, Cond.code yX2_meetBall cX2_meetBall 9 none, Cond.fieldLink RX2 36 "PinDeck$Pins" "wentLeft" "I", Cond.fieldLink RX2 39 "PinDeck$Pins" "wentRight" "I", Cond.methodLink RX2 42 yX2_meet, Cond.instanceMethod yX2_meet, Cond.selects RX2 yX2_meet yX2_meet, Cond.code yX2_meet cX2_meet 5 (some .int), Cond.methodLink RX2 62 Lib.Math.min.name, Cond.static Lib.Math.min.name, Cond.initialized "java/lang/Math", Cond.code Lib.Math.min.name Lib.Math.min.code 2 (some .int), Cond.methodLink RX2 67 Lib.Math.max.name, Cond.static Lib.Math.max.name, Cond.code Lib.Math.max.name Lib.Math.max.code 2 (some .int), Cond.methodLink RX2 33 yX2_isUp, Cond.instanceMethod yX2_isUp]
def wsL_goesOn_r4 : List Cond := [Cond.selects RX2 yX2_isUp yX2_isUp, Cond.code yX2_isUp cX2_isUp 2 (some .boolean), Cond.methodLink RX2 50 yX2_boardOf, Cond.instanceMethod yX2_boardOf, Cond.selects RX2 yX2_boardOf yX2_boardOf, Cond.code yX2_boardOf cX2_boardOf 2 (some .int), Cond.methodLink RX2 53 yX2_leanMore, Cond.instanceMethod yX2_leanMore, Cond.selects RX2 yX2_leanMore yX2_leanMore, Cond.code yX2_leanMore cX2_leanMore 4 none, Cond.methodLink RX2 57 yJ6_compare_7cf53, Cond.static yJ6_compare_7cf53, Cond.initialized RJ6, Cond.code yJ6_compare_7cf53 cJ6_compare_7cf53 2 (some .int), Cond.methodLink RX2 46 yX2_pushBehind, Cond.instanceMethod yX2_pushBehind, Cond.selects RX2 yX2_pushBehind yX2_pushBehind, Cond.code yX2_pushBehind cX2_pushBehind 3 none, Cond.methodLink RX6 74 yX2_tell, Cond.instanceMethod yX2_tell, Cond.selects RX2 yX2_tell yX2_tell, Cond.code yX2_tell cX2_tell 3 (some .int), Cond.methodLink RX2 70 yX2_moreThan, Cond.instanceMethod yX2_moreThan]
def wsL_goesOn_r5 : List Cond := [Cond.selects RX2 yX2_moreThan yX2_moreThan, Cond.code yX2_moreThan cX2_moreThan 4 (some .int), Cond.methodLink RX6 77 yJ6_bitCount_0f7a4, Cond.static yJ6_bitCount_0f7a4, Cond.code yJ6_bitCount_0f7a4 cJ6_bitCount_0f7a4 1 (some .int), Cond.constant RJ6 265 (1431655765), Cond.constant RJ6 266 (858993459), Cond.constant RJ6 267 (252645135), Cond.methodLink RX6 82 yX4_add, Cond.instanceMethod yX4_add, Cond.selects RX4 yX4_add yX4_add, Cond.code yX4_add cX4_add 4 none, Cond.methodLink RX4 32 yX4_markOf, Cond.instanceMethod yX4_markOf, Cond.selects RX4 yX4_markOf yX4_markOf, Cond.code yX4_markOf cX4_markOf 3 (some .int), Cond.methodLink RX4 25 yX4_startOf, Cond.instanceMethod yX4_startOf, Cond.selects RX4 yX4_startOf yX4_startOf, Cond.code yX4_startOf cX4_startOf 2 (some .int), Cond.methodLink RX4 29 yX4_takenBy, Cond.instanceMethod yX4_takenBy, Cond.selects RX4 yX4_takenBy yX4_takenBy, Cond.code yX4_takenBy cX4_takenBy 2 (some .int)]
def wsL_goesOn_r6 : List Cond := [Cond.methodLink RX4 38 yX4_rollsIn, Cond.instanceMethod yX4_rollsIn, Cond.selects RX4 yX4_rollsIn yX4_rollsIn, Cond.code yX4_rollsIn cX4_rollsIn 2 (some .int), Cond.methodLink RX6 86 yX4_wantsNewRack, Cond.instanceMethod yX4_wantsNewRack, Cond.selects RX4 yX4_wantsNewRack yX4_wantsNewRack, Cond.code yX4_wantsNewRack cX4_wantsNewRack 1 (some .boolean), Cond.methodLink RX4 41 yX4_isOver, Cond.methodLink RX6 32 yX2_newRack, Cond.instanceMethod yX2_newRack, Cond.selects RX2 yX2_newRack yX2_newRack, Cond.code yX2_newRack cX2_newRack 2 none, Cond.methodLink RX6 90 yX4_isOver, Cond.methodLink RX6 93 yX2_setAgain, Cond.instanceMethod yX2_setAgain, Cond.selects RX2 yX2_setAgain yX2_setAgain, Cond.code yX2_setAgain cX2_setAgain 4 (some .int), Cond.methodLink RX2 73 yX2_dropSet, Cond.instanceMethod yX2_dropSet, Cond.selects RX2 yX2_dropSet yX2_dropSet, Cond.code yX2_dropSet cX2_dropSet 2 (some .int), Cond.methodLink RX2 76 yJ6_bitCount_0f7a4, Cond.methodLink RX7 95 yX4_allPoints]
def wsL_goesOn_r7 : List Cond := [Cond.instanceMethod yX4_allPoints, Cond.selects RX4 yX4_allPoints yX4_allPoints, Cond.code yX4_allPoints cX4_allPoints 3 (some .int), Cond.methodLink RX4 35 yX4_pointsOf, Cond.instanceMethod yX4_pointsOf, Cond.selects RX4 yX4_pointsOf yX4_pointsOf, Cond.code yX4_pointsOf cX4_pointsOf 4 (some .int)]
def wsL_goesOn : List Cond := .codeWith yL_goesOn cL_goesOn 5 (some .int) [(0, 10, 13, 13)] :: ((wsL_goesOn_r1 ++ (wsL_goesOn_r2 ++ (wsL_goesOn_r3 ++ (wsL_goesOn_r4 ++ (wsL_goesOn_r5 ++ (wsL_goesOn_r6 ++ wsL_goesOn_r7)))))) ++ wsX70 ++ wsX60 ++ wsX20 ++ wsX40 ++ (vx_atS RX7 44 "java/lang/IllegalArgumentException" ["java/lang/RuntimeException", "java/lang/Exception"]).filter goodWord)
def wsL_runScript_r1 : List Cond := [Cond.classLink RL 13 "java/lang/IllegalArgumentException", Cond.methodLink RL 62 yX7_runScript, Cond.instanceMethod yX7_runScript, Cond.selects RX7 yX7_runScript yX7_runScript, Cond.initialized RX7, Cond.code yX7_runScript cX7_runScript 6 (some .int), Cond.classLink RX7 40 "java/lang/IllegalArgumentException", Cond.initialized "java/lang/IllegalArgumentException", Cond.fieldLink RX7 23 "PinDeck" "trial" "LPinDeck$State;", Cond.fieldLink RX7 19 "PinDeck" "now" "LPinDeck$State;", Cond.constantLong RX7 268 (100000), Cond.methodLink RX7 260 yX3_unitOf, Cond.static yX3_unitOf, Cond.initialized RX3, Cond.code yX3_unitOf cX3_unitOf 1 (some .long), Cond.constantLong RX3 11 (100000), Cond.constantLong RX3 13 (10000000000), Cond.constantLong RX3 15 (1000000000000000), Cond.methodLink RX7 253 yX6_copyFrom, Cond.instanceMethod yX6_copyFrom, Cond.selects RX6 yX6_copyFrom yX6_copyFrom, Cond.initialized RX6, Cond.code yX6_copyFrom cX6_copyFrom 3 none, Cond.fieldLink RX6 12 "PinDeck$State" "pins" "LPinDeck$Pins;"]
def wsL_runScript_r2 : List Cond := [Cond.fieldLink RX6 21 "PinDeck$State" "sheet" "LPinDeck$Sheet;", Cond.fieldLink RX6 25 "PinDeck$State" "settings" "[I", Cond.fieldLink RX6 38 "PinDeck$State" "stopped" "I", Cond.fieldLink RX6 42 "PinDeck$State" "dropped" "I", Cond.fieldLink RX6 45 "PinDeck$State" "fouls" "I", Cond.methodLink RX6 48 yX2_copyFrom, Cond.instanceMethod yX2_copyFrom, Cond.selects RX2 yX2_copyFrom yX2_copyFrom, Cond.initialized RX2, Cond.code yX2_copyFrom cX2_copyFrom 3 none, Cond.fieldLink RX2 9 "PinDeck$Pins" "leaning" "[I", Cond.fieldLink RX2 15 "PinDeck$Pins" "shift" "[I", Cond.fieldLink RX2 18 "PinDeck$Pins" "told" "I", Cond.methodLink RX6 52 yX4_copyFrom, Cond.instanceMethod yX4_copyFrom, Cond.selects RX4 yX4_copyFrom yX4_copyFrom, Cond.initialized RX4, Cond.code yX4_copyFrom cX4_copyFrom 3 none, Cond.fieldLink RX4 9 "PinDeck$Sheet" "taken" "[I", Cond.fieldLink RX4 15 "PinDeck$Sheet" "start" "[I", Cond.fieldLink RX4 18 "PinDeck$Sheet" "rolls" "I", Cond.fieldLink RX4 22 "PinDeck$Sheet" "frame" "I", Cond.methodLink RX7 270 yX3_succeeds, Cond.static yX3_succeeds]
def wsL_runScript_r3 : List Cond := [Cond.code yX3_succeeds cX3_succeeds 6 (some .boolean), Cond.constant RX3 30 (50000), Cond.methodLink RX3 17 yX6_tryRoll, Cond.instanceMethod yX6_tryRoll, Cond.selects RX6 yX6_tryRoll yX6_tryRoll, Cond.code yX6_tryRoll cX6_tryRoll 6 (some .boolean), Cond.static yX7_isBall, Cond.code yX7_isBall cX7_isBall 2 (some .boolean), Cond.static yX7_isSpeed, Cond.code yX7_isSpeed cX7_isSpeed 1 (some .boolean), Cond.methodLink RX6 90 yX4_isOver, Cond.instanceMethod yX4_isOver, Cond.selects RX4 yX4_isOver yX4_isOver, Cond.code yX4_isOver cX4_isOver 1 (some .boolean), Cond.methodLink RX6 103 yX6_bowl, Cond.instanceMethod yX6_bowl, Cond.selects RX6 yX6_bowl yX6_bowl, Cond.code yX6_bowl cX6_bowl 6 (some .int), Cond.methodLink RX6 67 yX6_stops, Cond.instanceMethod yX6_stops, Cond.selects RX6 yX6_stops yX6_stops, Cond.code yX6_stops cX6_stops 2 (some .boolean), Cond.methodLink RX6 70 yX2_meetBall, Cond.instanceMethod yX2_meetBall]
def wsL_runScript_r4 : List Cond := [Cond.selects RX2 yX2_meetBall yX2_meetBall, Cond.code yX2_meetBall cX2_meetBall 9 none, Cond.fieldLink RX2 36 "PinDeck$Pins" "wentLeft" "I", Cond.fieldLink RX2 39 "PinDeck$Pins" "wentRight" "I", Cond.methodLink RX2 42 yX2_meet, Cond.instanceMethod yX2_meet, Cond.selects RX2 yX2_meet yX2_meet, Cond.code yX2_meet cX2_meet 5 (some .int), Cond.methodLink RX2 62 Lib.Math.min.name, Cond.static Lib.Math.min.name, Cond.initialized "java/lang/Math", Cond.code Lib.Math.min.name Lib.Math.min.code 2 (some .int), Cond.methodLink RX2 67 Lib.Math.max.name, Cond.static Lib.Math.max.name, Cond.code Lib.Math.max.name Lib.Math.max.code 2 (some .int), Cond.methodLink RX2 33 yX2_isUp, Cond.instanceMethod yX2_isUp, Cond.selects RX2 yX2_isUp yX2_isUp, Cond.code yX2_isUp cX2_isUp 2 (some .boolean), Cond.methodLink RX2 50 yX2_boardOf, Cond.instanceMethod yX2_boardOf, Cond.selects RX2 yX2_boardOf yX2_boardOf, Cond.code yX2_boardOf cX2_boardOf 2 (some .int), Cond.methodLink RX2 53 yX2_leanMore]
def wsL_runScript_r5 : List Cond := [Cond.instanceMethod yX2_leanMore, Cond.selects RX2 yX2_leanMore yX2_leanMore, Cond.code yX2_leanMore cX2_leanMore 4 none, Cond.methodLink RX2 57 yJ6_compare_7cf53, Cond.static yJ6_compare_7cf53, Cond.initialized RJ6, Cond.code yJ6_compare_7cf53 cJ6_compare_7cf53 2 (some .int), Cond.methodLink RX2 46 yX2_pushBehind, Cond.instanceMethod yX2_pushBehind, Cond.selects RX2 yX2_pushBehind yX2_pushBehind, Cond.code yX2_pushBehind cX2_pushBehind 3 none, Cond.methodLink RX6 74 yX2_tell, Cond.instanceMethod yX2_tell, Cond.selects RX2 yX2_tell yX2_tell, Cond.code yX2_tell cX2_tell 3 (some .int), Cond.methodLink RX2 70 yX2_moreThan, Cond.instanceMethod yX2_moreThan, Cond.selects RX2 yX2_moreThan yX2_moreThan, Cond.code yX2_moreThan cX2_moreThan 4 (some .int), Cond.methodLink RX6 77 yJ6_bitCount_0f7a4, Cond.static yJ6_bitCount_0f7a4, Cond.code yJ6_bitCount_0f7a4 cJ6_bitCount_0f7a4 1 (some .int), Cond.constant RJ6 265 (1431655765), Cond.constant RJ6 266 (858993459)]
def wsL_runScript_r6 : List Cond := [Cond.constant RJ6 267 (252645135), Cond.methodLink RX6 82 yX4_add, Cond.instanceMethod yX4_add, Cond.selects RX4 yX4_add yX4_add, Cond.code yX4_add cX4_add 4 none, Cond.methodLink RX4 32 yX4_markOf, Cond.instanceMethod yX4_markOf, Cond.selects RX4 yX4_markOf yX4_markOf, Cond.code yX4_markOf cX4_markOf 3 (some .int), Cond.methodLink RX4 25 yX4_startOf, Cond.instanceMethod yX4_startOf, Cond.selects RX4 yX4_startOf yX4_startOf, Cond.code yX4_startOf cX4_startOf 2 (some .int), Cond.methodLink RX4 29 yX4_takenBy, Cond.instanceMethod yX4_takenBy, Cond.selects RX4 yX4_takenBy yX4_takenBy, Cond.code yX4_takenBy cX4_takenBy 2 (some .int), Cond.methodLink RX4 38 yX4_rollsIn, Cond.instanceMethod yX4_rollsIn, Cond.selects RX4 yX4_rollsIn yX4_rollsIn, Cond.code yX4_rollsIn cX4_rollsIn 2 (some .int), Cond.methodLink RX6 86 yX4_wantsNewRack, Cond.instanceMethod yX4_wantsNewRack, Cond.selects RX4 yX4_wantsNewRack yX4_wantsNewRack]
def wsL_runScript_r7 : List Cond := [Cond.code yX4_wantsNewRack cX4_wantsNewRack 1 (some .boolean), Cond.methodLink RX4 41 yX4_isOver, Cond.methodLink RX6 32 yX2_newRack, Cond.instanceMethod yX2_newRack, Cond.selects RX2 yX2_newRack yX2_newRack, Cond.code yX2_newRack cX2_newRack 2 none, Cond.methodLink RX6 93 yX2_setAgain, Cond.instanceMethod yX2_setAgain, Cond.selects RX2 yX2_setAgain yX2_setAgain, Cond.code yX2_setAgain cX2_setAgain 4 (some .int), Cond.methodLink RX2 73 yX2_dropSet, Cond.instanceMethod yX2_dropSet, Cond.selects RX2 yX2_dropSet yX2_dropSet, Cond.code yX2_dropSet cX2_dropSet 2 (some .int), Cond.methodLink RX2 76 yJ6_bitCount_0f7a4, Cond.methodLink RX3 23 yX6_tryTouch, Cond.instanceMethod yX6_tryTouch, Cond.selects RX6 yX6_tryTouch yX6_tryTouch, Cond.code yX6_tryTouch cX6_tryTouch 4 (some .boolean), Cond.static yX7_isLeaning, Cond.code yX7_isLeaning cX7_isLeaning 1 (some .boolean), Cond.methodLink RX6 110 yX2_isUp, Cond.methodLink RX6 113 yX2_makeLean, Cond.instanceMethod yX2_makeLean]
def wsL_runScript_r8 : List Cond := [Cond.selects RX2 yX2_makeLean yX2_makeLean, Cond.code yX2_makeLean cX2_makeLean 4 (some .int), Cond.methodLink RX2 29 yX2_leaningOf, Cond.instanceMethod yX2_leaningOf, Cond.selects RX2 yX2_leaningOf yX2_leaningOf, Cond.code yX2_leaningOf cX2_leaningOf 2 (some .int), Cond.static yX7_isPin, Cond.code yX7_isPin cX7_isPin 1 (some .boolean), Cond.methodLink RX3 27 yX6_trySet, Cond.instanceMethod yX6_trySet, Cond.selects RX6 yX6_trySet yX6_trySet, Cond.code yX6_trySet cX6_trySet 4 (some .boolean), Cond.static yX7_isSetting, Cond.code yX7_isSetting cX7_isSetting 1 (some .boolean), Cond.static yX7_isValue, Cond.code yX7_isValue cX7_isValue 2 (some .boolean), Cond.methodLink RX7 198 yX7_isLeaning, Cond.methodLink RX6 120 yX6_change, Cond.instanceMethod yX6_change, Cond.selects RX6 yX6_change yX6_change, Cond.code yX6_change cX6_change 4 (some .int), Cond.methodLink RX6 59 yX6_settingAt, Cond.instanceMethod yX6_settingAt, Cond.selects RX6 yX6_settingAt yX6_settingAt]
def wsL_runScript_r9 : List Cond := [Cond.code yX6_settingAt cX6_settingAt 2 (some .int), Cond.methodLink RX3 31 yX3_begins, Cond.static yX3_begins, Cond.code yX3_begins cX3_begins 1 (some .boolean), Cond.methodLink RX3 66 yX6_beginGame, Cond.instanceMethod yX6_beginGame, Cond.selects RX6 yX6_beginGame yX6_beginGame, Cond.code yX6_beginGame cX6_beginGame 2 (some .int), Cond.methodLink RX6 63 yX4_allPoints, Cond.instanceMethod yX4_allPoints, Cond.selects RX4 yX4_allPoints yX4_allPoints, Cond.code yX4_allPoints cX4_allPoints 3 (some .int), Cond.methodLink RX4 35 yX4_pointsOf, Cond.instanceMethod yX4_pointsOf, Cond.selects RX4 yX4_pointsOf yX4_pointsOf, Cond.code yX4_pointsOf cX4_pointsOf 4 (some .int), Cond.methodLink RX6 35 yX4_clear, Cond.instanceMethod yX4_clear, Cond.selects RX4 yX4_clear yX4_clear, Cond.code yX4_clear cX4_clear 1 none, Cond.methodLink RX3 39 yX2_toldSet, Cond.instanceMethod yX2_toldSet, Cond.selects RX2 yX2_toldSet yX2_toldSet, Cond.code yX2_toldSet cX2_toldSet 1 (some .int)]
def wsL_runScript_r10 : List Cond := [Cond.methodLink RX3 45 yJ6_bitCount_0f7a4, Cond.methodLink RX3 51 yX2_leaningOf, Cond.methodLink RX3 58 yX4_allPoints, Cond.methodLink RX3 63 yX4_markOf]
def wsL_runScript : List Cond := .codeWith yL_runScript cL_runScript 6 (some .int) [(0, 11, 14, 13)] :: ((wsL_runScript_r1 ++ (wsL_runScript_r2 ++ (wsL_runScript_r3 ++ (wsL_runScript_r4 ++ (wsL_runScript_r5 ++ (wsL_runScript_r6 ++ (wsL_runScript_r7 ++ (wsL_runScript_r8 ++ (wsL_runScript_r9 ++ wsL_runScript_r10))))))))) ++ wsX70 ++ wsX60 ++ wsX20 ++ wsX40 ++ (vx_atS RX7 44 "java/lang/IllegalArgumentException" ["java/lang/RuntimeException", "java/lang/Exception"]).filter goodWord)
def wsL_simulate_r1 : List Cond := [Cond.classLink RL 13 "java/lang/IllegalArgumentException", Cond.methodLink RL 66 yX7_simulate, Cond.instanceMethod yX7_simulate, Cond.selects RX7 yX7_simulate yX7_simulate, Cond.initialized RX7, Cond.code yX7_simulate cX7_simulate 7 (some .int), Cond.classLink RX7 40 "java/lang/IllegalArgumentException", Cond.initialized "java/lang/IllegalArgumentException", Cond.fieldLink RX7 23 "PinDeck" "trial" "LPinDeck$State;", Cond.fieldLink RX7 19 "PinDeck" "now" "LPinDeck$State;", Cond.constantLong RX7 276 (6364136223846793005), Cond.constantLong RX7 278 (1442695040888963407), Cond.methodLink RX7 253 yX6_copyFrom, Cond.instanceMethod yX6_copyFrom, Cond.selects RX6 yX6_copyFrom yX6_copyFrom, Cond.initialized RX6, Cond.code yX6_copyFrom cX6_copyFrom 3 none, Cond.fieldLink RX6 12 "PinDeck$State" "pins" "LPinDeck$Pins;", Cond.fieldLink RX6 21 "PinDeck$State" "sheet" "LPinDeck$Sheet;", Cond.fieldLink RX6 25 "PinDeck$State" "settings" "[I", Cond.fieldLink RX6 38 "PinDeck$State" "stopped" "I", Cond.fieldLink RX6 42 "PinDeck$State" "dropped" "I", Cond.fieldLink RX6 45 "PinDeck$State" "fouls" "I", Cond.methodLink RX6 48 yX2_copyFrom]
def wsL_simulate_r2 : List Cond := [Cond.instanceMethod yX2_copyFrom, Cond.selects RX2 yX2_copyFrom yX2_copyFrom, Cond.initialized RX2, Cond.code yX2_copyFrom cX2_copyFrom 3 none, Cond.fieldLink RX2 9 "PinDeck$Pins" "leaning" "[I", Cond.fieldLink RX2 15 "PinDeck$Pins" "shift" "[I", Cond.fieldLink RX2 18 "PinDeck$Pins" "told" "I", Cond.methodLink RX6 52 yX4_copyFrom, Cond.instanceMethod yX4_copyFrom, Cond.selects RX4 yX4_copyFrom yX4_copyFrom, Cond.initialized RX4, Cond.code yX4_copyFrom cX4_copyFrom 3 none, Cond.fieldLink RX4 9 "PinDeck$Sheet" "taken" "[I", Cond.fieldLink RX4 15 "PinDeck$Sheet" "start" "[I", Cond.fieldLink RX4 18 "PinDeck$Sheet" "rolls" "I", Cond.fieldLink RX4 22 "PinDeck$Sheet" "frame" "I", Cond.methodLink RX7 280 yX7_takeTurn, Cond.instanceMethod yX7_takeTurn, Cond.selects RX7 yX7_takeTurn yX7_takeTurn, Cond.code yX7_takeTurn cX7_takeTurn 3 none, Cond.methodLink RX7 284 yX6_tryTouch, Cond.instanceMethod yX6_tryTouch, Cond.selects RX6 yX6_tryTouch yX6_tryTouch, Cond.code yX6_tryTouch cX6_tryTouch 4 (some .boolean)]
def wsL_simulate_r3 : List Cond := [Cond.static yX7_isLeaning, Cond.code yX7_isLeaning cX7_isLeaning 1 (some .boolean), Cond.methodLink RX6 110 yX2_isUp, Cond.instanceMethod yX2_isUp, Cond.selects RX2 yX2_isUp yX2_isUp, Cond.code yX2_isUp cX2_isUp 2 (some .boolean), Cond.methodLink RX6 113 yX2_makeLean, Cond.instanceMethod yX2_makeLean, Cond.selects RX2 yX2_makeLean yX2_makeLean, Cond.code yX2_makeLean cX2_makeLean 4 (some .int), Cond.methodLink RX2 29 yX2_leaningOf, Cond.instanceMethod yX2_leaningOf, Cond.selects RX2 yX2_leaningOf yX2_leaningOf, Cond.code yX2_leaningOf cX2_leaningOf 2 (some .int), Cond.static yX7_isPin, Cond.code yX7_isPin cX7_isPin 1 (some .boolean), Cond.methodLink RX2 33 yX2_isUp, Cond.methodLink RX7 287 yX6_trySet, Cond.instanceMethod yX6_trySet, Cond.selects RX6 yX6_trySet yX6_trySet, Cond.code yX6_trySet cX6_trySet 4 (some .boolean), Cond.static yX7_isSetting, Cond.code yX7_isSetting cX7_isSetting 1 (some .boolean), Cond.static yX7_isValue]
def wsL_simulate_r4 : List Cond := [Cond.code yX7_isValue cX7_isValue 2 (some .boolean), Cond.methodLink RX7 198 yX7_isLeaning, Cond.methodLink RX6 120 yX6_change, Cond.instanceMethod yX6_change, Cond.selects RX6 yX6_change yX6_change, Cond.code yX6_change cX6_change 4 (some .int), Cond.methodLink RX6 59 yX6_settingAt, Cond.instanceMethod yX6_settingAt, Cond.selects RX6 yX6_settingAt yX6_settingAt, Cond.code yX6_settingAt cX6_settingAt 2 (some .int), Cond.methodLink RX7 290 yX6_tryRoll, Cond.instanceMethod yX6_tryRoll, Cond.selects RX6 yX6_tryRoll yX6_tryRoll, Cond.code yX6_tryRoll cX6_tryRoll 6 (some .boolean), Cond.static yX7_isBall, Cond.code yX7_isBall cX7_isBall 2 (some .boolean), Cond.static yX7_isSpeed, Cond.code yX7_isSpeed cX7_isSpeed 1 (some .boolean), Cond.methodLink RX6 90 yX4_isOver, Cond.instanceMethod yX4_isOver, Cond.selects RX4 yX4_isOver yX4_isOver, Cond.code yX4_isOver cX4_isOver 1 (some .boolean), Cond.methodLink RX6 103 yX6_bowl, Cond.instanceMethod yX6_bowl]
def wsL_simulate_r5 : List Cond := [Cond.selects RX6 yX6_bowl yX6_bowl, Cond.code yX6_bowl cX6_bowl 6 (some .int), Cond.methodLink RX6 67 yX6_stops, Cond.instanceMethod yX6_stops, Cond.selects RX6 yX6_stops yX6_stops, Cond.code yX6_stops cX6_stops 2 (some .boolean), Cond.methodLink RX6 70 yX2_meetBall, Cond.instanceMethod yX2_meetBall, Cond.selects RX2 yX2_meetBall yX2_meetBall, Cond.code yX2_meetBall cX2_meetBall 9 none, Cond.fieldLink RX2 36 "PinDeck$Pins" "wentLeft" "I", Cond.fieldLink RX2 39 "PinDeck$Pins" "wentRight" "I", Cond.methodLink RX2 42 yX2_meet, Cond.instanceMethod yX2_meet, Cond.selects RX2 yX2_meet yX2_meet, Cond.code yX2_meet cX2_meet 5 (some .int), Cond.methodLink RX2 62 Lib.Math.min.name, Cond.static Lib.Math.min.name, Cond.initialized "java/lang/Math", Cond.code Lib.Math.min.name Lib.Math.min.code 2 (some .int), Cond.methodLink RX2 67 Lib.Math.max.name, Cond.static Lib.Math.max.name, Cond.code Lib.Math.max.name Lib.Math.max.code 2 (some .int), Cond.methodLink RX2 50 yX2_boardOf]
def wsL_simulate_r6 : List Cond := [Cond.instanceMethod yX2_boardOf, Cond.selects RX2 yX2_boardOf yX2_boardOf, Cond.code yX2_boardOf cX2_boardOf 2 (some .int), Cond.methodLink RX2 53 yX2_leanMore, Cond.instanceMethod yX2_leanMore, Cond.selects RX2 yX2_leanMore yX2_leanMore, Cond.code yX2_leanMore cX2_leanMore 4 none, Cond.methodLink RX2 57 yJ6_compare_7cf53, Cond.static yJ6_compare_7cf53, Cond.initialized RJ6, Cond.code yJ6_compare_7cf53 cJ6_compare_7cf53 2 (some .int), Cond.methodLink RX2 46 yX2_pushBehind, Cond.instanceMethod yX2_pushBehind, Cond.selects RX2 yX2_pushBehind yX2_pushBehind, Cond.code yX2_pushBehind cX2_pushBehind 3 none, Cond.methodLink RX6 74 yX2_tell, Cond.instanceMethod yX2_tell, Cond.selects RX2 yX2_tell yX2_tell, Cond.code yX2_tell cX2_tell 3 (some .int), Cond.methodLink RX2 70 yX2_moreThan, Cond.instanceMethod yX2_moreThan, Cond.selects RX2 yX2_moreThan yX2_moreThan, Cond.code yX2_moreThan cX2_moreThan 4 (some .int), Cond.methodLink RX6 77 yJ6_bitCount_0f7a4]
def wsL_simulate_r7 : List Cond := [Cond.static yJ6_bitCount_0f7a4, Cond.code yJ6_bitCount_0f7a4 cJ6_bitCount_0f7a4 1 (some .int), Cond.constant RJ6 265 (1431655765), Cond.constant RJ6 266 (858993459), Cond.constant RJ6 267 (252645135), Cond.methodLink RX6 82 yX4_add, Cond.instanceMethod yX4_add, Cond.selects RX4 yX4_add yX4_add, Cond.code yX4_add cX4_add 4 none, Cond.methodLink RX4 32 yX4_markOf, Cond.instanceMethod yX4_markOf, Cond.selects RX4 yX4_markOf yX4_markOf, Cond.code yX4_markOf cX4_markOf 3 (some .int), Cond.methodLink RX4 25 yX4_startOf, Cond.instanceMethod yX4_startOf, Cond.selects RX4 yX4_startOf yX4_startOf, Cond.code yX4_startOf cX4_startOf 2 (some .int), Cond.methodLink RX4 29 yX4_takenBy, Cond.instanceMethod yX4_takenBy, Cond.selects RX4 yX4_takenBy yX4_takenBy, Cond.code yX4_takenBy cX4_takenBy 2 (some .int), Cond.methodLink RX4 38 yX4_rollsIn, Cond.instanceMethod yX4_rollsIn, Cond.selects RX4 yX4_rollsIn yX4_rollsIn]
def wsL_simulate_r8 : List Cond := [Cond.code yX4_rollsIn cX4_rollsIn 2 (some .int), Cond.methodLink RX6 86 yX4_wantsNewRack, Cond.instanceMethod yX4_wantsNewRack, Cond.selects RX4 yX4_wantsNewRack yX4_wantsNewRack, Cond.code yX4_wantsNewRack cX4_wantsNewRack 1 (some .boolean), Cond.methodLink RX4 41 yX4_isOver, Cond.methodLink RX6 32 yX2_newRack, Cond.instanceMethod yX2_newRack, Cond.selects RX2 yX2_newRack yX2_newRack, Cond.code yX2_newRack cX2_newRack 2 none, Cond.methodLink RX6 93 yX2_setAgain, Cond.instanceMethod yX2_setAgain, Cond.selects RX2 yX2_setAgain yX2_setAgain, Cond.code yX2_setAgain cX2_setAgain 4 (some .int), Cond.methodLink RX2 73 yX2_dropSet, Cond.instanceMethod yX2_dropSet, Cond.selects RX2 yX2_dropSet yX2_dropSet, Cond.code yX2_dropSet cX2_dropSet 2 (some .int), Cond.methodLink RX2 76 yJ6_bitCount_0f7a4, Cond.methodLink RX7 92 yX4_rolls, Cond.instanceMethod yX4_rolls, Cond.selects RX4 yX4_rolls yX4_rolls, Cond.code yX4_rolls cX4_rolls 1 (some .int), Cond.methodLink RX7 95 yX4_allPoints]
def wsL_simulate_r9 : List Cond := [Cond.instanceMethod yX4_allPoints, Cond.selects RX4 yX4_allPoints yX4_allPoints, Cond.code yX4_allPoints cX4_allPoints 3 (some .int), Cond.methodLink RX4 35 yX4_pointsOf, Cond.instanceMethod yX4_pointsOf, Cond.selects RX4 yX4_pointsOf yX4_pointsOf, Cond.code yX4_pointsOf cX4_pointsOf 4 (some .int)]
def wsL_simulate : List Cond := .codeWith yL_simulate cL_simulate 6 (some .int) [(0, 11, 14, 13)] :: ((wsL_simulate_r1 ++ (wsL_simulate_r2 ++ (wsL_simulate_r3 ++ (wsL_simulate_r4 ++ (wsL_simulate_r5 ++ (wsL_simulate_r6 ++ (wsL_simulate_r7 ++ (wsL_simulate_r8 ++ wsL_simulate_r9)))))))) ++ wsX70 ++ wsX60 ++ wsX20 ++ wsX40 ++ (vx_atS RX7 44 "java/lang/IllegalArgumentException" ["java/lang/RuntimeException", "java/lang/Exception"]).filter goodWord)
def wsL_save_r1 : List Cond := [Cond.classLink RL 28 "java/lang/IndexOutOfBoundsException", Cond.methodLink RL 70 yX7_save, Cond.instanceMethod yX7_save, Cond.selects RX7 yX7_save yX7_save, Cond.initialized RX7, Cond.code yX7_save cX7_save 2 (some .int), Cond.classLink RX7 134 "java/lang/IndexOutOfBoundsException", Cond.initialized "java/lang/IndexOutOfBoundsException", Cond.fieldLink RX7 36 "PinDeck" "slots" "LPinDeck$Slots;", Cond.fieldLink RX7 19 "PinDeck" "now" "LPinDeck$State;", Cond.methodLink RX7 294 yX7_isSlot, Cond.static yX7_isSlot, Cond.code yX7_isSlot cX7_isSlot 1 (some .boolean), Cond.methodLink RX7 299 yX5_keep, Cond.instanceMethod yX5_keep, Cond.selects RX5 yX5_keep yX5_keep, Cond.initialized RX5, Cond.code yX5_keep cX5_keep 3 none, Cond.fieldLink RX5 11 "PinDeck$Slots" "states" "[LPinDeck$State;", Cond.fieldLink RX5 17 "PinDeck$Slots" "kept" "[Z", Cond.methodLink RX5 26 yX6_copyFrom, Cond.instanceMethod yX6_copyFrom, Cond.selects RX6 yX6_copyFrom yX6_copyFrom, Cond.initialized RX6]
def wsL_save_r2 : List Cond := [Cond.code yX6_copyFrom cX6_copyFrom 3 none, Cond.fieldLink RX6 12 "PinDeck$State" "pins" "LPinDeck$Pins;", Cond.fieldLink RX6 21 "PinDeck$State" "sheet" "LPinDeck$Sheet;", Cond.fieldLink RX6 25 "PinDeck$State" "settings" "[I", Cond.fieldLink RX6 38 "PinDeck$State" "stopped" "I", Cond.fieldLink RX6 42 "PinDeck$State" "dropped" "I", Cond.fieldLink RX6 45 "PinDeck$State" "fouls" "I", Cond.methodLink RX6 48 yX2_copyFrom, Cond.instanceMethod yX2_copyFrom, Cond.selects RX2 yX2_copyFrom yX2_copyFrom, Cond.initialized RX2, Cond.code yX2_copyFrom cX2_copyFrom 3 none, Cond.fieldLink RX2 9 "PinDeck$Pins" "leaning" "[I", Cond.fieldLink RX2 15 "PinDeck$Pins" "shift" "[I", Cond.fieldLink RX2 18 "PinDeck$Pins" "told" "I", Cond.methodLink RX6 52 yX4_copyFrom, Cond.instanceMethod yX4_copyFrom, Cond.selects RX4 yX4_copyFrom yX4_copyFrom, Cond.initialized RX4, Cond.code yX4_copyFrom cX4_copyFrom 3 none, Cond.fieldLink RX4 9 "PinDeck$Sheet" "taken" "[I", Cond.fieldLink RX4 15 "PinDeck$Sheet" "start" "[I", Cond.fieldLink RX4 18 "PinDeck$Sheet" "rolls" "I", Cond.fieldLink RX4 22 "PinDeck$Sheet" "frame" "I"]
def wsL_save_r3 : List Cond := [Cond.methodLink RX7 92 yX4_rolls, Cond.instanceMethod yX4_rolls, Cond.selects RX4 yX4_rolls yX4_rolls, Cond.code yX4_rolls cX4_rolls 1 (some .int)]
def wsL_save : List Cond := .codeWith yL_save cL_save 4 (some .int) [(0, 9, 12, 28)] :: ((wsL_save_r1 ++ (wsL_save_r2 ++ wsL_save_r3)) ++ wsX70 ++ wsX60 ++ wsX50 ++ wsX20 ++ wsX40 ++ (vx_atS RX7 138 "java/lang/IndexOutOfBoundsException" ["java/lang/RuntimeException", "java/lang/Exception"]).filter goodWord)
def wsL_restore_r1 : List Cond := [Cond.classLink RL 28 "java/lang/IndexOutOfBoundsException", Cond.classLink RL 15 "java/lang/IllegalStateException", Cond.methodLink RL 73 yX7_restore, Cond.instanceMethod yX7_restore, Cond.selects RX7 yX7_restore yX7_restore, Cond.initialized RX7, Cond.code yX7_restore cX7_restore 2 (some .int), Cond.classLink RX7 134 "java/lang/IndexOutOfBoundsException", Cond.initialized "java/lang/IndexOutOfBoundsException", Cond.classLink RX7 51 "java/lang/IllegalStateException", Cond.initialized "java/lang/IllegalStateException", Cond.fieldLink RX7 36 "PinDeck" "slots" "LPinDeck$Slots;", Cond.fieldLink RX7 19 "PinDeck" "now" "LPinDeck$State;", Cond.fieldLink RX7 29 "PinDeck" "history" "LPinDeck$History;", Cond.methodLink RX7 294 yX7_isSlot, Cond.static yX7_isSlot, Cond.code yX7_isSlot cX7_isSlot 1 (some .boolean), Cond.methodLink RX7 303 yX5_isKept, Cond.instanceMethod yX5_isKept, Cond.selects RX5 yX5_isKept yX5_isKept, Cond.initialized RX5, Cond.code yX5_isKept cX5_isKept 2 (some .boolean), Cond.fieldLink RX5 17 "PinDeck$Slots" "kept" "[Z", Cond.methodLink RX7 308 yX5_giveBack]
def wsL_restore_r2 : List Cond := [Cond.instanceMethod yX5_giveBack, Cond.selects RX5 yX5_giveBack yX5_giveBack, Cond.code yX5_giveBack cX5_giveBack 3 none, Cond.fieldLink RX5 11 "PinDeck$Slots" "states" "[LPinDeck$State;", Cond.methodLink RX5 30 yX5_isKept, Cond.methodLink RX5 26 yX6_copyFrom, Cond.instanceMethod yX6_copyFrom, Cond.selects RX6 yX6_copyFrom yX6_copyFrom, Cond.initialized RX6, Cond.code yX6_copyFrom cX6_copyFrom 3 none, Cond.fieldLink RX6 12 "PinDeck$State" "pins" "LPinDeck$Pins;", Cond.fieldLink RX6 21 "PinDeck$State" "sheet" "LPinDeck$Sheet;", Cond.fieldLink RX6 25 "PinDeck$State" "settings" "[I", Cond.fieldLink RX6 38 "PinDeck$State" "stopped" "I", Cond.fieldLink RX6 42 "PinDeck$State" "dropped" "I", Cond.fieldLink RX6 45 "PinDeck$State" "fouls" "I", Cond.methodLink RX6 48 yX2_copyFrom, Cond.instanceMethod yX2_copyFrom, Cond.selects RX2 yX2_copyFrom yX2_copyFrom, Cond.initialized RX2, Cond.code yX2_copyFrom cX2_copyFrom 3 none, Cond.fieldLink RX2 9 "PinDeck$Pins" "leaning" "[I", Cond.fieldLink RX2 15 "PinDeck$Pins" "shift" "[I", Cond.fieldLink RX2 18 "PinDeck$Pins" "told" "I"]
def wsL_restore_r3 : List Cond := [Cond.methodLink RX6 52 yX4_copyFrom, Cond.instanceMethod yX4_copyFrom, Cond.selects RX4 yX4_copyFrom yX4_copyFrom, Cond.initialized RX4, Cond.code yX4_copyFrom cX4_copyFrom 3 none, Cond.fieldLink RX4 9 "PinDeck$Sheet" "taken" "[I", Cond.fieldLink RX4 15 "PinDeck$Sheet" "start" "[I", Cond.fieldLink RX4 18 "PinDeck$Sheet" "rolls" "I", Cond.fieldLink RX4 22 "PinDeck$Sheet" "frame" "I", Cond.methodLink RX7 72 yX1_forget, Cond.instanceMethod yX1_forget, Cond.selects RX1 yX1_forget yX1_forget, Cond.initialized RX1, Cond.code yX1_forget cX1_forget 1 none, Cond.fieldLink RX1 18 "PinDeck$History" "size" "I", Cond.methodLink RX7 92 yX4_rolls, Cond.instanceMethod yX4_rolls, Cond.selects RX4 yX4_rolls yX4_rolls, Cond.code yX4_rolls cX4_rolls 1 (some .int)]
def wsL_restore : List Cond := .codeWith yL_restore cL_restore 4 (some .int) [(0, 9, 12, 28), (0, 9, 15, 15)] :: ((wsL_restore_r1 ++ (wsL_restore_r2 ++ wsL_restore_r3)) ++ wsX70 ++ wsX60 ++ wsX50 ++ wsX20 ++ wsX40 ++ wsX10 ++ (vx_atS RX7 138 "java/lang/IndexOutOfBoundsException" ["java/lang/RuntimeException", "java/lang/Exception"]).filter goodWord ++ (vx_atS RX7 55 "java/lang/IllegalStateException" ["java/lang/RuntimeException", "java/lang/Exception"]).filter goodWord)
def wsL_law0_r1 : List Cond := [Cond.classLink RL 8 RX7, Cond.instantiable RX7 5, Cond.initialized RX7, Cond.classLink RL 77 RX8, Cond.instantiable RX8 13, Cond.initialized RX8, Cond.arrayClass .long, Cond.constantLong RL 152 (4294967295), Cond.methodLink RL 76 yX7_init, Cond.instanceMethod yX7_init, Cond.code yX7_init cX7_init 1 none, Cond.methodLink RX7 1 objectInit, Cond.instanceMethod objectInit, Cond.code objectInit ⟨#[0xb1]⟩ 1 none, Cond.classLink RX7 7 RX0, Cond.instantiable RX0 2, Cond.initialized RX0, Cond.fieldLink RX7 10 "PinDeck" "text" "LPinDeck$GameText;", Cond.classLink RX7 16 RX6, Cond.instantiable RX6 6, Cond.initialized RX6, Cond.fieldLink RX7 19 "PinDeck" "now" "LPinDeck$State;", Cond.fieldLink RX7 23 "PinDeck" "trial" "LPinDeck$State;", Cond.classLink RX7 26 RX1]
def wsL_law0_r2 : List Cond := [Cond.instantiable RX1 3, Cond.initialized RX1, Cond.fieldLink RX7 29 "PinDeck" "history" "LPinDeck$History;", Cond.classLink RX7 33 RX5, Cond.instantiable RX5 2, Cond.initialized RX5, Cond.fieldLink RX7 36 "PinDeck" "slots" "LPinDeck$Slots;", Cond.methodLink RX7 9 yX0_init, Cond.instanceMethod yX0_init, Cond.code yX0_init cX0_init 1 none, Cond.methodLink RX0 3 objectInit, Cond.arrayClass .int, Cond.fieldLink RX0 9 "PinDeck$GameText" "signs" "[I", Cond.methodLink RX7 18 yX6_init, Cond.instanceMethod yX6_init, Cond.code yX6_init cX6_init 1 none, Cond.methodLink RX6 3 objectInit, Cond.classLink RX6 9 RX2, Cond.instantiable RX2 5, Cond.initialized RX2, Cond.fieldLink RX6 12 "PinDeck$State" "pins" "LPinDeck$Pins;", Cond.classLink RX6 18 RX4, Cond.instantiable RX4 4, Cond.initialized RX4]
def wsL_law0_r3 : List Cond := [Cond.fieldLink RX6 21 "PinDeck$State" "sheet" "LPinDeck$Sheet;", Cond.fieldLink RX6 25 "PinDeck$State" "settings" "[I", Cond.methodLink RX6 11 yX2_init, Cond.instanceMethod yX2_init, Cond.code yX2_init cX2_init 1 none, Cond.methodLink RX2 3 objectInit, Cond.fieldLink RX2 9 "PinDeck$Pins" "leaning" "[I", Cond.fieldLink RX2 15 "PinDeck$Pins" "shift" "[I", Cond.fieldLink RX2 18 "PinDeck$Pins" "told" "I", Cond.methodLink RX6 20 yX4_init, Cond.instanceMethod yX4_init, Cond.code yX4_init cX4_init 1 none, Cond.methodLink RX4 3 objectInit, Cond.fieldLink RX4 9 "PinDeck$Sheet" "taken" "[I", Cond.fieldLink RX4 15 "PinDeck$Sheet" "start" "[I", Cond.methodLink RX6 29 yX6_firstSettings, Cond.instanceMethod yX6_firstSettings, Cond.selects RX6 yX6_firstSettings yX6_firstSettings, Cond.code yX6_firstSettings cX6_firstSettings 1 none, Cond.methodLink RX7 28 yX1_init, Cond.instanceMethod yX1_init, Cond.code yX1_init cX1_init 2 none, Cond.methodLink RX1 3 objectInit, Cond.classLink RX1 9 RX6]
def wsL_law0_r4 : List Cond := [Cond.fieldLink RX1 11 "PinDeck$History" "states" "[LPinDeck$State;", Cond.methodLink RX1 17 yX6_init, Cond.methodLink RX7 35 yX5_init, Cond.instanceMethod yX5_init, Cond.code yX5_init cX5_init 2 none, Cond.methodLink RX5 3 objectInit, Cond.classLink RX5 9 RX6, Cond.fieldLink RX5 11 "PinDeck$Slots" "states" "[LPinDeck$State;", Cond.arrayClass .boolean, Cond.fieldLink RX5 17 "PinDeck$Slots" "kept" "[Z", Cond.methodLink RX5 21 yX6_init, Cond.methodLink RL 79 yX8_init, Cond.instanceMethod yX8_init, Cond.code yX8_init cX8_init 1 none, Cond.methodLink RX8 1 objectInit, Cond.fieldLink RX8 7 "PinDeckModel" "text" "[I", Cond.fieldLink RX8 13 "PinDeckModel" "now" "[I", Cond.fieldLink RX8 16 "PinDeckModel" "trial" "[I", Cond.fieldLink RX8 19 "PinDeckModel" "diary" "[I", Cond.fieldLink RX8 22 "PinDeckModel" "kept" "[I", Cond.fieldLink RX8 25 "PinDeckModel" "isKept" "[Z", Cond.fieldLink RX8 29 "PinDeckModel" "side" "[I", Cond.fieldLink RX8 32 "PinDeckModel" "was" "[I", Cond.methodLink RX8 35 yX8_clear]
def wsL_law0_r5 : List Cond := [Cond.static yX8_clear, Cond.code yX8_clear cX8_clear 2 none, Cond.methodLink RX8 43 yX8_rack, Cond.static yX8_rack, Cond.code yX8_rack cX8_rack 2 none, Cond.methodLink RL 80 yL_append, Cond.static yL_append, Cond.initialized RL, Cond.codeWith yL_append cL_append 4 (some .int) [(0, 9, 12, 13), (0, 9, 15, 15)], Cond.classLink RL 13 "java/lang/IllegalArgumentException", Cond.classLink RL 15 "java/lang/IllegalStateException", Cond.methodLink RL 7 yX7_append, Cond.instanceMethod yX7_append, Cond.selects RX7 yX7_append yX7_append, Cond.code yX7_append cX7_append 2 (some .int), Cond.classLink RX7 40 "java/lang/IllegalArgumentException", Cond.initialized "java/lang/IllegalArgumentException", Cond.classLink RX7 51 "java/lang/IllegalStateException", Cond.initialized "java/lang/IllegalStateException", Cond.methodLink RX7 47 yX0_isFull, Cond.instanceMethod yX0_isFull, Cond.selects RX0 yX0_isFull yX0_isFull, Cond.code yX0_isFull cX0_isFull 1 (some .boolean), Cond.fieldLink RX0 15 "PinDeck$GameText" "length" "I"]
def wsL_law0_r6 : List Cond := [Cond.methodLink RX7 56 yX0_add, Cond.instanceMethod yX0_add, Cond.selects RX0 yX0_add yX0_add, Cond.code yX0_add cX0_add 2 (some .int), Cond.methodLink RL 85 yX8_append, Cond.instanceMethod yX8_append, Cond.selects RX8 yX8_append yX8_append, Cond.code yX8_append cX8_append 2 (some .int), Cond.constantLong RX8 130 (255), Cond.fieldLink RX8 132 "PinDeckModel" "size" "I", Cond.methodLink RX8 48 yX8_in, Cond.static yX8_in, Cond.code yX8_in cX8_in 6 (some .boolean), Cond.methodLink RX8 135 yX8_refused, Cond.instanceMethod yX8_refused, Cond.selects RX8 yX8_refused yX8_refused, Cond.code yX8_refused cX8_refused 2 (some .boolean), Cond.fieldLink RX8 39 "PinDeckModel" "refusal" "I", Cond.methodLink RL 86 yX8_thrown, Cond.instanceMethod yX8_thrown, Cond.selects RX8 yX8_thrown yX8_thrown, Cond.code yX8_thrown cX8_thrown 1 (some .int), Cond.methodLink RL 89 yX7_clearText, Cond.instanceMethod yX7_clearText]
def wsL_law0_r7 : List Cond := [Cond.selects RX7 yX7_clearText yX7_clearText, Cond.code yX7_clearText cX7_clearText 1 (some .int), Cond.methodLink RX7 60 yX0_empty, Cond.instanceMethod yX0_empty, Cond.selects RX0 yX0_empty yX0_empty, Cond.code yX0_empty cX0_empty 2 (some .int), Cond.methodLink RL 92 yX8_clearText, Cond.instanceMethod yX8_clearText, Cond.selects RX8 yX8_clearText yX8_clearText, Cond.code yX8_clearText cX8_clearText 2 (some .int), Cond.methodLink RL 93 yX7_errorPosition, Cond.instanceMethod yX7_errorPosition, Cond.selects RX7 yX7_errorPosition yX7_errorPosition, Cond.code yX7_errorPosition cX7_errorPosition 1 (some .int), Cond.methodLink RX7 64 yX0_firstError, Cond.instanceMethod yX0_firstError, Cond.selects RX0 yX0_firstError yX0_firstError, Cond.code yX0_firstError cX0_firstError 3 (some .int), Cond.methodLink RX0 19 yX0_signAt, Cond.instanceMethod yX0_signAt, Cond.selects RX0 yX0_signAt yX0_signAt, Cond.code yX0_signAt cX0_signAt 2 (some .int), Cond.methodLink RX0 23 yX0_isFoulAt, Cond.instanceMethod yX0_isFoulAt]
def wsL_law0_r8 : List Cond := [Cond.selects RX0 yX0_isFoulAt yX0_isFoulAt, Cond.code yX0_isFoulAt cX0_isFoulAt 2 (some .boolean), Cond.methodLink RX0 31 yX0_isBetween, Cond.static yX0_isBetween, Cond.code yX0_isBetween cX0_isBetween 3 (some .boolean), Cond.methodLink RX0 27 yX0_isAllowed, Cond.static yX0_isAllowed, Cond.code yX0_isAllowed cX0_isAllowed 3 (some .boolean), Cond.methodLink RX0 34 yX0_driftOf, Cond.static yX0_driftOf, Cond.code yX0_driftOf cX0_driftOf 1 (some .int), Cond.methodLink RL 96 yX8_errorPosition, Cond.instanceMethod yX8_errorPosition, Cond.selects RX8 yX8_errorPosition yX8_errorPosition, Cond.code yX8_errorPosition cX8_errorPosition 1 (some .int), Cond.methodLink RX8 163 yX8_readText, Cond.instanceMethod yX8_readText, Cond.selects RX8 yX8_readText yX8_readText, Cond.code yX8_readText cX8_readText 2 (some .int), Cond.fieldLink RX8 153 "PinDeckModel" "out" "I", Cond.fieldLink RX8 139 "PinDeckModel" "spot" "I", Cond.methodLink RX8 142 yX8_at, Cond.instanceMethod yX8_at, Cond.selects RX8 yX8_at yX8_at]
def wsL_law0_r9 : List Cond := [Cond.code yX8_at cX8_at 2 (some .int), Cond.methodLink RX8 160 yX8_readRoll, Cond.instanceMethod yX8_readRoll, Cond.selects RX8 yX8_readRoll yX8_readRoll, Cond.code yX8_readRoll cX8_readRoll 7 (some .boolean), Cond.methodLink RX8 145 yX8_figures, Cond.instanceMethod yX8_figures, Cond.selects RX8 yX8_figures yX8_figures, Cond.code yX8_figures cX8_figures 7 (some .int), Cond.constantLong RX8 46 (9), Cond.methodLink RX8 149 yX8_isOver, Cond.static yX8_isOver, Cond.code yX8_isOver cX8_isOver 1 (some .boolean), Cond.methodLink RX8 156 yX8_throwOn, Cond.instanceMethod yX8_throwOn, Cond.selects RX8 yX8_throwOn yX8_throwOn, Cond.code yX8_throwOn cX8_throwOn 6 (some .int), Cond.methodLink RX8 118 yX8_isStopped, Cond.static yX8_isStopped, Cond.code yX8_isStopped cX8_isStopped 2 (some .boolean), Cond.methodLink RX8 121 yX8_rollOn, Cond.instanceMethod yX8_rollOn, Cond.selects RX8 yX8_rollOn yX8_rollOn, Cond.code yX8_rollOn cX8_rollOn 8 (some .int)]
def wsL_law0_r10 : List Cond := [Cond.methodLink RX8 104 yX8_toldOf, Cond.static yX8_toldOf, Cond.code yX8_toldOf cX8_toldOf 3 (some .int), Cond.methodLink RX8 108 yX8_ball, Cond.instanceMethod yX8_ball, Cond.selects RX8 yX8_ball yX8_ball, Cond.code yX8_ball cX8_ball 8 none, Cond.methodLink RX8 62 yX8_firstOf, Cond.static yX8_firstOf, Cond.code yX8_firstOf cX8_firstOf 1 (some .int), Cond.methodLink RX8 77 yX8_meet, Cond.instanceMethod yX8_meet, Cond.selects RX8 yX8_meet yX8_meet, Cond.code yX8_meet cX8_meet 6 (some .int), Cond.constantLong RX8 69 (-3), Cond.constantLong RX8 71 (3), Cond.constantLong RX8 54 (-2), Cond.constantLong RX8 56 (2), Cond.methodLink RX8 65 yX8_boardOf, Cond.static yX8_boardOf, Cond.code yX8_boardOf cX8_boardOf 3 (some .int), Cond.methodLink RX8 58 yX8_rowOf, Cond.static yX8_rowOf, Cond.code yX8_rowOf cX8_rowOf 1 (some .int)]
def wsL_law0_r11 : List Cond := [Cond.methodLink RX8 73 yX8_leanMore, Cond.instanceMethod yX8_leanMore, Cond.selects RX8 yX8_leanMore yX8_leanMore, Cond.code yX8_leanMore cX8_leanMore 5 none, Cond.methodLink RX8 81 yX8_pushFrom, Cond.instanceMethod yX8_pushFrom, Cond.selects RX8 yX8_pushFrom yX8_pushFrom, Cond.code yX8_pushFrom cX8_pushFrom 5 none, Cond.methodLink RX8 112 yX8_tell, Cond.static yX8_tell, Cond.code yX8_tell cX8_tell 2 none, Cond.methodLink RX8 115 yX8_goOn, Cond.static yX8_goOn, Cond.code yX8_goOn cX8_goOn 4 none, Cond.methodLink RX8 92 yX8_markOf, Cond.static yX8_markOf, Cond.code yX8_markOf cX8_markOf 2 (some .int), Cond.methodLink RX8 89 yX8_rollOf, Cond.static yX8_rollOf, Cond.code yX8_rollOf cX8_rollOf 3 (some .int), Cond.methodLink RX8 101 yX8_setAgain, Cond.static yX8_setAgain, Cond.code yX8_setAgain cX8_setAgain 2 none, Cond.methodLink RX8 85 yX8_slips]
def wsL_law0_r12 : List Cond := [Cond.static yX8_slips, Cond.code yX8_slips cX8_slips 2 (some .boolean), Cond.methodLink RL 97 yL_load, Cond.static yL_load, Cond.codeWith yL_load cL_load 3 (some .int) [(0, 8, 11, 15)], Cond.methodLink RL 17 yX7_load, Cond.instanceMethod yX7_load, Cond.selects RX7 yX7_load yX7_load, Cond.code yX7_load cX7_load 1 (some .int), Cond.methodLink RX7 69 yX6_renew, Cond.instanceMethod yX6_renew, Cond.selects RX6 yX6_renew yX6_renew, Cond.code yX6_renew cX6_renew 1 none, Cond.fieldLink RX6 38 "PinDeck$State" "stopped" "I", Cond.fieldLink RX6 42 "PinDeck$State" "dropped" "I", Cond.fieldLink RX6 45 "PinDeck$State" "fouls" "I", Cond.methodLink RX6 32 yX2_newRack, Cond.instanceMethod yX2_newRack, Cond.selects RX2 yX2_newRack yX2_newRack, Cond.code yX2_newRack cX2_newRack 2 none, Cond.methodLink RX6 35 yX4_clear, Cond.instanceMethod yX4_clear, Cond.selects RX4 yX4_clear yX4_clear, Cond.code yX4_clear cX4_clear 1 none]
def wsL_law0_r13 : List Cond := [Cond.fieldLink RX4 18 "PinDeck$Sheet" "rolls" "I", Cond.fieldLink RX4 22 "PinDeck$Sheet" "frame" "I", Cond.methodLink RX7 72 yX1_forget, Cond.instanceMethod yX1_forget, Cond.selects RX1 yX1_forget yX1_forget, Cond.code yX1_forget cX1_forget 1 none, Cond.fieldLink RX1 18 "PinDeck$History" "size" "I", Cond.methodLink RX7 75 yX5_forget, Cond.instanceMethod yX5_forget, Cond.selects RX5 yX5_forget yX5_forget, Cond.code yX5_forget cX5_forget 2 none, Cond.methodLink RX7 76 yX0_playOn, Cond.instanceMethod yX0_playOn, Cond.selects RX0 yX0_playOn yX0_playOn, Cond.code yX0_playOn cX0_playOn 8 (some .int), Cond.methodLink RX0 37 yX0_numberAt, Cond.instanceMethod yX0_numberAt, Cond.selects RX0 yX0_numberAt yX0_numberAt, Cond.code yX0_numberAt cX0_numberAt 2 (some .int), Cond.methodLink RX0 40 yX6_tryRoll, Cond.instanceMethod yX6_tryRoll, Cond.selects RX6 yX6_tryRoll yX6_tryRoll, Cond.code yX6_tryRoll cX6_tryRoll 6 (some .boolean), Cond.static yX7_isBall]
def wsL_law0_r14 : List Cond := [Cond.code yX7_isBall cX7_isBall 2 (some .boolean), Cond.static yX7_isSpeed, Cond.code yX7_isSpeed cX7_isSpeed 1 (some .boolean), Cond.methodLink RX6 90 yX4_isOver, Cond.instanceMethod yX4_isOver, Cond.selects RX4 yX4_isOver yX4_isOver, Cond.code yX4_isOver cX4_isOver 1 (some .boolean), Cond.methodLink RX6 103 yX6_bowl, Cond.instanceMethod yX6_bowl, Cond.selects RX6 yX6_bowl yX6_bowl, Cond.code yX6_bowl cX6_bowl 6 (some .int), Cond.methodLink RX6 67 yX6_stops, Cond.instanceMethod yX6_stops, Cond.selects RX6 yX6_stops yX6_stops, Cond.code yX6_stops cX6_stops 2 (some .boolean), Cond.methodLink RX6 70 yX2_meetBall, Cond.instanceMethod yX2_meetBall, Cond.selects RX2 yX2_meetBall yX2_meetBall, Cond.code yX2_meetBall cX2_meetBall 9 none, Cond.fieldLink RX2 36 "PinDeck$Pins" "wentLeft" "I", Cond.fieldLink RX2 39 "PinDeck$Pins" "wentRight" "I", Cond.methodLink RX2 42 yX2_meet, Cond.instanceMethod yX2_meet, Cond.selects RX2 yX2_meet yX2_meet]
def wsL_law0_r15 : List Cond := [Cond.code yX2_meet cX2_meet 5 (some .int), Cond.methodLink RX2 62 Lib.Math.min.name, Cond.static Lib.Math.min.name, Cond.initialized "java/lang/Math", Cond.code Lib.Math.min.name Lib.Math.min.code 2 (some .int), Cond.methodLink RX2 67 Lib.Math.max.name, Cond.static Lib.Math.max.name, Cond.code Lib.Math.max.name Lib.Math.max.code 2 (some .int), Cond.methodLink RX2 33 yX2_isUp, Cond.instanceMethod yX2_isUp, Cond.selects RX2 yX2_isUp yX2_isUp, Cond.code yX2_isUp cX2_isUp 2 (some .boolean), Cond.methodLink RX2 50 yX2_boardOf, Cond.instanceMethod yX2_boardOf, Cond.selects RX2 yX2_boardOf yX2_boardOf, Cond.code yX2_boardOf cX2_boardOf 2 (some .int), Cond.methodLink RX2 53 yX2_leanMore, Cond.instanceMethod yX2_leanMore, Cond.selects RX2 yX2_leanMore yX2_leanMore, Cond.code yX2_leanMore cX2_leanMore 4 none, Cond.methodLink RX2 57 yJ6_compare_7cf53, Cond.static yJ6_compare_7cf53, Cond.initialized RJ6, Cond.code yJ6_compare_7cf53 cJ6_compare_7cf53 2 (some .int)]
def wsL_law0_r16 : List Cond := [Cond.methodLink RX2 46 yX2_pushBehind, Cond.instanceMethod yX2_pushBehind, Cond.selects RX2 yX2_pushBehind yX2_pushBehind, Cond.code yX2_pushBehind cX2_pushBehind 3 none, Cond.methodLink RX6 74 yX2_tell, Cond.instanceMethod yX2_tell, Cond.selects RX2 yX2_tell yX2_tell, Cond.code yX2_tell cX2_tell 3 (some .int), Cond.methodLink RX2 70 yX2_moreThan, Cond.instanceMethod yX2_moreThan, Cond.selects RX2 yX2_moreThan yX2_moreThan, Cond.code yX2_moreThan cX2_moreThan 4 (some .int), Cond.methodLink RX6 77 yJ6_bitCount_0f7a4, Cond.static yJ6_bitCount_0f7a4, Cond.code yJ6_bitCount_0f7a4 cJ6_bitCount_0f7a4 1 (some .int), Cond.constant RJ6 265 (1431655765), Cond.constant RJ6 266 (858993459), Cond.constant RJ6 267 (252645135), Cond.methodLink RX6 82 yX4_add, Cond.instanceMethod yX4_add, Cond.selects RX4 yX4_add yX4_add, Cond.code yX4_add cX4_add 4 none, Cond.methodLink RX4 32 yX4_markOf, Cond.instanceMethod yX4_markOf]
def wsL_law0_r17 : List Cond := [Cond.selects RX4 yX4_markOf yX4_markOf, Cond.code yX4_markOf cX4_markOf 3 (some .int), Cond.methodLink RX4 25 yX4_startOf, Cond.instanceMethod yX4_startOf, Cond.selects RX4 yX4_startOf yX4_startOf, Cond.code yX4_startOf cX4_startOf 2 (some .int), Cond.methodLink RX4 29 yX4_takenBy, Cond.instanceMethod yX4_takenBy, Cond.selects RX4 yX4_takenBy yX4_takenBy, Cond.code yX4_takenBy cX4_takenBy 2 (some .int), Cond.methodLink RX4 38 yX4_rollsIn, Cond.instanceMethod yX4_rollsIn, Cond.selects RX4 yX4_rollsIn yX4_rollsIn, Cond.code yX4_rollsIn cX4_rollsIn 2 (some .int), Cond.methodLink RX6 86 yX4_wantsNewRack, Cond.instanceMethod yX4_wantsNewRack, Cond.selects RX4 yX4_wantsNewRack yX4_wantsNewRack, Cond.code yX4_wantsNewRack cX4_wantsNewRack 1 (some .boolean), Cond.methodLink RX4 41 yX4_isOver, Cond.methodLink RX6 93 yX2_setAgain, Cond.instanceMethod yX2_setAgain, Cond.selects RX2 yX2_setAgain yX2_setAgain, Cond.code yX2_setAgain cX2_setAgain 4 (some .int), Cond.methodLink RX2 73 yX2_dropSet]
def wsL_law0_r18 : List Cond := [Cond.instanceMethod yX2_dropSet, Cond.selects RX2 yX2_dropSet yX2_dropSet, Cond.code yX2_dropSet cX2_dropSet 2 (some .int), Cond.methodLink RX2 76 yJ6_bitCount_0f7a4, Cond.methodLink RL 100 yX8_load, Cond.instanceMethod yX8_load, Cond.selects RX8 yX8_load yX8_load, Cond.code yX8_load cX8_load 1 (some .int), Cond.fieldLink RX8 170 "PinDeckModel" "acts" "I", Cond.methodLink RX8 166 yX8_copyState, Cond.static yX8_copyState, Cond.code yX8_copyState cX8_copyState 5 none, Cond.methodLink RL 101 yL_about, Cond.static yL_about, Cond.codeWith yL_about cL_about 4 (some .int) [(0, 9, 12, 13)], Cond.methodLink RL 21 yX7_about, Cond.instanceMethod yX7_about, Cond.selects RX7 yX7_about yX7_about, Cond.code yX7_about cX7_about 2 (some .int), Cond.methodLink RX7 84 yX4_frameNow, Cond.instanceMethod yX4_frameNow, Cond.selects RX4 yX4_frameNow yX4_frameNow, Cond.code yX4_frameNow cX4_frameNow 1 (some .int), Cond.methodLink RX7 89 yX4_rollsIn]
def wsL_law0_r19 : List Cond := [Cond.methodLink RX7 92 yX4_rolls, Cond.instanceMethod yX4_rolls, Cond.selects RX4 yX4_rolls yX4_rolls, Cond.code yX4_rolls cX4_rolls 1 (some .int), Cond.methodLink RX7 95 yX4_allPoints, Cond.instanceMethod yX4_allPoints, Cond.selects RX4 yX4_allPoints yX4_allPoints, Cond.code yX4_allPoints cX4_allPoints 3 (some .int), Cond.methodLink RX4 35 yX4_pointsOf, Cond.instanceMethod yX4_pointsOf, Cond.selects RX4 yX4_pointsOf yX4_pointsOf, Cond.code yX4_pointsOf cX4_pointsOf 4 (some .int), Cond.methodLink RX7 112 yX2_toldSet, Cond.instanceMethod yX2_toldSet, Cond.selects RX2 yX2_toldSet yX2_toldSet, Cond.code yX2_toldSet cX2_toldSet 1 (some .int), Cond.methodLink RX7 117 yJ6_bitCount_0f7a4, Cond.methodLink RX7 122 yX2_upSet, Cond.instanceMethod yX2_upSet, Cond.selects RX2 yX2_upSet yX2_upSet, Cond.code yX2_upSet cX2_upSet 1 (some .int), Cond.methodLink RX7 125 yX4_isOver, Cond.methodLink RL 103 yX8_about, Cond.instanceMethod yX8_about]
def wsL_law0_r20 : List Cond := [Cond.selects RX8 yX8_about yX8_about, Cond.code yX8_about cX8_about 2 (some .int), Cond.methodLink RX8 125 yX8_points, Cond.static yX8_points, Cond.code yX8_points cX8_points 3 (some .int), Cond.methodLink RX8 98 yX8_pointsOf, Cond.static yX8_pointsOf, Cond.code yX8_pointsOf cX8_pointsOf 5 (some .int), Cond.methodLink RX8 95 yX8_later, Cond.static yX8_later, Cond.code yX8_later cX8_later 2 (some .int), Cond.methodLink RX8 173 yX8_standing, Cond.static yX8_standing, Cond.code yX8_standing cX8_standing 3 (some .int), Cond.methodLink RL 104 yL_pin, Cond.static yL_pin, Cond.codeWith yL_pin cL_pin 5 (some .int) [(0, 10, 13, 28), (0, 10, 17, 13)], Cond.classLink RL 28 "java/lang/IndexOutOfBoundsException", Cond.methodLink RL 24 yX7_pin, Cond.instanceMethod yX7_pin, Cond.selects RX7 yX7_pin yX7_pin, Cond.code yX7_pin cX7_pin 3 (some .int), Cond.classLink RX7 134 "java/lang/IndexOutOfBoundsException", Cond.initialized "java/lang/IndexOutOfBoundsException"]
def wsL_law0_r21 : List Cond := [Cond.methodLink RX7 130 yX7_isPin, Cond.static yX7_isPin, Cond.code yX7_isPin cX7_isPin 1 (some .boolean), Cond.methodLink RX7 139 yX2_leaningOf, Cond.instanceMethod yX2_leaningOf, Cond.selects RX2 yX2_leaningOf yX2_leaningOf, Cond.code yX2_leaningOf cX2_leaningOf 2 (some .int), Cond.methodLink RX7 142 yX2_shiftOf, Cond.instanceMethod yX2_shiftOf, Cond.selects RX2 yX2_shiftOf yX2_shiftOf, Cond.code yX2_shiftOf cX2_shiftOf 2 (some .int), Cond.methodLink RX7 145 yX2_boardOf, Cond.methodLink RL 107 yX8_pin, Cond.instanceMethod yX8_pin, Cond.selects RX8 yX8_pin yX8_pin, Cond.code yX8_pin cX8_pin 3 (some .int), Cond.methodLink RX8 176 yX8_isPin, Cond.static yX8_isPin, Cond.code yX8_isPin cX8_isPin 1 (some .boolean), Cond.methodLink RL 108 yL_frame, Cond.static yL_frame, Cond.codeWith yL_frame cL_frame 5 (some .int) [(0, 10, 13, 28), (0, 10, 17, 13)], Cond.methodLink RL 30 yX7_frame, Cond.instanceMethod yX7_frame]
def wsL_law0_r22 : List Cond := [Cond.selects RX7 yX7_frame yX7_frame, Cond.code yX7_frame cX7_frame 3 (some .int), Cond.methodLink RX7 150 yX7_isFrame, Cond.static yX7_isFrame, Cond.code yX7_isFrame cX7_isFrame 1 (some .boolean), Cond.methodLink RX7 155 yX4_pointsOf, Cond.methodLink RX7 158 yX4_markOf, Cond.methodLink RL 110 yX8_frame, Cond.instanceMethod yX8_frame, Cond.selects RX8 yX8_frame yX8_frame, Cond.code yX8_frame cX8_frame 3 (some .int), Cond.methodLink RL 111 yL_taken, Cond.static yL_taken, Cond.codeWith yL_taken cL_taken 4 (some .int) [(0, 9, 12, 28)], Cond.methodLink RL 33 yX7_taken, Cond.instanceMethod yX7_taken, Cond.selects RX7 yX7_taken yX7_taken, Cond.code yX7_taken cX7_taken 2 (some .int), Cond.methodLink RX7 165 yX4_takenBy, Cond.methodLink RL 113 yX8_taken, Cond.instanceMethod yX8_taken, Cond.selects RX8 yX8_taken yX8_taken, Cond.code yX8_taken cX8_taken 2 (some .int), Cond.methodLink RL 114 yL_setting]
def wsL_law0_r23 : List Cond := [Cond.static yL_setting, Cond.codeWith yL_setting cL_setting 4 (some .int) [(0, 9, 12, 13)], Cond.methodLink RL 36 yX7_setting, Cond.instanceMethod yX7_setting, Cond.selects RX7 yX7_setting yX7_setting, Cond.code yX7_setting cX7_setting 2 (some .int), Cond.methodLink RX7 168 yX7_isSetting, Cond.static yX7_isSetting, Cond.code yX7_isSetting cX7_isSetting 1 (some .boolean), Cond.methodLink RX7 173 yX6_settingAt, Cond.instanceMethod yX6_settingAt, Cond.selects RX6 yX6_settingAt yX6_settingAt, Cond.code yX6_settingAt cX6_settingAt 2 (some .int), Cond.methodLink RL 116 yX8_setting, Cond.instanceMethod yX8_setting, Cond.selects RX8 yX8_setting yX8_setting, Cond.code yX8_setting cX8_setting 2 (some .int), Cond.methodLink RL 117 yX7_begin, Cond.instanceMethod yX7_begin, Cond.selects RX7 yX7_begin yX7_begin, Cond.code yX7_begin cX7_begin 1 (some .int), Cond.methodLink RX7 176 yX1_remember, Cond.instanceMethod yX1_remember, Cond.selects RX1 yX1_remember yX1_remember]
def wsL_law0_r24 : List Cond := [Cond.code yX1_remember cX1_remember 2 none, Cond.fieldLink RX1 22 "PinDeck$History" "next" "I", Cond.methodLink RX1 35 Lib.Math.min.name, Cond.methodLink RX1 25 yJ9_floorMod_7cf53, Cond.static yJ9_floorMod_7cf53, Cond.initialized RJ9, Cond.code yJ9_floorMod_7cf53 cJ9_floorMod_7cf53 3 (some .int), Cond.methodLink RX1 31 yX6_copyFrom, Cond.instanceMethod yX6_copyFrom, Cond.selects RX6 yX6_copyFrom yX6_copyFrom, Cond.code yX6_copyFrom cX6_copyFrom 3 none, Cond.methodLink RX6 48 yX2_copyFrom, Cond.instanceMethod yX2_copyFrom, Cond.selects RX2 yX2_copyFrom yX2_copyFrom, Cond.code yX2_copyFrom cX2_copyFrom 3 none, Cond.methodLink RX6 52 yX4_copyFrom, Cond.instanceMethod yX4_copyFrom, Cond.selects RX4 yX4_copyFrom yX4_copyFrom, Cond.code yX4_copyFrom cX4_copyFrom 3 none, Cond.methodLink RX7 180 yX6_beginGame, Cond.instanceMethod yX6_beginGame, Cond.selects RX6 yX6_beginGame yX6_beginGame, Cond.code yX6_beginGame cX6_beginGame 2 (some .int), Cond.methodLink RX6 63 yX4_allPoints]
def wsL_law0_r25 : List Cond := [Cond.methodLink RL 120 yX8_begin, Cond.instanceMethod yX8_begin, Cond.selects RX8 yX8_begin yX8_begin, Cond.code yX8_begin cX8_begin 1 (some .int), Cond.methodLink RX8 179 yX8_remember, Cond.instanceMethod yX8_remember, Cond.selects RX8 yX8_remember yX8_remember, Cond.code yX8_remember cX8_remember 2 none, Cond.methodLink RX8 182 yX8_beginOn, Cond.static yX8_beginOn, Cond.code yX8_beginOn cX8_beginOn 3 (some .int), Cond.methodLink RL 121 yL_roll, Cond.static yL_roll, Cond.codeWith yL_roll cL_roll 7 (some .int) [(0, 14, 17, 13), (0, 14, 21, 15)], Cond.methodLink RL 39 yX7_roll, Cond.instanceMethod yX7_roll, Cond.selects RX7 yX7_roll yX7_roll, Cond.code yX7_roll cX7_roll 5 (some .int), Cond.methodLink RX7 183 yX7_isBall, Cond.methodLink RX7 187 yX7_isSpeed, Cond.methodLink RX7 194 yX6_bowl, Cond.methodLink RL 124 yX8_roll, Cond.instanceMethod yX8_roll, Cond.selects RX8 yX8_roll yX8_roll]
def wsL_law0_r26 : List Cond := [Cond.code yX8_roll cX8_roll 5 (some .int), Cond.constantLong RX8 189 (30), Cond.methodLink RX8 185 yX8_isBall, Cond.static yX8_isBall, Cond.code yX8_isBall cX8_isBall 2 (some .boolean), Cond.constantLong RX8 52 (40), Cond.methodLink RL 125 yL_touch, Cond.static yL_touch, Cond.codeWith yL_touch cL_touch 5 (some .int) [(0, 10, 13, 28), (0, 10, 17, 13), (0, 10, 21, 15)], Cond.methodLink RL 43 yX7_touch, Cond.instanceMethod yX7_touch, Cond.selects RX7 yX7_touch yX7_touch, Cond.code yX7_touch cX7_touch 3 (some .int), Cond.methodLink RX7 198 yX7_isLeaning, Cond.static yX7_isLeaning, Cond.code yX7_isLeaning cX7_isLeaning 1 (some .boolean), Cond.methodLink RX7 203 yX2_isUp, Cond.methodLink RX7 208 yX2_makeLean, Cond.instanceMethod yX2_makeLean, Cond.selects RX2 yX2_makeLean yX2_makeLean, Cond.code yX2_makeLean cX2_makeLean 4 (some .int), Cond.methodLink RX2 29 yX2_leaningOf, Cond.methodLink RL 127 yX8_touch, Cond.instanceMethod yX8_touch]
def wsL_law0_r27 : List Cond := [Cond.selects RX8 yX8_touch yX8_touch, Cond.code yX8_touch cX8_touch 3 (some .int), Cond.methodLink RX8 191 yX8_touchOn, Cond.static yX8_touchOn, Cond.code yX8_touchOn cX8_touchOn 4 (some .int), Cond.methodLink RL 128 yL_set, Cond.static yL_set, Cond.codeWith yL_set cL_set 5 (some .int) [(0, 10, 13, 13)], Cond.methodLink RL 46 yX7_set, Cond.instanceMethod yX7_set, Cond.selects RX7 yX7_set yX7_set, Cond.code yX7_set cX7_set 3 (some .int), Cond.methodLink RX7 212 yX7_isValue, Cond.static yX7_isValue, Cond.code yX7_isValue cX7_isValue 2 (some .boolean), Cond.methodLink RX7 217 yX6_change, Cond.instanceMethod yX6_change, Cond.selects RX6 yX6_change yX6_change, Cond.code yX6_change cX6_change 4 (some .int), Cond.methodLink RX6 59 yX6_settingAt, Cond.methodLink RL 130 yX8_set, Cond.instanceMethod yX8_set, Cond.selects RX8 yX8_set yX8_set, Cond.code yX8_set cX8_set 4 (some .int)]
def wsL_law0_r28 : List Cond := [Cond.methodLink RX8 194 yX8_isSetting, Cond.static yX8_isSetting, Cond.code yX8_isSetting cX8_isSetting 2 (some .boolean), Cond.constantLong RX8 128 (90), Cond.methodLink RL 131 yL_undo, Cond.static yL_undo, Cond.codeWith yL_undo cL_undo 3 (some .int) [(0, 8, 11, 15)], Cond.methodLink RL 49 yX7_undo, Cond.instanceMethod yX7_undo, Cond.selects RX7 yX7_undo yX7_undo, Cond.code yX7_undo cX7_undo 1 (some .int), Cond.methodLink RX7 220 yX1_isEmpty, Cond.instanceMethod yX1_isEmpty, Cond.selects RX1 yX1_isEmpty yX1_isEmpty, Cond.code yX1_isEmpty cX1_isEmpty 1 (some .boolean), Cond.methodLink RX7 225 yX1_takeBack, Cond.instanceMethod yX1_takeBack, Cond.selects RX1 yX1_takeBack yX1_takeBack, Cond.code yX1_takeBack cX1_takeBack 2 (some .int), Cond.methodLink RX1 38 Lib.Math.max.name, Cond.methodLink RL 133 yX8_undo, Cond.instanceMethod yX8_undo, Cond.selects RX8 yX8_undo yX8_undo, Cond.code yX8_undo cX8_undo 1 (some .int)]
def wsL_law0_r29 : List Cond := [Cond.methodLink RL 134 yL_would, Cond.static yL_would, Cond.codeWith yL_would cL_would 6 (some .int) [(0, 12, 15, 13)], Cond.methodLink RL 52 yX7_would, Cond.instanceMethod yX7_would, Cond.selects RX7 yX7_would yX7_would, Cond.code yX7_would cX7_would 5 (some .int), Cond.methodLink RX7 228 yX7_takesOnTrial, Cond.instanceMethod yX7_takesOnTrial, Cond.selects RX7 yX7_takesOnTrial yX7_takesOnTrial, Cond.code yX7_takesOnTrial cX7_takesOnTrial 3 (some .int), Cond.methodLink RX7 239 yX2_copyFrom, Cond.methodLink RX7 243 yX2_meetBall, Cond.methodLink RX7 247 yX2_tell, Cond.methodLink RX7 231 yX2_fellSet, Cond.instanceMethod yX2_fellSet, Cond.selects RX2 yX2_fellSet yX2_fellSet, Cond.code yX2_fellSet cX2_fellSet 1 (some .int), Cond.methodLink RX7 234 yX2_leaningSet, Cond.instanceMethod yX2_leaningSet, Cond.selects RX2 yX2_leaningSet yX2_leaningSet, Cond.code yX2_leaningSet cX2_leaningSet 1 (some .int), Cond.methodLink RX2 79 yX2_upSet, Cond.methodLink RL 137 yX8_would]
def wsL_law0_r30 : List Cond := [Cond.instanceMethod yX8_would, Cond.selects RX8 yX8_would yX8_would, Cond.code yX8_would cX8_would 10 (some .int), Cond.methodLink RX8 197 yX8_tryBall, Cond.instanceMethod yX8_tryBall, Cond.selects RX8 yX8_tryBall yX8_tryBall, Cond.code yX8_tryBall cX8_tryBall 3 (some .int), Cond.methodLink RL 138 yL_bestBoard, Cond.static yL_bestBoard, Cond.codeWith yL_bestBoard cL_bestBoard 4 (some .int) [(0, 9, 12, 13)], Cond.methodLink RL 56 yX7_bestBoard, Cond.instanceMethod yX7_bestBoard, Cond.selects RX7 yX7_bestBoard yX7_bestBoard, Cond.code yX7_bestBoard cX7_bestBoard 6 (some .int), Cond.methodLink RL 140 yX8_bestBoard, Cond.instanceMethod yX8_bestBoard, Cond.selects RX8 yX8_bestBoard yX8_bestBoard, Cond.code yX8_bestBoard cX8_bestBoard 6 (some .int), Cond.methodLink RL 141 yX7_slowest, Cond.instanceMethod yX7_slowest, Cond.selects RX7 yX7_slowest yX7_slowest, Cond.code yX7_slowest cX7_slowest 2 (some .int), Cond.methodLink RX7 250 yX6_stops, Cond.methodLink RL 144 yX8_slowest]
def wsL_law0_r31 : List Cond := [Cond.instanceMethod yX8_slowest, Cond.selects RX8 yX8_slowest yX8_slowest, Cond.code yX8_slowest cX8_slowest 2 (some .int), Cond.methodLink RL 145 yL_goesOn, Cond.static yL_goesOn, Cond.codeWith yL_goesOn cL_goesOn 5 (some .int) [(0, 10, 13, 13)], Cond.methodLink RL 59 yX7_goesOn, Cond.instanceMethod yX7_goesOn, Cond.selects RX7 yX7_goesOn yX7_goesOn, Cond.code yX7_goesOn cX7_goesOn 4 (some .int), Cond.methodLink RX7 253 yX6_copyFrom, Cond.methodLink RL 147 yX8_goesOn, Cond.instanceMethod yX8_goesOn, Cond.selects RX8 yX8_goesOn yX8_goesOn, Cond.code yX8_goesOn cX8_goesOn 3 (some .int), Cond.methodLink RL 148 yX7_drops, Cond.instanceMethod yX7_drops, Cond.selects RX7 yX7_drops yX7_drops, Cond.code yX7_drops cX7_drops 1 (some .int), Cond.methodLink RX7 255 yX2_dropSet, Cond.methodLink RL 151 yX8_drops, Cond.instanceMethod yX8_drops, Cond.selects RX8 yX8_drops yX8_drops, Cond.code yX8_drops cX8_drops 3 (some .int)]
def wsL_law0_r32 : List Cond := [Cond.methodLink RL 154 yL_runScript, Cond.static yL_runScript, Cond.codeWith yL_runScript cL_runScript 6 (some .int) [(0, 11, 14, 13)], Cond.methodLink RL 62 yX7_runScript, Cond.instanceMethod yX7_runScript, Cond.selects RX7 yX7_runScript yX7_runScript, Cond.code yX7_runScript cX7_runScript 6 (some .int), Cond.constantLong RX7 268 (100000), Cond.methodLink RX7 260 yX3_unitOf, Cond.static yX3_unitOf, Cond.initialized RX3, Cond.code yX3_unitOf cX3_unitOf 1 (some .long), Cond.constantLong RX3 11 (100000), Cond.constantLong RX3 13 (10000000000), Cond.constantLong RX3 15 (1000000000000000), Cond.methodLink RX7 270 yX3_succeeds, Cond.static yX3_succeeds, Cond.code yX3_succeeds cX3_succeeds 6 (some .boolean), Cond.constant RX3 30 (50000), Cond.methodLink RX3 17 yX6_tryRoll, Cond.methodLink RX3 23 yX6_tryTouch, Cond.instanceMethod yX6_tryTouch, Cond.selects RX6 yX6_tryTouch yX6_tryTouch, Cond.code yX6_tryTouch cX6_tryTouch 4 (some .boolean)]
def wsL_law0_r33 : List Cond := [Cond.methodLink RX6 110 yX2_isUp, Cond.methodLink RX6 113 yX2_makeLean, Cond.methodLink RX3 27 yX6_trySet, Cond.instanceMethod yX6_trySet, Cond.selects RX6 yX6_trySet yX6_trySet, Cond.code yX6_trySet cX6_trySet 4 (some .boolean), Cond.methodLink RX6 120 yX6_change, Cond.methodLink RX3 31 yX3_begins, Cond.static yX3_begins, Cond.code yX3_begins cX3_begins 1 (some .boolean), Cond.methodLink RX3 66 yX6_beginGame, Cond.methodLink RX3 39 yX2_toldSet, Cond.methodLink RX3 45 yJ6_bitCount_0f7a4, Cond.methodLink RX3 51 yX2_leaningOf, Cond.methodLink RX3 58 yX4_allPoints, Cond.methodLink RX3 63 yX4_markOf, Cond.methodLink RL 157 yX8_runScript, Cond.instanceMethod yX8_runScript, Cond.selects RX8 yX8_runScript yX8_runScript, Cond.code yX8_runScript cX8_runScript 8 (some .int), Cond.constantLong RX8 200 (100000), Cond.methodLink RX8 202 yX8_command, Cond.instanceMethod yX8_command, Cond.selects RX8 yX8_command yX8_command]
def wsL_law0_r34 : List Cond := [Cond.code yX8_command cX8_command 8 (some .boolean), Cond.methodLink RL 158 yL_simulate, Cond.static yL_simulate, Cond.codeWith yL_simulate cL_simulate 6 (some .int) [(0, 11, 14, 13)], Cond.methodLink RL 66 yX7_simulate, Cond.instanceMethod yX7_simulate, Cond.selects RX7 yX7_simulate yX7_simulate, Cond.code yX7_simulate cX7_simulate 7 (some .int), Cond.constantLong RX7 276 (6364136223846793005), Cond.constantLong RX7 278 (1442695040888963407), Cond.methodLink RX7 280 yX7_takeTurn, Cond.instanceMethod yX7_takeTurn, Cond.selects RX7 yX7_takeTurn yX7_takeTurn, Cond.code yX7_takeTurn cX7_takeTurn 3 none, Cond.methodLink RX7 284 yX6_tryTouch, Cond.methodLink RX7 287 yX6_trySet, Cond.methodLink RX7 290 yX6_tryRoll, Cond.methodLink RL 161 yX8_simulate, Cond.instanceMethod yX8_simulate, Cond.selects RX8 yX8_simulate yX8_simulate, Cond.code yX8_simulate cX8_simulate 7 (some .int), Cond.constantLong RX8 205 (60), Cond.constantLong RX8 207 (6364136223846793005), Cond.constantLong RX8 209 (1442695040888963407)]
def wsL_law0_r35 : List Cond := [Cond.methodLink RX8 211 yX8_turn, Cond.instanceMethod yX8_turn, Cond.selects RX8 yX8_turn yX8_turn, Cond.code yX8_turn cX8_turn 4 none, Cond.methodLink RL 162 yL_save, Cond.static yL_save, Cond.codeWith yL_save cL_save 4 (some .int) [(0, 9, 12, 28)], Cond.methodLink RL 70 yX7_save, Cond.instanceMethod yX7_save, Cond.selects RX7 yX7_save yX7_save, Cond.code yX7_save cX7_save 2 (some .int), Cond.methodLink RX7 294 yX7_isSlot, Cond.static yX7_isSlot, Cond.code yX7_isSlot cX7_isSlot 1 (some .boolean), Cond.methodLink RX7 299 yX5_keep, Cond.instanceMethod yX5_keep, Cond.selects RX5 yX5_keep yX5_keep, Cond.code yX5_keep cX5_keep 3 none, Cond.methodLink RX5 26 yX6_copyFrom, Cond.methodLink RL 164 yX8_save, Cond.instanceMethod yX8_save, Cond.selects RX8 yX8_save yX8_save, Cond.code yX8_save cX8_save 2 (some .int), Cond.methodLink RL 165 yL_restore]
def wsL_law0_r36 : List Cond := [Cond.static yL_restore, Cond.codeWith yL_restore cL_restore 4 (some .int) [(0, 9, 12, 28), (0, 9, 15, 15)], Cond.methodLink RL 73 yX7_restore, Cond.instanceMethod yX7_restore, Cond.selects RX7 yX7_restore yX7_restore, Cond.code yX7_restore cX7_restore 2 (some .int), Cond.methodLink RX7 303 yX5_isKept, Cond.instanceMethod yX5_isKept, Cond.selects RX5 yX5_isKept yX5_isKept, Cond.code yX5_isKept cX5_isKept 2 (some .boolean), Cond.methodLink RX7 308 yX5_giveBack, Cond.instanceMethod yX5_giveBack, Cond.selects RX5 yX5_giveBack yX5_giveBack, Cond.code yX5_giveBack cX5_giveBack 3 none, Cond.methodLink RX5 30 yX5_isKept, Cond.methodLink RL 167 yX8_restore, Cond.instanceMethod yX8_restore, Cond.selects RX8 yX8_restore yX8_restore, Cond.code yX8_restore cX8_restore 2 (some .int)]
def wsL_law0 : List Cond := (wsL_law0_r1 ++ (wsL_law0_r2 ++ (wsL_law0_r3 ++ (wsL_law0_r4 ++ (wsL_law0_r5 ++ (wsL_law0_r6 ++ (wsL_law0_r7 ++ (wsL_law0_r8 ++ (wsL_law0_r9 ++ (wsL_law0_r10 ++ (wsL_law0_r11 ++ (wsL_law0_r12 ++ (wsL_law0_r13 ++ (wsL_law0_r14 ++ (wsL_law0_r15 ++ (wsL_law0_r16 ++ (wsL_law0_r17 ++ (wsL_law0_r18 ++ (wsL_law0_r19 ++ (wsL_law0_r20 ++ (wsL_law0_r21 ++ (wsL_law0_r22 ++ (wsL_law0_r23 ++ (wsL_law0_r24 ++ (wsL_law0_r25 ++ (wsL_law0_r26 ++ (wsL_law0_r27 ++ (wsL_law0_r28 ++ (wsL_law0_r29 ++ (wsL_law0_r30 ++ (wsL_law0_r31 ++ (wsL_law0_r32 ++ (wsL_law0_r33 ++ (wsL_law0_r34 ++ (wsL_law0_r35 ++ wsL_law0_r36))))))))))))))))))))))))))))))))))) ++ wsX70 ++ wsX80 ++ wsX00 ++ wsX60 ++ wsX10 ++ wsX50 ++ wsX20 ++ wsX40 ++ ([] : List Cond)
def wsL_law : List Cond := wsL_law0 ++ (vx_atS RX7 44 "java/lang/IllegalArgumentException" ["java/lang/RuntimeException", "java/lang/Exception"]).filter goodWord ++ (vx_atS RX7 55 "java/lang/IllegalStateException" ["java/lang/RuntimeException", "java/lang/Exception"]).filter goodWord ++ (vx_atS RX7 138 "java/lang/IndexOutOfBoundsException" ["java/lang/RuntimeException", "java/lang/Exception"]).filter goodWord
set_option maxRecDepth 20000 in
theorem wsL_law_c1 : ∀ w ∈ wsL_law0_r1, w ∈ lw_tbl := kmem_r _ [45, 46, 28, 817, 818, 35, 1108, 1107, 47, 48, 49, 50, 51, 52, 53, 54, 29, 179, 67, 68, 30, 180, 181, 144] (by decide +kernel)
theorem wsL_law_c2 : ∀ w ∈ wsL_law0_r2, w ∈ lw_tbl := kmem_r _ [145, 33, 182, 163, 164, 34, 183, 55, 56, 57, 58, 66, 59, 69, 70, 71, 72, 73, 74, 31, 118, 95, 96, 32] (by decide +kernel)
theorem wsL_law_c3 : ∀ w ∈ wsL_law0_r3, w ∈ lw_tbl := kmem_r _ [121, 124, 75, 76, 77, 78, 79, 80, 81, 97, 98, 99, 100, 101, 102, 114, 116, 0, 117, 146, 147, 148, 149, 150] (by decide +kernel)
theorem wsL_law_c4 : ∀ w ∈ wsL_law0_r4, w ∈ lw_tbl := kmem_r _ [153, 152, 165, 166, 167, 168, 169, 171, 178, 172, 170, 819, 820, 821, 822, 830, 832, 833, 834, 836, 837, 838, 839, 823] (by decide +kernel)
theorem wsL_law_c5 : ∀ w ∈ wsL_law0_r5, w ∈ lw_tbl := kmem_r _ [824, 825, 826, 827, 828, 313, 314, 27, 315, 316, 317, 318, 319, 320, 321, 322, 39, 394, 40, 390, 391, 392, 393, 60] (by decide +kernel)
theorem wsL_law_c6 : ∀ w ∈ wsL_law0_r6, w ∈ lw_tbl := kmem_r _ [410, 411, 412, 413, 873, 874, 875, 876, 877, 831, 878, 879, 880, 881, 883, 12, 884, 829, 869, 870, 871, 872, 195, 196] (by decide +kernel)
theorem wsL_law_c7 : ∀ w ∈ wsL_law0_r7, w ∈ lw_tbl := kmem_r _ [197, 198, 199, 200, 201, 202, 885, 886, 887, 888, 203, 204, 205, 206, 207, 208, 209, 210, 211, 213, 1, 214, 215, 217] (by decide +kernel)
theorem wsL_law_c8 : ∀ w ∈ wsL_law0_r8, w ∈ lw_tbl := kmem_r _ [2, 218, 219, 220, 221, 222, 223, 224, 225, 226, 227, 889, 890, 891, 892, 893, 895, 13, 896, 841, 840, 897, 899, 14] (by decide +kernel)
theorem wsL_law_c9 : ∀ w ∈ wsL_law0_r9, w ∈ lw_tbl := kmem_r _ [900, 901, 903, 15, 904, 905, 907, 16, 908, 909, 910, 911, 912, 913, 915, 17, 916, 917, 918, 919, 920, 922, 18, 923] (by decide +kernel)
theorem wsL_law_c10 : ∀ w ∈ wsL_law0_r10, w ∈ lw_tbl := kmem_r _ [924, 925, 926, 927, 929, 19, 930, 931, 932, 933, 934, 936, 20, 937, 944, 945, 946, 947, 938, 939, 940, 941, 942, 943] (by decide +kernel)
theorem wsL_law_c11 : ∀ w ∈ wsL_law0_r11, w ∈ lw_tbl := kmem_r _ [948, 950, 21, 951, 952, 954, 22, 955, 956, 957, 958, 959, 960, 961, 962, 963, 964, 965, 966, 967, 968, 969, 970, 971] (by decide +kernel)
theorem wsL_law_c12 : ∀ w ∈ wsL_law0_r12, w ∈ lw_tbl := kmem_r _ [972, 973, 414, 415, 416, 417, 418, 419, 420, 422, 423, 424, 425, 125, 127, 129, 278, 279, 280, 281, 282, 283, 284, 285] (by decide +kernel)
theorem wsL_law_c13 : ∀ w ∈ wsL_law0_r13, w ∈ lw_tbl := kmem_r _ [103, 104, 426, 427, 428, 429, 154, 430, 431, 432, 433, 434, 435, 436, 437, 438, 440, 6, 441, 442, 443, 444, 445, 447] (by decide +kernel)
theorem wsL_law_c14 : ∀ w ∈ wsL_law0_r14, w ∈ lw_tbl := kmem_r _ [448, 450, 451, 452, 453, 454, 455, 456, 457, 458, 459, 460, 291, 292, 293, 461, 462, 463, 464, 82, 83, 465, 467, 7] (by decide +kernel)
theorem wsL_law_c15 : ∀ w ∈ wsL_law0_r15, w ∈ lw_tbl := kmem_r _ [468, 486, 252, 42, 253, 487, 488, 489, 469, 470, 471, 472, 473, 474, 475, 476, 479, 481, 8, 482, 483, 484, 41, 485] (by decide +kernel)
theorem wsL_law_c16 : ∀ w ∈ wsL_law0_r16, w ∈ lw_tbl := kmem_r _ [490, 492, 9, 493, 494, 495, 496, 497, 309, 311, 4, 312, 498, 499, 500, 501, 502, 503, 504, 505, 506, 507, 274, 275] (by decide +kernel)
theorem wsL_law_c17 : ∀ w ∈ wsL_law0_r17, w ∈ lw_tbl := kmem_r _ [276, 277, 266, 268, 3, 269, 270, 271, 272, 273, 508, 509, 510, 511, 512, 513, 514, 515, 516, 517, 518, 519, 520, 521] (by decide +kernel)
theorem wsL_law_c18 : ∀ w ∈ wsL_law0_r18, w ∈ lw_tbl := kmem_r _ [306, 307, 308, 522, 974, 975, 976, 977, 835, 978, 979, 980, 523, 524, 525, 526, 527, 528, 529, 530, 531, 532, 533, 534] (by decide +kernel)
theorem wsL_law_c19 : ∀ w ∈ wsL_law0_r19, w ∈ lw_tbl := kmem_r _ [535, 536, 537, 538, 539, 259, 260, 261, 262, 263, 264, 265, 540, 541, 542, 543, 544, 545, 546, 547, 548, 549, 981, 982] (by decide +kernel)
theorem wsL_law_c20 : ∀ w ∈ wsL_law0_r20, w ∈ lw_tbl := kmem_r _ [983, 984, 985, 986, 987, 988, 989, 990, 991, 992, 993, 994, 995, 996, 551, 552, 553, 554, 555, 556, 557, 558, 562, 43] (by decide +kernel)
theorem wsL_law_c21 : ∀ w ∈ wsL_law0_r21, w ∈ lw_tbl := kmem_r _ [559, 560, 561, 578, 579, 580, 581, 583, 584, 585, 586, 587, 997, 998, 999, 1000, 1001, 1002, 1003, 589, 590, 591, 592, 593] (by decide +kernel)
theorem wsL_law_c22 : ∀ w ∈ wsL_law0_r22, w ∈ lw_tbl := kmem_r _ [594, 595, 596, 597, 598, 600, 601, 1004, 1005, 1006, 1007, 603, 604, 605, 606, 607, 608, 609, 611, 1008, 1009, 1010, 1011, 612] (by decide +kernel)
theorem wsL_law_c23 : ∀ w ∈ wsL_law0_r23, w ∈ lw_tbl := kmem_r _ [613, 614, 615, 616, 617, 618, 619, 303, 304, 298, 299, 300, 301, 1012, 1013, 1014, 1015, 228, 229, 230, 231, 232, 233, 234] (by decide +kernel)
theorem wsL_law_c24 : ∀ w ∈ wsL_law0_r24, w ∈ lw_tbl := kmem_r _ [235, 155, 251, 236, 237, 42, 238, 239, 240, 241, 242, 243, 244, 245, 246, 247, 248, 249, 250, 254, 255, 256, 257, 258] (by decide +kernel)
theorem wsL_law_c25 : ∀ w ∈ wsL_law0_r25, w ∈ lw_tbl := kmem_r _ [1016, 1017, 1018, 1019, 1020, 1022, 23, 1023, 1024, 1025, 1026, 621, 622, 623, 624, 625, 626, 627, 628, 629, 632, 1027, 1028, 1029] (by decide +kernel)
theorem wsL_law_c26 : ∀ w ∈ wsL_law0_r26, w ∈ lw_tbl := kmem_r _ [1030, 1035, 1031, 1032, 1033, 1034, 633, 634, 635, 636, 637, 638, 639, 640, 641, 642, 644, 646, 647, 648, 649, 650, 1036, 1037] (by decide +kernel)
theorem wsL_law_c27 : ∀ w ∈ wsL_law0_r27, w ∈ lw_tbl := kmem_r _ [1038, 1039, 1040, 1041, 1042, 651, 652, 653, 654, 655, 656, 657, 658, 659, 660, 662, 663, 664, 665, 666, 1043, 1044, 1045, 1046] (by decide +kernel)
theorem wsL_law_c28 : ∀ w ∈ wsL_law0_r28, w ∈ lw_tbl := kmem_r _ [1047, 1048, 1049, 1050, 667, 668, 669, 670, 671, 672, 673, 674, 675, 676, 677, 679, 680, 681, 682, 683, 1051, 1052, 1053, 1054] (by decide +kernel)
theorem wsL_law_c29 : ∀ w ∈ wsL_law0_r29, w ∈ lw_tbl := kmem_r _ [684, 685, 686, 687, 688, 689, 690, 691, 693, 10, 694, 695, 696, 697, 698, 699, 700, 701, 702, 703, 704, 705, 706, 1055] (by decide +kernel)
theorem wsL_law_c30 : ∀ w ∈ wsL_law0_r30, w ∈ lw_tbl := kmem_r _ [1056, 1057, 1058, 1059, 1061, 24, 1062, 707, 708, 709, 710, 711, 712, 713, 1063, 1064, 1065, 1066, 286, 287, 288, 289, 290, 1067] (by decide +kernel)
theorem wsL_law_c31 : ∀ w ∈ wsL_law0_r31, w ∈ lw_tbl := kmem_r _ [1068, 1069, 1070, 715, 716, 717, 718, 719, 720, 721, 722, 1071, 1072, 1073, 1074, 294, 295, 296, 297, 305, 1075, 1076, 1077, 1078] (by decide +kernel)
theorem wsL_law_c32 : ∀ w ∈ wsL_law0_r32, w ∈ lw_tbl := kmem_r _ [723, 724, 725, 726, 727, 728, 729, 738, 731, 732, 44, 733, 734, 735, 736, 739, 740, 741, 756, 742, 743, 744, 745, 746] (by decide +kernel)
theorem wsL_law_c33 : ∀ w ∈ wsL_law0_r33, w ∈ lw_tbl := kmem_r _ [748, 749, 750, 751, 752, 753, 755, 757, 758, 759, 760, 761, 762, 763, 764, 765, 1079, 1080, 1081, 1082, 1083, 1084, 1086, 25] (by decide +kernel)
theorem wsL_law_c34 : ∀ w ∈ wsL_law0_r34, w ∈ lw_tbl := kmem_r _ [1087, 766, 767, 768, 769, 770, 771, 772, 774, 775, 776, 778, 11, 779, 780, 781, 782, 1088, 1089, 1090, 1091, 1092, 1093, 1094] (by decide +kernel)
theorem wsL_law_c35 : ∀ w ∈ wsL_law0_r35, w ∈ lw_tbl := kmem_r _ [1095, 1097, 26, 1098, 783, 784, 785, 786, 787, 788, 789, 790, 791, 792, 794, 795, 796, 797, 799, 1099, 1100, 1101, 1102, 800] (by decide +kernel)
theorem wsL_law_c36 : ∀ w ∈ wsL_law0_r36, w ∈ lw_tbl := kmem_r _ [801, 802, 803, 804, 805, 806, 807, 808, 809, 810, 812, 813, 814, 815, 816, 1103, 1104, 1105, 1106] (by decide +kernel)
theorem wsL_law_kX7 : ∀ w ∈ wsX70, w ∈ lw_tbl := by decide +kernel
theorem wsL_law_kX8 : ∀ w ∈ wsX80, w ∈ lw_tbl := by decide +kernel
theorem wsL_law_kX0 : ∀ w ∈ wsX00, w ∈ lw_tbl := by decide +kernel
theorem wsL_law_kX6 : ∀ w ∈ wsX60, w ∈ lw_tbl := by decide +kernel
theorem wsL_law_kX1 : ∀ w ∈ wsX10, w ∈ lw_tbl := by decide +kernel
theorem wsL_law_kX5 : ∀ w ∈ wsX50, w ∈ lw_tbl := by decide +kernel
theorem wsL_law_kX2 : ∀ w ∈ wsX20, w ∈ lw_tbl := by decide +kernel
theorem wsL_law_kX4 : ∀ w ∈ wsX40, w ∈ lw_tbl := by decide +kernel
theorem wsL_law_in0 : ∀ w ∈ wsL_law0, w ∈ lw_tbl := by unfold wsL_law0; exact (fun w h => (List.mem_append.mp h).elim ((fun w h => (List.mem_append.mp h).elim ((fun w h => (List.mem_append.mp h).elim ((fun w h => (List.mem_append.mp h).elim ((fun w h => (List.mem_append.mp h).elim ((fun w h => (List.mem_append.mp h).elim ((fun w h => (List.mem_append.mp h).elim ((fun w h => (List.mem_append.mp h).elim ((fun w h => (List.mem_append.mp h).elim ((fun w h => (List.mem_append.mp h).elim (wsL_law_c1 w) ((fun w h => (List.mem_append.mp h).elim (wsL_law_c2 w) ((fun w h => (List.mem_append.mp h).elim (wsL_law_c3 w) ((fun w h => (List.mem_append.mp h).elim (wsL_law_c4 w) ((fun w h => (List.mem_append.mp h).elim (wsL_law_c5 w) ((fun w h => (List.mem_append.mp h).elim (wsL_law_c6 w) ((fun w h => (List.mem_append.mp h).elim (wsL_law_c7 w) ((fun w h => (List.mem_append.mp h).elim (wsL_law_c8 w) ((fun w h => (List.mem_append.mp h).elim (wsL_law_c9 w) ((fun w h => (List.mem_append.mp h).elim (wsL_law_c10 w) ((fun w h => (List.mem_append.mp h).elim (wsL_law_c11 w) ((fun w h => (List.mem_append.mp h).elim (wsL_law_c12 w) ((fun w h => (List.mem_append.mp h).elim (wsL_law_c13 w) ((fun w h => (List.mem_append.mp h).elim (wsL_law_c14 w) ((fun w h => (List.mem_append.mp h).elim (wsL_law_c15 w) ((fun w h => (List.mem_append.mp h).elim (wsL_law_c16 w) ((fun w h => (List.mem_append.mp h).elim (wsL_law_c17 w) ((fun w h => (List.mem_append.mp h).elim (wsL_law_c18 w) ((fun w h => (List.mem_append.mp h).elim (wsL_law_c19 w) ((fun w h => (List.mem_append.mp h).elim (wsL_law_c20 w) ((fun w h => (List.mem_append.mp h).elim (wsL_law_c21 w) ((fun w h => (List.mem_append.mp h).elim (wsL_law_c22 w) ((fun w h => (List.mem_append.mp h).elim (wsL_law_c23 w) ((fun w h => (List.mem_append.mp h).elim (wsL_law_c24 w) ((fun w h => (List.mem_append.mp h).elim (wsL_law_c25 w) ((fun w h => (List.mem_append.mp h).elim (wsL_law_c26 w) ((fun w h => (List.mem_append.mp h).elim (wsL_law_c27 w) ((fun w h => (List.mem_append.mp h).elim (wsL_law_c28 w) ((fun w h => (List.mem_append.mp h).elim (wsL_law_c29 w) ((fun w h => (List.mem_append.mp h).elim (wsL_law_c30 w) ((fun w h => (List.mem_append.mp h).elim (wsL_law_c31 w) ((fun w h => (List.mem_append.mp h).elim (wsL_law_c32 w) ((fun w h => (List.mem_append.mp h).elim (wsL_law_c33 w) ((fun w h => (List.mem_append.mp h).elim (wsL_law_c34 w) ((fun w h => (List.mem_append.mp h).elim (wsL_law_c35 w) (wsL_law_c36 w)) w)) w)) w)) w)) w)) w)) w)) w)) w)) w)) w)) w)) w)) w)) w)) w)) w)) w)) w)) w)) w)) w)) w)) w)) w)) w)) w)) w)) w)) w)) w)) w)) w)) w)) w) (wsL_law_kX7 w)) w) (wsL_law_kX8 w)) w) (wsL_law_kX0 w)) w) (wsL_law_kX6 w)) w) (wsL_law_kX1 w)) w) (wsL_law_kX5 w)) w) (wsL_law_kX2 w)) w) (wsL_law_kX4 w)) w) ((fun _ h => absurd h List.not_mem_nil) w))
theorem wsL_law_x0 : ∀ w ∈ (vx_atS RX7 44 "java/lang/IllegalArgumentException" ["java/lang/RuntimeException", "java/lang/Exception"]).filter goodWord, w ∈ lw_tbl := by decide +kernel
theorem wsL_law_x1 : ∀ w ∈ (vx_atS RX7 55 "java/lang/IllegalStateException" ["java/lang/RuntimeException", "java/lang/Exception"]).filter goodWord, w ∈ lw_tbl := by decide +kernel
theorem wsL_law_x2 : ∀ w ∈ (vx_atS RX7 138 "java/lang/IndexOutOfBoundsException" ["java/lang/RuntimeException", "java/lang/Exception"]).filter goodWord, w ∈ lw_tbl := by decide +kernel
theorem wsL_law_in : ∀ w ∈ wsL_law, w ∈ lw_tbl := fun w h => (List.mem_append.mp h).elim (fun h => (List.mem_append.mp h).elim (fun h => (List.mem_append.mp h).elim (fun h => wsL_law_in0 w h) (fun h => wsL_law_x0 w h)) (fun h => wsL_law_x1 w h)) (fun h => wsL_law_x2 w h)
theorem inlX0 : ∀ w ∈ wsX00, w ∈ wsL_law := fun _ h => List.mem_append_left _ (List.mem_append_left _ (List.mem_append_left _ (List.mem_append_left _ (List.mem_append_left _ (List.mem_append_left _ (List.mem_append_left _ (List.mem_append_left _ (List.mem_append_left _ (List.mem_append_right _ h)))))))))
theorem inX0 : ∀ w ∈ wsX00, w ∈ lw_tbl := fun w h => wsL_law_in w (inlX0 w h)
theorem inlX1 : ∀ w ∈ wsX10, w ∈ wsL_law := fun _ h => List.mem_append_left _ (List.mem_append_left _ (List.mem_append_left _ (List.mem_append_left _ (List.mem_append_left _ (List.mem_append_left _ (List.mem_append_left _ (List.mem_append_right _ h)))))))
theorem inX1 : ∀ w ∈ wsX10, w ∈ lw_tbl := fun w h => wsL_law_in w (inlX1 w h)
theorem inlX2 : ∀ w ∈ wsX20, w ∈ wsL_law := fun _ h => List.mem_append_left _ (List.mem_append_left _ (List.mem_append_left _ (List.mem_append_left _ (List.mem_append_left _ (List.mem_append_right _ h)))))
theorem inX2 : ∀ w ∈ wsX20, w ∈ lw_tbl := fun w h => wsL_law_in w (inlX2 w h)
theorem inX3 : ∀ w ∈ wsX30, w ∈ lw_tbl := by decide +kernel
theorem inlX4 : ∀ w ∈ wsX40, w ∈ wsL_law := fun _ h => List.mem_append_left _ (List.mem_append_left _ (List.mem_append_left _ (List.mem_append_left _ (List.mem_append_right _ h))))
theorem inX4 : ∀ w ∈ wsX40, w ∈ lw_tbl := fun w h => wsL_law_in w (inlX4 w h)
theorem inlX5 : ∀ w ∈ wsX50, w ∈ wsL_law := fun _ h => List.mem_append_left _ (List.mem_append_left _ (List.mem_append_left _ (List.mem_append_left _ (List.mem_append_left _ (List.mem_append_left _ (List.mem_append_right _ h))))))
theorem inX5 : ∀ w ∈ wsX50, w ∈ lw_tbl := fun w h => wsL_law_in w (inlX5 w h)
theorem inlX6 : ∀ w ∈ wsX60, w ∈ wsL_law := fun _ h => List.mem_append_left _ (List.mem_append_left _ (List.mem_append_left _ (List.mem_append_left _ (List.mem_append_left _ (List.mem_append_left _ (List.mem_append_left _ (List.mem_append_left _ (List.mem_append_right _ h))))))))
theorem inX6 : ∀ w ∈ wsX60, w ∈ lw_tbl := fun w h => wsL_law_in w (inlX6 w h)
theorem inlX7 : ∀ w ∈ wsX70, w ∈ wsL_law := fun _ h => List.mem_append_left _ (List.mem_append_left _ (List.mem_append_left _ (List.mem_append_left _ (List.mem_append_left _ (List.mem_append_left _ (List.mem_append_left _ (List.mem_append_left _ (List.mem_append_left _ (List.mem_append_left _ (List.mem_append_left _ (List.mem_append_right _ h)))))))))))
theorem inX7 : ∀ w ∈ wsX70, w ∈ lw_tbl := fun w h => wsL_law_in w (inlX7 w h)
theorem inlX8 : ∀ w ∈ wsX80, w ∈ wsL_law := fun _ h => List.mem_append_left _ (List.mem_append_left _ (List.mem_append_left _ (List.mem_append_left _ (List.mem_append_left _ (List.mem_append_left _ (List.mem_append_left _ (List.mem_append_left _ (List.mem_append_left _ (List.mem_append_left _ (List.mem_append_right _ h))))))))))
theorem inX8 : ∀ w ∈ wsX80, w ∈ lw_tbl := fun w h => wsL_law_in w (inlX8 w h)
theorem inJ6 : ∀ w ∈ wsJ60, w ∈ lw_tbl := by decide +kernel
theorem inJ9 : ∀ w ∈ wsJ90, w ∈ lw_tbl := by decide +kernel
theorem inJ0 : ∀ w ∈ wsJ00, w ∈ lw_tbl := by decide +kernel
set_option maxRecDepth 20000 in
theorem ggL_append_X7_append : GoodIn wsL_append wsX7_append := goodIn_ca (goodIn_ca (goodIn_r _ [7, 8, 9, 10, 11, 12, 13, 14, 15, 16, 17, 18, 19, 20, 21, 22, 23, 24, 25, 26, 27, 28, 29, 30] (by decide +kernel) (by decide +kernel)) (goodIn_sub (fun _ h => List.mem_cons_of_mem _ (List.mem_append_left _ (List.mem_append_right _ h))) (by decide +kernel))) (goodIn_sub (fun _ h => List.mem_cons_of_mem _ (List.mem_append_right _ h)) (by decide +kernel))
set_option maxRecDepth 20000 in
theorem gL_append_X7_append : GoodIn wsL_append (wsV RL 7 RX7 yX7_append wsX7_append) := goodIn_app (goodIn_of _ (by decide +kernel)) ggL_append_X7_append
theorem dL_append_0 : decode cL_append 0 = .ok (.aload_n 2, 1) := by decide +kernel
theorem dL_append_1 : decode cL_append 1 = .ok (.iconst 0, 1) := by decide +kernel
theorem dL_append_2 : decode cL_append 2 = .ok (.aload_n 0, 1) := by decide +kernel
theorem dL_append_3 : decode cL_append 3 = .ok (.iload_n 1, 1) := by decide +kernel
theorem dL_append_4 : decode cL_append 4 = .ok (.invokevirtual 7, 3) := by decide +kernel
theorem dL_append_7 : decode cL_append 7 = .ok (.i2l, 1) := by decide +kernel
theorem dL_append_8 : decode cL_append 8 = .ok (.lastore, 1) := by decide +kernel
theorem dL_append_9 : decode cL_append 9 = .ok (.goto 9, 3) := by decide +kernel
theorem dL_append_12 : decode cL_append 12 = .ok (.astore_n 3, 1) := by decide +kernel
theorem dL_append_13 : decode cL_append 13 = .ok (.iconst 1, 1) := by decide +kernel
theorem dL_append_14 : decode cL_append 14 = .ok (.ireturn, 1) := by decide +kernel
theorem dL_append_15 : decode cL_append 15 = .ok (.astore_n 3, 1) := by decide +kernel
theorem dL_append_16 : decode cL_append 16 = .ok (.iconst 2, 1) := by decide +kernel
theorem dL_append_17 : decode cL_append 17 = .ok (.ireturn, 1) := by decide +kernel
theorem dL_append_18 : decode cL_append 18 = .ok (.iconst 0, 1) := by decide +kernel
theorem dL_append_19 : decode cL_append 19 = .ok (.ireturn, 1) := by decide +kernel
set_option maxRecDepth 20000 in
theorem ggL_load_X7_load : GoodIn wsL_load wsX7_load := goodIn_ca (goodIn_r _ [6, 7, 8, 9, 10, 11, 12, 13, 14, 15, 16, 17, 18, 19, 20, 21, 22, 23, 24, 25, 26, 27, 28, 29, 30, 31, 32, 33, 34, 35, 36, 37, 38, 39, 40, 41, 42, 43, 44, 45, 46, 47, 48, 49, 50, 51, 52, 53, 54, 55, 56, 57, 58, 59, 60, 61, 62, 63, 64, 65, 66, 67, 68, 69, 70, 71, 72, 73, 74, 75, 76, 77, 78, 79, 80, 81, 82, 83, 84, 85, 86, 87, 88, 89, 90, 91, 5, 92, 93, 94, 95, 96, 97, 98, 99, 100, 101, 102, 103, 104, 105, 106, 107, 108, 109, 110, 111, 112, 113, 114, 115, 116, 117, 118, 119, 120, 121, 122, 123, 124, 125, 126, 127, 128, 129, 130, 131, 132, 133, 134, 135, 136, 137, 138, 139, 140, 141, 142, 143, 144, 145, 146, 147, 148, 149, 150, 151, 152, 153, 154, 155, 156, 157, 158, 159, 160, 161, 162, 163, 164, 165, 166, 167, 168, 169, 170, 171, 172, 173, 174, 175, 176, 177, 178, 179, 180, 181, 182, 183, 184, 185, 186, 187, 188, 189, 190, 191, 192, 193, 194, 195, 196, 197, 198, 199, 200, 201, 202, 203, 204, 205, 206, 207, 208, 209, 210, 211, 212, 213, 214, 215, 216, 217, 218, 219, 220] (by decide +kernel) (by decide +kernel)) (goodIn_sub (fun _ h => List.mem_cons_of_mem _ (List.mem_append_right _ h)) (by decide +kernel))
set_option maxRecDepth 20000 in
theorem gL_load_X7_load : GoodIn wsL_load (wsV RL 17 RX7 yX7_load wsX7_load) := goodIn_app (goodIn_of _ (by decide +kernel)) ggL_load_X7_load
theorem dL_load_0 : decode cL_load 0 = .ok (.aload_n 1, 1) := by decide +kernel
theorem dL_load_1 : decode cL_load 1 = .ok (.iconst 0, 1) := by decide +kernel
theorem dL_load_2 : decode cL_load 2 = .ok (.aload_n 0, 1) := by decide +kernel
theorem dL_load_3 : decode cL_load 3 = .ok (.invokevirtual 17, 3) := by decide +kernel
theorem dL_load_6 : decode cL_load 6 = .ok (.i2l, 1) := by decide +kernel
theorem dL_load_7 : decode cL_load 7 = .ok (.lastore, 1) := by decide +kernel
theorem dL_load_8 : decode cL_load 8 = .ok (.goto 6, 3) := by decide +kernel
theorem dL_load_11 : decode cL_load 11 = .ok (.astore_n 2, 1) := by decide +kernel
theorem dL_load_12 : decode cL_load 12 = .ok (.iconst 1, 1) := by decide +kernel
theorem dL_load_13 : decode cL_load 13 = .ok (.ireturn, 1) := by decide +kernel
theorem dL_load_14 : decode cL_load 14 = .ok (.iconst 0, 1) := by decide +kernel
theorem dL_load_15 : decode cL_load 15 = .ok (.ireturn, 1) := by decide +kernel
set_option maxRecDepth 20000 in
theorem ggL_about_X7_about : GoodIn wsL_about wsX7_about := goodIn_ca (goodIn_r _ [6, 7, 8, 9, 10, 11, 12, 13, 14, 15, 16, 17, 18, 19, 20, 21, 22, 23, 24, 25, 26, 27, 28, 29, 30, 31, 32, 33, 34, 35, 36, 37, 38, 39, 40, 41, 42, 43, 44, 45, 46, 47, 48, 49, 50, 51, 52, 53, 54, 55, 56, 57, 58, 59, 60, 61, 62, 63, 64, 65, 66, 67, 68, 69, 70, 71, 72, 73, 74, 75, 76, 77, 78, 79, 80, 81, 82, 83, 84, 85, 86, 87, 88, 89, 90, 91, 92] (by decide +kernel) (by decide +kernel)) (goodIn_sub (fun _ h => List.mem_cons_of_mem _ (List.mem_append_right _ h)) (by decide +kernel))
set_option maxRecDepth 20000 in
theorem gL_about_X7_about : GoodIn wsL_about (wsV RL 21 RX7 yX7_about wsX7_about) := goodIn_app (goodIn_of _ (by decide +kernel)) ggL_about_X7_about
theorem dL_about_0 : decode cL_about 0 = .ok (.aload_n 2, 1) := by decide +kernel
theorem dL_about_1 : decode cL_about 1 = .ok (.iconst 0, 1) := by decide +kernel
theorem dL_about_2 : decode cL_about 2 = .ok (.aload_n 0, 1) := by decide +kernel
theorem dL_about_3 : decode cL_about 3 = .ok (.iload_n 1, 1) := by decide +kernel
theorem dL_about_4 : decode cL_about 4 = .ok (.invokevirtual 21, 3) := by decide +kernel
theorem dL_about_7 : decode cL_about 7 = .ok (.i2l, 1) := by decide +kernel
theorem dL_about_8 : decode cL_about 8 = .ok (.lastore, 1) := by decide +kernel
theorem dL_about_9 : decode cL_about 9 = .ok (.goto 6, 3) := by decide +kernel
theorem dL_about_12 : decode cL_about 12 = .ok (.astore_n 3, 1) := by decide +kernel
theorem dL_about_13 : decode cL_about 13 = .ok (.iconst 1, 1) := by decide +kernel
theorem dL_about_14 : decode cL_about 14 = .ok (.ireturn, 1) := by decide +kernel
theorem dL_about_15 : decode cL_about 15 = .ok (.iconst 0, 1) := by decide +kernel
theorem dL_about_16 : decode cL_about 16 = .ok (.ireturn, 1) := by decide +kernel
set_option maxRecDepth 20000 in
theorem ggL_pin_X7_pin : GoodIn wsL_pin wsX7_pin := goodIn_ca (goodIn_ca (goodIn_r _ [7, 8, 9, 10, 11, 12, 13, 14, 6, 15, 16, 17, 18, 19, 20, 21, 22, 23, 24, 25, 26, 27, 28, 29, 30, 31, 32, 33, 34, 35, 36, 37, 38, 39, 40, 41, 42, 43, 44, 45, 46, 47, 48, 49, 50, 51] (by decide +kernel) (by decide +kernel)) (goodIn_sub (fun _ h => List.mem_cons_of_mem _ (List.mem_append_left _ (List.mem_append_right _ h))) (by decide +kernel))) (goodIn_sub (fun _ h => List.mem_cons_of_mem _ (List.mem_append_right _ h)) (by decide +kernel))
set_option maxRecDepth 20000 in
theorem gL_pin_X7_pin : GoodIn wsL_pin (wsV RL 24 RX7 yX7_pin wsX7_pin) := goodIn_app (goodIn_of _ (by decide +kernel)) ggL_pin_X7_pin
theorem dL_pin_0 : decode cL_pin 0 = .ok (.aload_n 3, 1) := by decide +kernel
theorem dL_pin_1 : decode cL_pin 1 = .ok (.iconst 0, 1) := by decide +kernel
theorem dL_pin_2 : decode cL_pin 2 = .ok (.aload_n 0, 1) := by decide +kernel
theorem dL_pin_3 : decode cL_pin 3 = .ok (.iload_n 1, 1) := by decide +kernel
theorem dL_pin_4 : decode cL_pin 4 = .ok (.iload_n 2, 1) := by decide +kernel
theorem dL_pin_5 : decode cL_pin 5 = .ok (.invokevirtual 24, 3) := by decide +kernel
theorem dL_pin_8 : decode cL_pin 8 = .ok (.i2l, 1) := by decide +kernel
theorem dL_pin_9 : decode cL_pin 9 = .ok (.lastore, 1) := by decide +kernel
theorem dL_pin_10 : decode cL_pin 10 = .ok (.goto 11, 3) := by decide +kernel
theorem dL_pin_13 : decode cL_pin 13 = .ok (.astore 4, 2) := by decide +kernel
theorem dL_pin_15 : decode cL_pin 15 = .ok (.iconst 1, 1) := by decide +kernel
theorem dL_pin_16 : decode cL_pin 16 = .ok (.ireturn, 1) := by decide +kernel
theorem dL_pin_17 : decode cL_pin 17 = .ok (.astore 4, 2) := by decide +kernel
theorem dL_pin_19 : decode cL_pin 19 = .ok (.iconst 2, 1) := by decide +kernel
theorem dL_pin_20 : decode cL_pin 20 = .ok (.ireturn, 1) := by decide +kernel
theorem dL_pin_21 : decode cL_pin 21 = .ok (.iconst 0, 1) := by decide +kernel
theorem dL_pin_22 : decode cL_pin 22 = .ok (.ireturn, 1) := by decide +kernel
set_option maxRecDepth 20000 in
theorem ggL_frame_X7_frame : GoodIn wsL_frame wsX7_frame := goodIn_ca (goodIn_ca (goodIn_r _ [7, 8, 9, 10, 11, 12, 13, 14, 6, 15, 16, 17, 18, 19, 20, 21, 22, 23, 24, 25, 26, 27, 28, 29, 30, 31, 32, 33, 34, 35, 36, 37, 38, 39, 40, 41, 42, 43, 44, 45, 46, 47, 48, 49, 50, 51, 52, 53, 54, 55, 56] (by decide +kernel) (by decide +kernel)) (goodIn_sub (fun _ h => List.mem_cons_of_mem _ (List.mem_append_left _ (List.mem_append_right _ h))) (by decide +kernel))) (goodIn_sub (fun _ h => List.mem_cons_of_mem _ (List.mem_append_right _ h)) (by decide +kernel))
set_option maxRecDepth 20000 in
theorem gL_frame_X7_frame : GoodIn wsL_frame (wsV RL 30 RX7 yX7_frame wsX7_frame) := goodIn_app (goodIn_of _ (by decide +kernel)) ggL_frame_X7_frame
theorem dL_frame_0 : decode cL_frame 0 = .ok (.aload_n 3, 1) := by decide +kernel
theorem dL_frame_1 : decode cL_frame 1 = .ok (.iconst 0, 1) := by decide +kernel
theorem dL_frame_2 : decode cL_frame 2 = .ok (.aload_n 0, 1) := by decide +kernel
theorem dL_frame_3 : decode cL_frame 3 = .ok (.iload_n 1, 1) := by decide +kernel
theorem dL_frame_4 : decode cL_frame 4 = .ok (.iload_n 2, 1) := by decide +kernel
theorem dL_frame_5 : decode cL_frame 5 = .ok (.invokevirtual 30, 3) := by decide +kernel
theorem dL_frame_8 : decode cL_frame 8 = .ok (.i2l, 1) := by decide +kernel
theorem dL_frame_9 : decode cL_frame 9 = .ok (.lastore, 1) := by decide +kernel
theorem dL_frame_10 : decode cL_frame 10 = .ok (.goto 11, 3) := by decide +kernel
theorem dL_frame_13 : decode cL_frame 13 = .ok (.astore 4, 2) := by decide +kernel
theorem dL_frame_15 : decode cL_frame 15 = .ok (.iconst 1, 1) := by decide +kernel
theorem dL_frame_16 : decode cL_frame 16 = .ok (.ireturn, 1) := by decide +kernel
theorem dL_frame_17 : decode cL_frame 17 = .ok (.astore 4, 2) := by decide +kernel
theorem dL_frame_19 : decode cL_frame 19 = .ok (.iconst 2, 1) := by decide +kernel
theorem dL_frame_20 : decode cL_frame 20 = .ok (.ireturn, 1) := by decide +kernel
theorem dL_frame_21 : decode cL_frame 21 = .ok (.iconst 0, 1) := by decide +kernel
theorem dL_frame_22 : decode cL_frame 22 = .ok (.ireturn, 1) := by decide +kernel
set_option maxRecDepth 20000 in
theorem ggL_taken_X7_taken : GoodIn wsL_taken wsX7_taken := goodIn_ca (goodIn_r _ [6, 7, 8, 9, 10, 11, 12, 13, 14, 15, 16, 17, 18, 19, 20, 21, 22, 23, 24, 25, 26, 27, 28, 29, 30, 31, 32, 33, 34, 35] (by decide +kernel) (by decide +kernel)) (goodIn_sub (fun _ h => List.mem_cons_of_mem _ (List.mem_append_right _ h)) (by decide +kernel))
set_option maxRecDepth 20000 in
theorem gL_taken_X7_taken : GoodIn wsL_taken (wsV RL 33 RX7 yX7_taken wsX7_taken) := goodIn_app (goodIn_of _ (by decide +kernel)) ggL_taken_X7_taken
theorem dL_taken_0 : decode cL_taken 0 = .ok (.aload_n 2, 1) := by decide +kernel
theorem dL_taken_1 : decode cL_taken 1 = .ok (.iconst 0, 1) := by decide +kernel
theorem dL_taken_2 : decode cL_taken 2 = .ok (.aload_n 0, 1) := by decide +kernel
theorem dL_taken_3 : decode cL_taken 3 = .ok (.iload_n 1, 1) := by decide +kernel
theorem dL_taken_4 : decode cL_taken 4 = .ok (.invokevirtual 33, 3) := by decide +kernel
theorem dL_taken_7 : decode cL_taken 7 = .ok (.i2l, 1) := by decide +kernel
theorem dL_taken_8 : decode cL_taken 8 = .ok (.lastore, 1) := by decide +kernel
theorem dL_taken_9 : decode cL_taken 9 = .ok (.goto 6, 3) := by decide +kernel
theorem dL_taken_12 : decode cL_taken 12 = .ok (.astore_n 3, 1) := by decide +kernel
theorem dL_taken_13 : decode cL_taken 13 = .ok (.iconst 1, 1) := by decide +kernel
theorem dL_taken_14 : decode cL_taken 14 = .ok (.ireturn, 1) := by decide +kernel
theorem dL_taken_15 : decode cL_taken 15 = .ok (.iconst 0, 1) := by decide +kernel
theorem dL_taken_16 : decode cL_taken 16 = .ok (.ireturn, 1) := by decide +kernel
set_option maxRecDepth 20000 in
theorem ggL_setting_X7_setting : GoodIn wsL_setting wsX7_setting := goodIn_ca (goodIn_r _ [6, 7, 8, 9, 10, 11, 5, 12, 13, 14, 15, 16, 17, 18, 19, 20, 21, 22, 23, 24, 25, 26, 27, 28, 29] (by decide +kernel) (by decide +kernel)) (goodIn_sub (fun _ h => List.mem_cons_of_mem _ (List.mem_append_right _ h)) (by decide +kernel))
set_option maxRecDepth 20000 in
theorem gL_setting_X7_setting : GoodIn wsL_setting (wsV RL 36 RX7 yX7_setting wsX7_setting) := goodIn_app (goodIn_of _ (by decide +kernel)) ggL_setting_X7_setting
theorem dL_setting_0 : decode cL_setting 0 = .ok (.aload_n 2, 1) := by decide +kernel
theorem dL_setting_1 : decode cL_setting 1 = .ok (.iconst 0, 1) := by decide +kernel
theorem dL_setting_2 : decode cL_setting 2 = .ok (.aload_n 0, 1) := by decide +kernel
theorem dL_setting_3 : decode cL_setting 3 = .ok (.iload_n 1, 1) := by decide +kernel
theorem dL_setting_4 : decode cL_setting 4 = .ok (.invokevirtual 36, 3) := by decide +kernel
theorem dL_setting_7 : decode cL_setting 7 = .ok (.i2l, 1) := by decide +kernel
theorem dL_setting_8 : decode cL_setting 8 = .ok (.lastore, 1) := by decide +kernel
theorem dL_setting_9 : decode cL_setting 9 = .ok (.goto 6, 3) := by decide +kernel
theorem dL_setting_12 : decode cL_setting 12 = .ok (.astore_n 3, 1) := by decide +kernel
theorem dL_setting_13 : decode cL_setting 13 = .ok (.iconst 1, 1) := by decide +kernel
theorem dL_setting_14 : decode cL_setting 14 = .ok (.ireturn, 1) := by decide +kernel
theorem dL_setting_15 : decode cL_setting 15 = .ok (.iconst 0, 1) := by decide +kernel
theorem dL_setting_16 : decode cL_setting 16 = .ok (.ireturn, 1) := by decide +kernel
set_option maxRecDepth 20000 in
theorem ggL_roll_X7_roll : GoodIn wsL_roll wsX7_roll := goodIn_ca (goodIn_ca (goodIn_r _ [7, 8, 9, 10, 11, 12, 13, 14, 15, 6, 16, 17, 18, 19, 20, 21, 22, 23, 24, 25, 26, 27, 28, 29, 30, 31, 32, 33, 34, 35, 36, 37, 38, 39, 40, 41, 42, 43, 44, 45, 46, 47, 48, 49, 50, 51, 52, 53, 54, 55, 56, 57, 58, 59, 60, 61, 62, 63, 64, 65, 66, 67, 68, 69, 70, 71, 72, 73, 74, 75, 76, 77, 78, 79, 80, 81, 82, 83, 84, 85, 86, 87, 88, 89, 90, 91, 92, 93, 94, 95, 96, 97, 98, 99, 100, 101, 102, 103, 104, 105, 106, 107, 108, 109, 110, 111, 112, 113, 114, 115, 116, 117, 118, 119, 120, 121, 122, 123, 124, 125, 126, 127, 128, 129, 130, 131, 132, 133, 134, 135, 136, 137, 138, 139, 140, 141, 142, 143, 144, 145, 146, 147, 148, 149, 150, 151, 152, 153, 154, 155, 156, 157, 158, 159, 160, 161, 162, 163, 164, 165, 166, 167, 168, 169, 170, 171, 172, 173, 174, 175, 176, 177, 178, 179, 180, 181, 182, 183, 184, 185] (by decide +kernel) (by decide +kernel)) (goodIn_sub (fun _ h => List.mem_cons_of_mem _ (List.mem_append_left _ (List.mem_append_right _ h))) (by decide +kernel))) (goodIn_sub (fun _ h => List.mem_cons_of_mem _ (List.mem_append_right _ h)) (by decide +kernel))
set_option maxRecDepth 20000 in
theorem gL_roll_X7_roll : GoodIn wsL_roll (wsV RL 39 RX7 yX7_roll wsX7_roll) := goodIn_app (goodIn_of _ (by decide +kernel)) ggL_roll_X7_roll
theorem dL_roll_0 : decode cL_roll 0 = .ok (.aload 5, 2) := by decide +kernel
theorem dL_roll_2 : decode cL_roll 2 = .ok (.iconst 0, 1) := by decide +kernel
theorem dL_roll_3 : decode cL_roll 3 = .ok (.aload_n 0, 1) := by decide +kernel
theorem dL_roll_4 : decode cL_roll 4 = .ok (.iload_n 1, 1) := by decide +kernel
theorem dL_roll_5 : decode cL_roll 5 = .ok (.iload_n 2, 1) := by decide +kernel
theorem dL_roll_6 : decode cL_roll 6 = .ok (.iload_n 3, 1) := by decide +kernel
theorem dL_roll_7 : decode cL_roll 7 = .ok (.iload 4, 2) := by decide +kernel
theorem dL_roll_9 : decode cL_roll 9 = .ok (.invokevirtual 39, 3) := by decide +kernel
theorem dL_roll_12 : decode cL_roll 12 = .ok (.i2l, 1) := by decide +kernel
theorem dL_roll_13 : decode cL_roll 13 = .ok (.lastore, 1) := by decide +kernel
theorem dL_roll_14 : decode cL_roll 14 = .ok (.goto 11, 3) := by decide +kernel
theorem dL_roll_17 : decode cL_roll 17 = .ok (.astore 6, 2) := by decide +kernel
theorem dL_roll_19 : decode cL_roll 19 = .ok (.iconst 1, 1) := by decide +kernel
theorem dL_roll_20 : decode cL_roll 20 = .ok (.ireturn, 1) := by decide +kernel
theorem dL_roll_21 : decode cL_roll 21 = .ok (.astore 6, 2) := by decide +kernel
theorem dL_roll_23 : decode cL_roll 23 = .ok (.iconst 2, 1) := by decide +kernel
theorem dL_roll_24 : decode cL_roll 24 = .ok (.ireturn, 1) := by decide +kernel
theorem dL_roll_25 : decode cL_roll 25 = .ok (.iconst 0, 1) := by decide +kernel
theorem dL_roll_26 : decode cL_roll 26 = .ok (.ireturn, 1) := by decide +kernel
set_option maxRecDepth 20000 in
theorem ggL_touch_X7_touch : GoodIn wsL_touch wsX7_touch := goodIn_ca (goodIn_ca (goodIn_ca (goodIn_r _ [8, 9, 10, 11, 12, 13, 14, 15, 16, 17, 18, 7, 19, 20, 21, 22, 23, 24, 25, 26, 27, 28, 29, 30, 31, 32, 33, 34, 35, 36, 37, 38, 39, 40, 41, 42, 43, 44, 45, 46, 47, 48, 49, 50, 51, 52, 53, 54, 55, 56, 57, 58, 59, 60, 61, 62, 63, 64, 65, 66, 67, 68, 69, 70, 71, 72, 73, 74, 75, 76, 77, 78, 79, 80, 81, 82, 83, 84, 85, 86, 87, 88, 89, 90, 91, 92, 93, 94, 95, 96, 97, 98, 99, 100, 101, 102] (by decide +kernel) (by decide +kernel)) (goodIn_sub (fun _ h => List.mem_cons_of_mem _ (List.mem_append_left _ (List.mem_append_left _ (List.mem_append_right _ h)))) (by decide +kernel))) (goodIn_sub (fun _ h => List.mem_cons_of_mem _ (List.mem_append_left _ (List.mem_append_right _ h))) (by decide +kernel))) (goodIn_sub (fun _ h => List.mem_cons_of_mem _ (List.mem_append_right _ h)) (by decide +kernel))
set_option maxRecDepth 20000 in
theorem gL_touch_X7_touch : GoodIn wsL_touch (wsV RL 43 RX7 yX7_touch wsX7_touch) := goodIn_app (goodIn_of _ (by decide +kernel)) ggL_touch_X7_touch
theorem dL_touch_0 : decode cL_touch 0 = .ok (.aload_n 3, 1) := by decide +kernel
theorem dL_touch_1 : decode cL_touch 1 = .ok (.iconst 0, 1) := by decide +kernel
theorem dL_touch_2 : decode cL_touch 2 = .ok (.aload_n 0, 1) := by decide +kernel
theorem dL_touch_3 : decode cL_touch 3 = .ok (.iload_n 1, 1) := by decide +kernel
theorem dL_touch_4 : decode cL_touch 4 = .ok (.iload_n 2, 1) := by decide +kernel
theorem dL_touch_5 : decode cL_touch 5 = .ok (.invokevirtual 43, 3) := by decide +kernel
theorem dL_touch_8 : decode cL_touch 8 = .ok (.i2l, 1) := by decide +kernel
theorem dL_touch_9 : decode cL_touch 9 = .ok (.lastore, 1) := by decide +kernel
theorem dL_touch_10 : decode cL_touch 10 = .ok (.goto 15, 3) := by decide +kernel
theorem dL_touch_13 : decode cL_touch 13 = .ok (.astore 4, 2) := by decide +kernel
theorem dL_touch_15 : decode cL_touch 15 = .ok (.iconst 1, 1) := by decide +kernel
theorem dL_touch_16 : decode cL_touch 16 = .ok (.ireturn, 1) := by decide +kernel
theorem dL_touch_17 : decode cL_touch 17 = .ok (.astore 4, 2) := by decide +kernel
theorem dL_touch_19 : decode cL_touch 19 = .ok (.iconst 2, 1) := by decide +kernel
theorem dL_touch_20 : decode cL_touch 20 = .ok (.ireturn, 1) := by decide +kernel
theorem dL_touch_21 : decode cL_touch 21 = .ok (.astore 4, 2) := by decide +kernel
theorem dL_touch_23 : decode cL_touch 23 = .ok (.iconst 3, 1) := by decide +kernel
theorem dL_touch_24 : decode cL_touch 24 = .ok (.ireturn, 1) := by decide +kernel
theorem dL_touch_25 : decode cL_touch 25 = .ok (.iconst 0, 1) := by decide +kernel
theorem dL_touch_26 : decode cL_touch 26 = .ok (.ireturn, 1) := by decide +kernel
set_option maxRecDepth 20000 in
theorem ggL_set_X7_set : GoodIn wsL_set wsX7_set := goodIn_ca (goodIn_r _ [6, 7, 8, 9, 10, 11, 12, 5, 13, 14, 15, 16, 17, 18, 19, 20, 21, 22, 23, 24, 25, 26, 27, 28, 29, 30, 31, 32, 33, 34, 35, 36, 37, 38, 39, 40, 41, 42, 43, 44, 45, 46, 47, 48, 49, 50, 51, 52, 53, 54, 55, 56, 57, 58, 59, 60, 61, 62, 63, 64, 65, 66, 67, 68, 69, 70, 71, 72, 73, 74, 75, 76, 77, 78, 79, 80, 81, 82, 83, 84, 85, 86, 87, 88, 89, 90, 91, 92, 93, 94] (by decide +kernel) (by decide +kernel)) (goodIn_sub (fun _ h => List.mem_cons_of_mem _ (List.mem_append_right _ h)) (by decide +kernel))
set_option maxRecDepth 20000 in
theorem gL_set_X7_set : GoodIn wsL_set (wsV RL 46 RX7 yX7_set wsX7_set) := goodIn_app (goodIn_of _ (by decide +kernel)) ggL_set_X7_set
theorem dL_set_0 : decode cL_set 0 = .ok (.aload_n 3, 1) := by decide +kernel
theorem dL_set_1 : decode cL_set 1 = .ok (.iconst 0, 1) := by decide +kernel
theorem dL_set_2 : decode cL_set 2 = .ok (.aload_n 0, 1) := by decide +kernel
theorem dL_set_3 : decode cL_set 3 = .ok (.iload_n 1, 1) := by decide +kernel
theorem dL_set_4 : decode cL_set 4 = .ok (.iload_n 2, 1) := by decide +kernel
theorem dL_set_5 : decode cL_set 5 = .ok (.invokevirtual 46, 3) := by decide +kernel
theorem dL_set_8 : decode cL_set 8 = .ok (.i2l, 1) := by decide +kernel
theorem dL_set_9 : decode cL_set 9 = .ok (.lastore, 1) := by decide +kernel
theorem dL_set_10 : decode cL_set 10 = .ok (.goto 7, 3) := by decide +kernel
theorem dL_set_13 : decode cL_set 13 = .ok (.astore 4, 2) := by decide +kernel
theorem dL_set_15 : decode cL_set 15 = .ok (.iconst 1, 1) := by decide +kernel
theorem dL_set_16 : decode cL_set 16 = .ok (.ireturn, 1) := by decide +kernel
theorem dL_set_17 : decode cL_set 17 = .ok (.iconst 0, 1) := by decide +kernel
theorem dL_set_18 : decode cL_set 18 = .ok (.ireturn, 1) := by decide +kernel
set_option maxRecDepth 20000 in
theorem ggL_undo_X7_undo : GoodIn wsL_undo wsX7_undo := goodIn_ca (goodIn_r _ [6, 7, 8, 9, 10, 11, 12, 13, 14, 15, 16, 17, 18, 19, 20, 21, 22, 23, 24, 25, 26, 27, 28, 29, 30, 31, 32, 33, 34, 35, 36, 37, 38, 39, 40, 41, 42, 43, 44, 45, 46, 47, 48, 49, 50, 51, 52, 53, 54, 55, 56, 57, 58, 59, 60, 61, 62, 63, 64, 65, 66, 67, 68, 69, 70, 71, 72, 73, 74, 75, 76, 77, 78, 79, 80, 81] (by decide +kernel) (by decide +kernel)) (goodIn_sub (fun _ h => List.mem_cons_of_mem _ (List.mem_append_right _ h)) (by decide +kernel))
set_option maxRecDepth 20000 in
theorem gL_undo_X7_undo : GoodIn wsL_undo (wsV RL 49 RX7 yX7_undo wsX7_undo) := goodIn_app (goodIn_of _ (by decide +kernel)) ggL_undo_X7_undo
theorem dL_undo_0 : decode cL_undo 0 = .ok (.aload_n 1, 1) := by decide +kernel
theorem dL_undo_1 : decode cL_undo 1 = .ok (.iconst 0, 1) := by decide +kernel
theorem dL_undo_2 : decode cL_undo 2 = .ok (.aload_n 0, 1) := by decide +kernel
theorem dL_undo_3 : decode cL_undo 3 = .ok (.invokevirtual 49, 3) := by decide +kernel
theorem dL_undo_6 : decode cL_undo 6 = .ok (.i2l, 1) := by decide +kernel
theorem dL_undo_7 : decode cL_undo 7 = .ok (.lastore, 1) := by decide +kernel
theorem dL_undo_8 : decode cL_undo 8 = .ok (.goto 6, 3) := by decide +kernel
theorem dL_undo_11 : decode cL_undo 11 = .ok (.astore_n 2, 1) := by decide +kernel
theorem dL_undo_12 : decode cL_undo 12 = .ok (.iconst 1, 1) := by decide +kernel
theorem dL_undo_13 : decode cL_undo 13 = .ok (.ireturn, 1) := by decide +kernel
theorem dL_undo_14 : decode cL_undo 14 = .ok (.iconst 0, 1) := by decide +kernel
theorem dL_undo_15 : decode cL_undo 15 = .ok (.ireturn, 1) := by decide +kernel
set_option maxRecDepth 20000 in
theorem ggL_would_X7_would : GoodIn wsL_would wsX7_would := goodIn_ca (goodIn_r _ [6, 7, 8, 9, 10, 11, 5, 12, 13, 14, 15, 16, 17, 18, 19, 20, 21, 22, 23, 24, 25, 26, 27, 28, 29, 30, 31, 32, 33, 34, 35, 36, 37, 38, 39, 40, 41, 42, 43, 44, 45, 46, 47, 48, 49, 50, 51, 52, 53, 54, 55, 56, 57, 58, 59, 60, 61, 62, 63, 64, 65, 66, 67, 68, 69, 70, 71, 72, 73, 74, 75, 76, 77, 78, 79, 80, 81, 82, 83, 84, 85, 86, 87, 88, 89, 90, 91, 92, 93, 94, 95, 96, 97, 98, 99, 100, 101, 102, 103, 104, 105, 106, 107, 108, 109, 110, 111, 112, 113] (by decide +kernel) (by decide +kernel)) (goodIn_sub (fun _ h => List.mem_cons_of_mem _ (List.mem_append_right _ h)) (by decide +kernel))
set_option maxRecDepth 20000 in
theorem gL_would_X7_would : GoodIn wsL_would (wsV RL 52 RX7 yX7_would wsX7_would) := goodIn_app (goodIn_of _ (by decide +kernel)) ggL_would_X7_would
theorem dL_would_0 : decode cL_would 0 = .ok (.aload 4, 2) := by decide +kernel
theorem dL_would_2 : decode cL_would 2 = .ok (.iconst 0, 1) := by decide +kernel
theorem dL_would_3 : decode cL_would 3 = .ok (.aload_n 0, 1) := by decide +kernel
theorem dL_would_4 : decode cL_would 4 = .ok (.iload_n 1, 1) := by decide +kernel
theorem dL_would_5 : decode cL_would 5 = .ok (.iload_n 2, 1) := by decide +kernel
theorem dL_would_6 : decode cL_would 6 = .ok (.iload_n 3, 1) := by decide +kernel
theorem dL_would_7 : decode cL_would 7 = .ok (.invokevirtual 52, 3) := by decide +kernel
theorem dL_would_10 : decode cL_would 10 = .ok (.i2l, 1) := by decide +kernel
theorem dL_would_11 : decode cL_would 11 = .ok (.lastore, 1) := by decide +kernel
theorem dL_would_12 : decode cL_would 12 = .ok (.goto 7, 3) := by decide +kernel
theorem dL_would_15 : decode cL_would 15 = .ok (.astore 5, 2) := by decide +kernel
theorem dL_would_17 : decode cL_would 17 = .ok (.iconst 1, 1) := by decide +kernel
theorem dL_would_18 : decode cL_would 18 = .ok (.ireturn, 1) := by decide +kernel
theorem dL_would_19 : decode cL_would 19 = .ok (.iconst 0, 1) := by decide +kernel
theorem dL_would_20 : decode cL_would 20 = .ok (.ireturn, 1) := by decide +kernel
set_option maxRecDepth 20000 in
theorem ggL_bestBoard_X7_bestBoard : GoodIn wsL_bestBoard wsX7_bestBoard := goodIn_ca (goodIn_r _ [6, 7, 8, 9, 10, 5, 11, 12, 13, 14, 15, 16, 17, 18, 19, 20, 21, 22, 23, 24, 25, 26, 27, 28, 29, 30, 31, 32, 33, 34, 35, 36, 37, 38, 39, 40, 41, 42, 43, 44, 45, 46, 47, 48, 49, 50, 51, 52, 53, 54, 55, 56, 57, 58, 59, 60, 61, 62, 63, 64, 65, 66, 67, 68, 69, 70, 71, 72, 73, 74, 75, 76, 77, 78, 79, 80, 81, 82, 83, 84, 85, 86, 87, 88, 89, 90, 91, 92, 93, 94, 95, 96, 97, 98, 99, 100] (by decide +kernel) (by decide +kernel)) (goodIn_sub (fun _ h => List.mem_cons_of_mem _ (List.mem_append_right _ h)) (by decide +kernel))
set_option maxRecDepth 20000 in
theorem gL_bestBoard_X7_bestBoard : GoodIn wsL_bestBoard (wsV RL 56 RX7 yX7_bestBoard wsX7_bestBoard) := goodIn_app (goodIn_of _ (by decide +kernel)) ggL_bestBoard_X7_bestBoard
theorem dL_bestBoard_0 : decode cL_bestBoard 0 = .ok (.aload_n 2, 1) := by decide +kernel
theorem dL_bestBoard_1 : decode cL_bestBoard 1 = .ok (.iconst 0, 1) := by decide +kernel
theorem dL_bestBoard_2 : decode cL_bestBoard 2 = .ok (.aload_n 0, 1) := by decide +kernel
theorem dL_bestBoard_3 : decode cL_bestBoard 3 = .ok (.iload_n 1, 1) := by decide +kernel
theorem dL_bestBoard_4 : decode cL_bestBoard 4 = .ok (.invokevirtual 56, 3) := by decide +kernel
theorem dL_bestBoard_7 : decode cL_bestBoard 7 = .ok (.i2l, 1) := by decide +kernel
theorem dL_bestBoard_8 : decode cL_bestBoard 8 = .ok (.lastore, 1) := by decide +kernel
theorem dL_bestBoard_9 : decode cL_bestBoard 9 = .ok (.goto 6, 3) := by decide +kernel
theorem dL_bestBoard_12 : decode cL_bestBoard 12 = .ok (.astore_n 3, 1) := by decide +kernel
theorem dL_bestBoard_13 : decode cL_bestBoard 13 = .ok (.iconst 1, 1) := by decide +kernel
theorem dL_bestBoard_14 : decode cL_bestBoard 14 = .ok (.ireturn, 1) := by decide +kernel
theorem dL_bestBoard_15 : decode cL_bestBoard 15 = .ok (.iconst 0, 1) := by decide +kernel
theorem dL_bestBoard_16 : decode cL_bestBoard 16 = .ok (.ireturn, 1) := by decide +kernel
set_option maxRecDepth 20000 in
theorem ggL_goesOn_X7_goesOn : GoodIn wsL_goesOn wsX7_goesOn := goodIn_ca (goodIn_r _ [6, 7, 8, 9, 10, 11, 12, 5, 13, 14, 15, 16, 17, 18, 19, 20, 21, 22, 23, 24, 25, 26, 27, 28, 29, 30, 31, 32, 33, 34, 35, 36, 37, 38, 39, 40, 41, 42, 43, 44, 45, 46, 47, 48, 49, 50, 51, 52, 53, 54, 55, 56, 57, 58, 59, 60, 61, 62, 63, 64, 65, 66, 67, 68, 69, 70, 71, 72, 73, 74, 75, 76, 77, 78, 79, 80, 81, 82, 83, 84, 85, 86, 87, 88, 89, 90, 91, 92, 93, 94, 95, 96, 97, 98, 99, 100, 101, 102, 103, 104, 105, 106, 107, 108, 109, 110, 111, 112, 113, 114, 115, 116, 117, 118, 119, 120, 121, 122, 123, 124, 125, 126, 127, 128, 129, 130, 131, 132, 133, 134, 135, 136, 137, 138, 139, 140, 141, 142, 143, 144, 145, 146, 147, 148, 149, 150, 151, 152, 153, 154, 155, 156, 157, 158, 159, 160, 161, 162, 163, 164, 165, 166, 167, 168, 169, 170, 171] (by decide +kernel) (by decide +kernel)) (goodIn_sub (fun _ h => List.mem_cons_of_mem _ (List.mem_append_right _ h)) (by decide +kernel))
set_option maxRecDepth 20000 in
theorem gL_goesOn_X7_goesOn : GoodIn wsL_goesOn (wsV RL 59 RX7 yX7_goesOn wsX7_goesOn) := goodIn_app (goodIn_of _ (by decide +kernel)) ggL_goesOn_X7_goesOn
theorem dL_goesOn_0 : decode cL_goesOn 0 = .ok (.aload_n 3, 1) := by decide +kernel
theorem dL_goesOn_1 : decode cL_goesOn 1 = .ok (.iconst 0, 1) := by decide +kernel
theorem dL_goesOn_2 : decode cL_goesOn 2 = .ok (.aload_n 0, 1) := by decide +kernel
theorem dL_goesOn_3 : decode cL_goesOn 3 = .ok (.iload_n 1, 1) := by decide +kernel
theorem dL_goesOn_4 : decode cL_goesOn 4 = .ok (.iload_n 2, 1) := by decide +kernel
theorem dL_goesOn_5 : decode cL_goesOn 5 = .ok (.invokevirtual 59, 3) := by decide +kernel
theorem dL_goesOn_8 : decode cL_goesOn 8 = .ok (.i2l, 1) := by decide +kernel
theorem dL_goesOn_9 : decode cL_goesOn 9 = .ok (.lastore, 1) := by decide +kernel
theorem dL_goesOn_10 : decode cL_goesOn 10 = .ok (.goto 7, 3) := by decide +kernel
theorem dL_goesOn_13 : decode cL_goesOn 13 = .ok (.astore 4, 2) := by decide +kernel
theorem dL_goesOn_15 : decode cL_goesOn 15 = .ok (.iconst 1, 1) := by decide +kernel
theorem dL_goesOn_16 : decode cL_goesOn 16 = .ok (.ireturn, 1) := by decide +kernel
theorem dL_goesOn_17 : decode cL_goesOn 17 = .ok (.iconst 0, 1) := by decide +kernel
theorem dL_goesOn_18 : decode cL_goesOn 18 = .ok (.ireturn, 1) := by decide +kernel
set_option maxRecDepth 20000 in
theorem ggL_runScript_X7_runScript : GoodIn wsL_runScript wsX7_runScript := goodIn_ca (goodIn_r _ [6, 7, 8, 9, 10, 11, 12, 13, 14, 15, 16, 17, 18, 19, 20, 21, 22, 23, 24, 25, 26, 27, 28, 29, 30, 31, 32, 33, 34, 35, 36, 37, 38, 39, 40, 41, 42, 43, 44, 45, 46, 47, 48, 49, 50, 51, 52, 53, 54, 55, 5, 56, 57, 58, 59, 60, 61, 62, 63, 64, 65, 66, 67, 68, 69, 70, 71, 72, 73, 74, 75, 76, 77, 78, 79, 80, 81, 82, 83, 84, 85, 86, 87, 88, 89, 90, 91, 92, 93, 94, 95, 96, 97, 98, 99, 100, 101, 102, 103, 104, 105, 106, 107, 108, 109, 110, 111, 112, 113, 114, 115, 116, 117, 118, 119, 120, 121, 122, 123, 124, 125, 126, 127, 128, 129, 130, 131, 132, 133, 134, 135, 136, 137, 138, 139, 140, 141, 142, 143, 144, 145, 146, 147, 148, 149, 150, 151, 152, 153, 154, 155, 156, 157, 158, 159, 160, 161, 162, 163, 164, 165, 166, 167, 168, 169, 170, 171, 172, 173, 174, 175, 176, 177, 178, 179, 180, 181, 182, 183, 184, 185, 186, 187, 188, 189, 190, 191, 192, 193, 194, 195, 196, 197, 198, 199, 200, 201, 202, 203, 204, 205, 206, 207, 208, 209, 210, 211, 212, 213, 214, 215, 216, 217, 218, 219, 220, 221, 222, 223, 224, 225, 226, 227, 228, 229, 230, 231, 232, 233, 234, 235, 236, 237, 238, 239, 240] (by decide +kernel) (by decide +kernel)) (goodIn_sub (fun _ h => List.mem_cons_of_mem _ (List.mem_append_right _ h)) (by decide +kernel))
set_option maxRecDepth 20000 in
theorem gL_runScript_X7_runScript : GoodIn wsL_runScript (wsV RL 62 RX7 yX7_runScript wsX7_runScript) := goodIn_app (goodIn_of _ (by decide +kernel)) ggL_runScript_X7_runScript
theorem dL_runScript_0 : decode cL_runScript 0 = .ok (.aload 4, 2) := by decide +kernel
theorem dL_runScript_2 : decode cL_runScript 2 = .ok (.iconst 0, 1) := by decide +kernel
theorem dL_runScript_3 : decode cL_runScript 3 = .ok (.aload_n 0, 1) := by decide +kernel
theorem dL_runScript_4 : decode cL_runScript 4 = .ok (.iload_n 1, 1) := by decide +kernel
theorem dL_runScript_5 : decode cL_runScript 5 = .ok (.lload_n 2, 1) := by decide +kernel
theorem dL_runScript_6 : decode cL_runScript 6 = .ok (.invokevirtual 62, 3) := by decide +kernel
theorem dL_runScript_9 : decode cL_runScript 9 = .ok (.i2l, 1) := by decide +kernel
theorem dL_runScript_10 : decode cL_runScript 10 = .ok (.lastore, 1) := by decide +kernel
theorem dL_runScript_11 : decode cL_runScript 11 = .ok (.goto 7, 3) := by decide +kernel
theorem dL_runScript_14 : decode cL_runScript 14 = .ok (.astore 5, 2) := by decide +kernel
theorem dL_runScript_16 : decode cL_runScript 16 = .ok (.iconst 1, 1) := by decide +kernel
theorem dL_runScript_17 : decode cL_runScript 17 = .ok (.ireturn, 1) := by decide +kernel
theorem dL_runScript_18 : decode cL_runScript 18 = .ok (.iconst 0, 1) := by decide +kernel
theorem dL_runScript_19 : decode cL_runScript 19 = .ok (.ireturn, 1) := by decide +kernel
set_option maxRecDepth 20000 in
theorem ggL_simulate_X7_simulate : GoodIn wsL_simulate wsX7_simulate := goodIn_ca (goodIn_r _ [6, 7, 8, 9, 10, 11, 12, 13, 14, 15, 16, 17, 18, 19, 20, 21, 22, 23, 24, 25, 26, 27, 28, 29, 30, 31, 32, 33, 34, 35, 36, 37, 38, 39, 40, 41, 42, 43, 5, 44, 45, 46, 47, 48, 49, 50, 51, 52, 53, 54, 55, 56, 57, 58, 59, 60, 61, 62, 63, 64, 65, 66, 67, 68, 69, 70, 71, 72, 73, 74, 75, 76, 77, 78, 79, 80, 81, 82, 83, 84, 85, 86, 87, 88, 89, 90, 91, 92, 93, 94, 95, 96, 97, 98, 99, 100, 101, 102, 103, 104, 105, 106, 107, 108, 109, 110, 111, 112, 113, 114, 115, 116, 117, 118, 119, 120, 121, 122, 123, 124, 125, 126, 127, 128, 129, 130, 131, 132, 133, 134, 135, 136, 137, 138, 139, 140, 141, 142, 143, 144, 145, 146, 147, 148, 149, 150, 151, 152, 153, 154, 155, 156, 157, 158, 159, 160, 161, 162, 163, 164, 165, 166, 167, 168, 169, 170, 171, 172, 173, 174, 175, 176, 177, 178, 179, 180, 181, 182, 183, 184, 185, 186, 187, 188, 189, 190, 191, 192, 193, 194, 195, 196, 197, 198, 199, 200, 201, 202, 203, 204, 205, 206, 207, 208, 209, 210, 211, 212, 213, 214, 215, 216, 217, 218, 219] (by decide +kernel) (by decide +kernel)) (goodIn_sub (fun _ h => List.mem_cons_of_mem _ (List.mem_append_right _ h)) (by decide +kernel))
set_option maxRecDepth 20000 in
theorem gL_simulate_X7_simulate : GoodIn wsL_simulate (wsV RL 66 RX7 yX7_simulate wsX7_simulate) := goodIn_app (goodIn_of _ (by decide +kernel)) ggL_simulate_X7_simulate
theorem dL_simulate_0 : decode cL_simulate 0 = .ok (.aload 4, 2) := by decide +kernel
theorem dL_simulate_2 : decode cL_simulate 2 = .ok (.iconst 0, 1) := by decide +kernel
theorem dL_simulate_3 : decode cL_simulate 3 = .ok (.aload_n 0, 1) := by decide +kernel
theorem dL_simulate_4 : decode cL_simulate 4 = .ok (.lload_n 1, 1) := by decide +kernel
theorem dL_simulate_5 : decode cL_simulate 5 = .ok (.iload_n 3, 1) := by decide +kernel
theorem dL_simulate_6 : decode cL_simulate 6 = .ok (.invokevirtual 66, 3) := by decide +kernel
theorem dL_simulate_9 : decode cL_simulate 9 = .ok (.i2l, 1) := by decide +kernel
theorem dL_simulate_10 : decode cL_simulate 10 = .ok (.lastore, 1) := by decide +kernel
theorem dL_simulate_11 : decode cL_simulate 11 = .ok (.goto 7, 3) := by decide +kernel
theorem dL_simulate_14 : decode cL_simulate 14 = .ok (.astore 5, 2) := by decide +kernel
theorem dL_simulate_16 : decode cL_simulate 16 = .ok (.iconst 1, 1) := by decide +kernel
theorem dL_simulate_17 : decode cL_simulate 17 = .ok (.ireturn, 1) := by decide +kernel
theorem dL_simulate_18 : decode cL_simulate 18 = .ok (.iconst 0, 1) := by decide +kernel
theorem dL_simulate_19 : decode cL_simulate 19 = .ok (.ireturn, 1) := by decide +kernel
set_option maxRecDepth 20000 in
theorem ggL_save_X7_save : GoodIn wsL_save wsX7_save := goodIn_ca (goodIn_r _ [6, 7, 8, 9, 10, 11, 12, 5, 13, 14, 15, 16, 17, 18, 19, 20, 21, 22, 23, 24, 25, 26, 27, 28, 29, 30, 31, 32, 33, 34, 35, 36, 37, 38, 39, 40, 41, 42, 43, 44, 45, 46, 47, 48, 49, 50, 51, 52, 53, 54, 55, 56, 57, 58, 59, 60, 61, 62, 63, 64, 65, 66, 67, 68, 69, 70, 71, 72, 73, 74] (by decide +kernel) (by decide +kernel)) (goodIn_sub (fun _ h => List.mem_cons_of_mem _ (List.mem_append_right _ h)) (by decide +kernel))
set_option maxRecDepth 20000 in
theorem gL_save_X7_save : GoodIn wsL_save (wsV RL 70 RX7 yX7_save wsX7_save) := goodIn_app (goodIn_of _ (by decide +kernel)) ggL_save_X7_save
theorem dL_save_0 : decode cL_save 0 = .ok (.aload_n 2, 1) := by decide +kernel
theorem dL_save_1 : decode cL_save 1 = .ok (.iconst 0, 1) := by decide +kernel
theorem dL_save_2 : decode cL_save 2 = .ok (.aload_n 0, 1) := by decide +kernel
theorem dL_save_3 : decode cL_save 3 = .ok (.iload_n 1, 1) := by decide +kernel
theorem dL_save_4 : decode cL_save 4 = .ok (.invokevirtual 70, 3) := by decide +kernel
theorem dL_save_7 : decode cL_save 7 = .ok (.i2l, 1) := by decide +kernel
theorem dL_save_8 : decode cL_save 8 = .ok (.lastore, 1) := by decide +kernel
theorem dL_save_9 : decode cL_save 9 = .ok (.goto 6, 3) := by decide +kernel
theorem dL_save_12 : decode cL_save 12 = .ok (.astore_n 3, 1) := by decide +kernel
theorem dL_save_13 : decode cL_save 13 = .ok (.iconst 1, 1) := by decide +kernel
theorem dL_save_14 : decode cL_save 14 = .ok (.ireturn, 1) := by decide +kernel
theorem dL_save_15 : decode cL_save 15 = .ok (.iconst 0, 1) := by decide +kernel
theorem dL_save_16 : decode cL_save 16 = .ok (.ireturn, 1) := by decide +kernel
set_option maxRecDepth 20000 in
theorem ggL_restore_X7_restore : GoodIn wsL_restore wsX7_restore := goodIn_ca (goodIn_ca (goodIn_r _ [7, 8, 9, 10, 11, 12, 13, 14, 15, 16, 6, 17, 18, 19, 20, 21, 22, 23, 24, 25, 26, 27, 28, 29, 30, 31, 32, 33, 34, 35, 36, 37, 38, 39, 40, 41, 42, 43, 44, 45, 46, 47, 48, 49, 50, 51, 52, 53, 54, 55, 56, 57, 58, 59, 60, 61, 62, 63, 64, 65, 66, 67, 68, 69, 70, 71, 72, 73, 74, 75, 76, 77, 78, 79, 80, 81, 82, 83, 84, 85, 86, 87, 88, 89, 90, 91, 92] (by decide +kernel) (by decide +kernel)) (goodIn_sub (fun _ h => List.mem_cons_of_mem _ (List.mem_append_left _ (List.mem_append_right _ h))) (by decide +kernel))) (goodIn_sub (fun _ h => List.mem_cons_of_mem _ (List.mem_append_right _ h)) (by decide +kernel))
set_option maxRecDepth 20000 in
theorem gL_restore_X7_restore : GoodIn wsL_restore (wsV RL 73 RX7 yX7_restore wsX7_restore) := goodIn_app (goodIn_of _ (by decide +kernel)) ggL_restore_X7_restore
theorem dL_restore_0 : decode cL_restore 0 = .ok (.aload_n 2, 1) := by decide +kernel
theorem dL_restore_1 : decode cL_restore 1 = .ok (.iconst 0, 1) := by decide +kernel
theorem dL_restore_2 : decode cL_restore 2 = .ok (.aload_n 0, 1) := by decide +kernel
theorem dL_restore_3 : decode cL_restore 3 = .ok (.iload_n 1, 1) := by decide +kernel
theorem dL_restore_4 : decode cL_restore 4 = .ok (.invokevirtual 73, 3) := by decide +kernel
theorem dL_restore_7 : decode cL_restore 7 = .ok (.i2l, 1) := by decide +kernel
theorem dL_restore_8 : decode cL_restore 8 = .ok (.lastore, 1) := by decide +kernel
theorem dL_restore_9 : decode cL_restore 9 = .ok (.goto 9, 3) := by decide +kernel
theorem dL_restore_12 : decode cL_restore 12 = .ok (.astore_n 3, 1) := by decide +kernel
theorem dL_restore_13 : decode cL_restore 13 = .ok (.iconst 1, 1) := by decide +kernel
theorem dL_restore_14 : decode cL_restore 14 = .ok (.ireturn, 1) := by decide +kernel
theorem dL_restore_15 : decode cL_restore 15 = .ok (.astore_n 3, 1) := by decide +kernel
theorem dL_restore_16 : decode cL_restore 16 = .ok (.iconst 2, 1) := by decide +kernel
theorem dL_restore_17 : decode cL_restore 17 = .ok (.ireturn, 1) := by decide +kernel
theorem dL_restore_18 : decode cL_restore 18 = .ok (.iconst 0, 1) := by decide +kernel
theorem dL_restore_19 : decode cL_restore 19 = .ok (.ireturn, 1) := by decide +kernel
set_option maxRecDepth 20000 in
theorem ggL_law_X7_init : GoodIn wsL_law wsX7_init := goodIn_r _ [10, 11, 12, 13, 14, 15, 16, 17, 18, 19, 20, 21, 22, 23, 24, 25, 26, 27, 28, 29, 30, 31, 32, 33, 34, 35, 36, 37, 38, 39, 40, 41, 42, 43, 44, 45, 46, 47, 48, 49, 50, 51, 52, 53, 54, 55, 56, 57, 58, 59, 60, 61, 62, 63, 64, 65, 66, 67, 68, 69, 70, 71, 72, 73, 74, 75, 76, 77, 78, 79, 80, 81, 82, 877, 878, 859, 860, 861, 862, 863, 879, 880, 881, 882, 883, 884, 885, 886, 887, 888, 889, 890, 891, 892, 893, 894, 895, 896, 897, 898] (by decide +kernel) (by decide +kernel)
set_option maxRecDepth 20000 in
theorem gL_law_X7_init : GoodIn wsL_law (wsX7_init) := ggL_law_X7_init
set_option maxRecDepth 20000 in
theorem ggL_law_X8_init : GoodIn wsL_law wsX8_init := goodIn_r _ [85, 86, 12, 13, 35, 87, 88, 89, 90, 91, 80, 92, 93, 94, 95, 96, 5, 97, 98, 99, 100, 864, 865, 866, 867, 868, 869, 870, 871, 872, 873, 874, 875, 876] (by decide +kernel) (by decide +kernel)
set_option maxRecDepth 20000 in
theorem gL_law_X8_init : GoodIn wsL_law (wsX8_init) := ggL_law_X8_init
set_option maxRecDepth 20000 in
theorem ggL_law_L_append : GoodIn wsL_law wsL_append := goodIn_ca (goodIn_ca (goodIn_r _ [104, 105, 106, 107, 108, 109, 2, 110, 111, 112, 113, 114, 17, 115, 116, 117, 16, 118, 119, 120, 121, 122, 123, 36, 859, 860, 861, 862, 863, 877, 878] (by decide +kernel) (by decide +kernel)) (goodIn_sub (fun _ h => List.mem_append_left _ (List.mem_append_left _ (List.mem_append_right _ h))) (by decide +kernel))) (goodIn_sub (fun _ h => List.mem_append_left _ (List.mem_append_right _ h)) (by decide +kernel))
set_option maxRecDepth 20000 in
theorem gL_law_L_append : GoodIn wsL_law (va_wsS RL 80 yL_append wsL_append) := goodIn_app (goodIn_of _ (by decide +kernel)) ggL_law_L_append
set_option maxRecDepth 20000 in
theorem ggL_law_X8_append : GoodIn wsL_law wsX8_append := goodIn_r _ [127, 128, 129, 87, 130, 131, 5, 132, 133, 134, 135, 136, 137, 864, 865, 866, 867, 868, 869, 870, 871, 872, 873, 874, 875, 876] (by decide +kernel) (by decide +kernel)
set_option maxRecDepth 20000 in
theorem gL_law_X8_append : GoodIn wsL_law (wsV RL 85 RX8 yX8_append wsX8_append) := goodIn_app (goodIn_of _ (by decide +kernel)) ggL_law_X8_append
set_option maxRecDepth 20000 in
theorem ggL_law_X8_thrown : GoodIn wsL_law wsX8_thrown := goodIn_r _ [141, 137, 864, 865, 866, 867, 868, 869, 870, 871, 872, 873, 874, 875, 876] (by decide +kernel) (by decide +kernel)
set_option maxRecDepth 20000 in
theorem gL_law_X8_thrown : GoodIn wsL_law (wsV RL 86 RX8 yX8_thrown wsX8_thrown) := goodIn_app (goodIn_of _ (by decide +kernel)) ggL_law_X8_thrown
set_option maxRecDepth 20000 in
theorem ggL_law_X7_clearText : GoodIn wsL_law wsX7_clearText := goodIn_r _ [145, 17, 146, 147, 148, 16, 149, 119, 859, 860, 861, 862, 863, 877, 878] (by decide +kernel) (by decide +kernel)
set_option maxRecDepth 20000 in
theorem gL_law_X7_clearText : GoodIn wsL_law (wsV RL 89 RX7 yX7_clearText wsX7_clearText) := goodIn_app (goodIn_of _ (by decide +kernel)) ggL_law_X7_clearText
set_option maxRecDepth 20000 in
theorem ggL_law_X8_clearText : GoodIn wsL_law wsX8_clearText := goodIn_r _ [153, 137, 129, 864, 865, 866, 867, 868, 869, 870, 871, 872, 873, 874, 875, 876] (by decide +kernel) (by decide +kernel)
set_option maxRecDepth 20000 in
theorem gL_law_X8_clearText : GoodIn wsL_law (wsV RL 92 RX8 yX8_clearText wsX8_clearText) := goodIn_app (goodIn_of _ (by decide +kernel)) ggL_law_X8_clearText
set_option maxRecDepth 20000 in
theorem ggL_law_X7_errorPosition : GoodIn wsL_law wsX7_errorPosition := goodIn_r _ [157, 17, 158, 159, 160, 16, 161, 119, 162, 163, 164, 165, 36, 166, 167, 168, 169, 170, 171, 172, 173, 174, 175, 176, 177, 178, 859, 860, 861, 862, 863, 877, 878] (by decide +kernel) (by decide +kernel)
set_option maxRecDepth 20000 in
theorem gL_law_X7_errorPosition : GoodIn wsL_law (wsV RL 93 RX7 yX7_errorPosition wsX7_errorPosition) := goodIn_app (goodIn_of _ (by decide +kernel)) ggL_law_X7_errorPosition
set_option maxRecDepth 20000 in
theorem ggL_law_X8_errorPosition : GoodIn wsL_law wsX8_errorPosition := goodIn_r _ [182, 137, 89, 183, 184, 185, 5, 186, 187, 188, 129, 95, 96, 97, 98, 99, 100, 189, 190, 191, 192, 87, 193, 194, 195, 196, 197, 198, 199, 200, 201, 130, 131, 132, 202, 203, 204, 205, 206, 207, 208, 209, 210, 211, 212, 213, 214, 215, 94, 216, 217, 218, 219, 220, 221, 222, 93, 223, 224, 225, 226, 227, 228, 229, 230, 231, 232, 233, 234, 235, 236, 237, 238, 239, 240, 241, 242, 243, 244, 245, 246, 247, 248, 249, 250, 251, 252, 253, 254, 255, 256, 257, 258, 259, 260, 261, 262, 263, 264, 265, 864, 865, 866, 867, 868, 869, 870, 871, 872, 873, 874, 875, 876] (by decide +kernel) (by decide +kernel)
set_option maxRecDepth 20000 in
theorem gL_law_X8_errorPosition : GoodIn wsL_law (wsV RL 96 RX8 yX8_errorPosition wsX8_errorPosition) := goodIn_app (goodIn_of _ (by decide +kernel)) ggL_law_X8_errorPosition
set_option maxRecDepth 20000 in
theorem ggL_law_L_load : GoodIn wsL_law wsL_load := goodIn_ca (goodIn_r _ [268, 106, 269, 270, 271, 2, 272, 113, 114, 17, 21, 26, 30, 158, 159, 160, 16, 161, 119, 162, 163, 164, 165, 36, 166, 167, 168, 169, 170, 171, 172, 173, 174, 175, 176, 177, 178, 273, 274, 275, 20, 276, 44, 48, 277, 278, 279, 280, 281, 282, 43, 283, 54, 55, 56, 284, 285, 286, 47, 287, 288, 289, 63, 64, 65, 66, 49, 290, 291, 292, 25, 293, 294, 295, 296, 297, 29, 298, 81, 299, 300, 301, 302, 303, 304, 305, 306, 307, 308, 309, 310, 311, 312, 313, 314, 315, 316, 317, 318, 319, 320, 321, 322, 323, 324, 325, 326, 327, 328, 329, 330, 331, 332, 333, 334, 335, 336, 337, 338, 339, 340, 341, 342, 343, 344, 345, 346, 347, 348, 349, 350, 351, 352, 353, 354, 355, 356, 357, 358, 359, 360, 361, 362, 363, 364, 365, 366, 367, 368, 369, 370, 371, 372, 373, 374, 375, 376, 377, 378, 379, 380, 381, 61, 62, 382, 383, 384, 385, 386, 387, 388, 389, 390, 391, 392, 393, 394, 395, 396, 397, 398, 399, 400, 401, 402, 403, 404, 405, 406, 407, 408, 409, 410, 411, 859, 860, 861, 862, 863, 877, 878, 879, 880, 881, 882, 883, 884, 890, 891, 892, 893, 894, 895, 896, 897, 898, 885, 886, 887, 888, 889] (by decide +kernel) (by decide +kernel)) (goodIn_sub (fun _ h => List.mem_append_left _ (List.mem_append_right _ h)) (by decide +kernel))
set_option maxRecDepth 20000 in
theorem gL_law_L_load : GoodIn wsL_law (va_wsS RL 97 yL_load wsL_load) := goodIn_app (goodIn_of _ (by decide +kernel)) ggL_law_L_load
set_option maxRecDepth 20000 in
theorem ggL_law_X8_load : GoodIn wsL_law wsX8_load := goodIn_r _ [415, 89, 88, 416, 92, 187, 183, 184, 185, 5, 186, 188, 129, 95, 96, 97, 98, 99, 100, 189, 190, 191, 192, 87, 193, 194, 195, 196, 197, 198, 199, 200, 201, 130, 131, 132, 202, 203, 204, 205, 206, 207, 208, 209, 210, 211, 212, 213, 214, 215, 94, 216, 217, 218, 219, 220, 221, 222, 93, 223, 224, 225, 226, 227, 228, 229, 230, 231, 232, 233, 234, 235, 236, 237, 238, 239, 240, 241, 242, 243, 244, 245, 246, 247, 248, 249, 250, 251, 252, 253, 254, 255, 256, 257, 258, 259, 260, 261, 262, 263, 264, 265, 133, 134, 135, 136, 137, 417, 418, 419, 864, 865, 866, 867, 868, 869, 870, 871, 872, 873, 874, 875, 876] (by decide +kernel) (by decide +kernel)
set_option maxRecDepth 20000 in
theorem gL_law_X8_load : GoodIn wsL_law (wsV RL 100 RX8 yX8_load wsX8_load) := goodIn_app (goodIn_of _ (by decide +kernel)) ggL_law_X8_load
set_option maxRecDepth 20000 in
theorem ggL_law_L_about : GoodIn wsL_law wsL_about := goodIn_ca (goodIn_r _ [422, 105, 423, 424, 425, 2, 426, 111, 112, 21, 427, 428, 429, 47, 430, 289, 431, 395, 396, 397, 386, 387, 388, 389, 62, 288, 432, 433, 434, 435, 436, 437, 438, 439, 440, 441, 442, 443, 390, 391, 392, 393, 61, 382, 383, 384, 385, 444, 445, 446, 43, 447, 56, 448, 373, 358, 374, 375, 376, 377, 449, 450, 451, 452, 368, 369, 370, 371, 54, 453, 316, 317, 318, 859, 860, 861, 862, 863, 879, 880, 881, 882, 883, 884, 895, 896, 897, 898, 890, 891, 892, 893, 894] (by decide +kernel) (by decide +kernel)) (goodIn_sub (fun _ h => List.mem_append_left _ (List.mem_append_left _ (List.mem_append_right _ h))) (by decide +kernel))
set_option maxRecDepth 20000 in
theorem gL_law_L_about : GoodIn wsL_law (va_wsS RL 101 yL_about wsL_about) := goodIn_app (goodIn_of _ (by decide +kernel)) ggL_law_L_about
set_option maxRecDepth 20000 in
theorem ggL_law_X8_about : GoodIn wsL_law wsX8_about := goodIn_r _ [457, 201, 88, 130, 131, 5, 132, 133, 134, 135, 136, 137, 202, 203, 204, 458, 459, 460, 461, 462, 463, 257, 258, 259, 254, 255, 256, 464, 465, 466, 216, 217, 218, 467, 468, 469, 864, 865, 866, 867, 868, 869, 870, 871, 872, 873, 874, 875, 876] (by decide +kernel) (by decide +kernel)
set_option maxRecDepth 20000 in
theorem gL_law_X8_about : GoodIn wsL_law (wsV RL 103 RX8 yX8_about wsX8_about) := goodIn_app (goodIn_of _ (by decide +kernel)) ggL_law_X8_about
set_option maxRecDepth 20000 in
theorem ggL_law_L_pin : GoodIn wsL_law wsL_pin := goodIn_ca (goodIn_ca (goodIn_r _ [472, 473, 105, 474, 475, 476, 2, 477, 478, 479, 111, 112, 21, 480, 481, 482, 483, 484, 485, 43, 486, 54, 487, 488, 489, 490, 55, 491, 349, 350, 351, 444, 445, 446, 447, 56, 859, 860, 861, 862, 863, 879, 880, 881, 882, 883, 884, 890, 891, 892, 893, 894] (by decide +kernel) (by decide +kernel)) (goodIn_sub (fun _ h => List.mem_append_right _ h) (by decide +kernel))) (goodIn_sub (fun _ h => List.mem_append_left _ (List.mem_append_left _ (List.mem_append_right _ h))) (by decide +kernel))
set_option maxRecDepth 20000 in
theorem gL_law_L_pin : GoodIn wsL_law (va_wsS RL 104 yL_pin wsL_pin) := goodIn_app (goodIn_of _ (by decide +kernel)) ggL_law_L_pin
set_option maxRecDepth 20000 in
theorem ggL_law_X8_pin : GoodIn wsL_law wsX8_pin := goodIn_r _ [495, 231, 88, 496, 497, 5, 498, 201, 130, 131, 132, 133, 134, 135, 136, 137, 234, 235, 236, 237, 238, 239, 223, 224, 225, 864, 865, 866, 867, 868, 869, 870, 871, 872, 873, 874, 875, 876] (by decide +kernel) (by decide +kernel)
set_option maxRecDepth 20000 in
theorem gL_law_X8_pin : GoodIn wsL_law (wsV RL 107 RX8 yX8_pin wsX8_pin) := goodIn_app (goodIn_of _ (by decide +kernel)) ggL_law_X8_pin
set_option maxRecDepth 20000 in
theorem ggL_law_L_frame : GoodIn wsL_law wsL_frame := goodIn_ca (goodIn_ca (goodIn_r _ [501, 473, 105, 502, 503, 504, 2, 505, 478, 479, 111, 112, 21, 506, 507, 508, 431, 395, 396, 47, 397, 386, 387, 388, 389, 289, 62, 288, 509, 441, 442, 443, 390, 391, 392, 393, 61, 382, 383, 384, 385, 510, 859, 860, 861, 862, 863, 879, 880, 881, 882, 883, 884, 895, 896, 897, 898] (by decide +kernel) (by decide +kernel)) (goodIn_sub (fun _ h => List.mem_append_right _ h) (by decide +kernel))) (goodIn_sub (fun _ h => List.mem_append_left _ (List.mem_append_left _ (List.mem_append_right _ h))) (by decide +kernel))
set_option maxRecDepth 20000 in
theorem gL_law_L_frame : GoodIn wsL_law (va_wsS RL 108 yL_frame wsL_frame) := goodIn_app (goodIn_of _ (by decide +kernel)) ggL_law_L_frame
set_option maxRecDepth 20000 in
theorem ggL_law_X8_frame : GoodIn wsL_law wsX8_frame := goodIn_r _ [514, 201, 233, 88, 130, 131, 5, 132, 133, 134, 135, 136, 137, 461, 462, 463, 257, 258, 259, 254, 255, 256, 464, 465, 466, 864, 865, 866, 867, 868, 869, 870, 871, 872, 873, 874, 875, 876] (by decide +kernel) (by decide +kernel)
set_option maxRecDepth 20000 in
theorem gL_law_X8_frame : GoodIn wsL_law (wsV RL 110 RX8 yX8_frame wsX8_frame) := goodIn_app (goodIn_of _ (by decide +kernel)) ggL_law_X8_frame
set_option maxRecDepth 20000 in
theorem ggL_law_L_taken : GoodIn wsL_law wsL_taken := goodIn_ca (goodIn_r _ [517, 473, 518, 519, 520, 2, 521, 478, 479, 21, 432, 433, 434, 47, 435, 288, 522, 391, 392, 393, 61, 859, 860, 861, 862, 863, 879, 880, 881, 882, 883, 884, 895, 896, 897, 898] (by decide +kernel) (by decide +kernel)) (goodIn_sub (fun _ h => List.mem_append_right _ h) (by decide +kernel))
set_option maxRecDepth 20000 in
theorem gL_law_L_taken : GoodIn wsL_law (va_wsS RL 111 yL_taken wsL_taken) := goodIn_app (goodIn_of _ (by decide +kernel)) ggL_law_L_taken
set_option maxRecDepth 20000 in
theorem ggL_law_X8_taken : GoodIn wsL_law wsX8_taken := goodIn_r _ [526, 88, 130, 131, 5, 132, 133, 134, 135, 136, 137, 864, 865, 866, 867, 868, 869, 870, 871, 872, 873, 874, 875, 876] (by decide +kernel) (by decide +kernel)
set_option maxRecDepth 20000 in
theorem gL_law_X8_taken : GoodIn wsL_law (wsV RL 113 RX8 yX8_taken wsX8_taken) := goodIn_app (goodIn_of _ (by decide +kernel)) ggL_law_X8_taken
set_option maxRecDepth 20000 in
theorem ggL_law_L_setting : GoodIn wsL_law wsL_setting := goodIn_ca (goodIn_r _ [529, 105, 530, 531, 532, 2, 533, 111, 112, 21, 534, 535, 536, 537, 538, 539, 20, 540, 49, 859, 860, 861, 862, 863, 879, 880, 881, 882, 883, 884] (by decide +kernel) (by decide +kernel)) (goodIn_sub (fun _ h => List.mem_append_left _ (List.mem_append_left _ (List.mem_append_right _ h))) (by decide +kernel))
set_option maxRecDepth 20000 in
theorem gL_law_L_setting : GoodIn wsL_law (va_wsS RL 114 yL_setting wsL_setting) := goodIn_app (goodIn_of _ (by decide +kernel)) ggL_law_L_setting
set_option maxRecDepth 20000 in
theorem ggL_law_X8_setting : GoodIn wsL_law wsX8_setting := goodIn_r _ [544, 233, 88, 130, 131, 5, 132, 133, 134, 135, 136, 137, 864, 865, 866, 867, 868, 869, 870, 871, 872, 873, 874, 875, 876] (by decide +kernel) (by decide +kernel)
set_option maxRecDepth 20000 in
theorem gL_law_X8_setting : GoodIn wsL_law (wsV RL 116 RX8 yX8_setting wsX8_setting) := goodIn_app (goodIn_of _ (by decide +kernel)) ggL_law_X8_setting
set_option maxRecDepth 20000 in
theorem ggL_law_X7_begin : GoodIn wsL_law wsX7_begin := goodIn_r _ [548, 26, 21, 549, 550, 551, 25, 552, 72, 553, 294, 554, 338, 339, 340, 555, 556, 557, 558, 559, 560, 561, 20, 562, 44, 48, 49, 277, 278, 279, 563, 564, 565, 43, 566, 54, 55, 56, 567, 568, 569, 47, 570, 61, 62, 288, 289, 571, 572, 573, 574, 575, 437, 438, 439, 440, 441, 442, 443, 386, 387, 388, 389, 390, 391, 392, 393, 382, 383, 384, 385, 280, 281, 282, 283, 284, 285, 286, 287, 859, 860, 861, 862, 863, 885, 886, 887, 879, 880, 881, 882, 883, 884, 890, 891, 892, 893, 894, 895, 896, 897, 898] (by decide +kernel) (by decide +kernel)
set_option maxRecDepth 20000 in
theorem gL_law_X7_begin : GoodIn wsL_law (wsV RL 117 RX7 yX7_begin wsX7_begin) := goodIn_app (goodIn_of _ (by decide +kernel)) ggL_law_X7_begin
set_option maxRecDepth 20000 in
theorem ggL_law_X8_begin : GoodIn wsL_law wsX8_begin := goodIn_r _ [579, 137, 88, 580, 581, 582, 5, 583, 416, 90, 417, 418, 419, 584, 585, 586, 458, 459, 460, 461, 462, 463, 257, 258, 259, 254, 255, 256, 464, 465, 466, 98, 99, 100, 864, 865, 866, 867, 868, 869, 870, 871, 872, 873, 874, 875, 876] (by decide +kernel) (by decide +kernel)
set_option maxRecDepth 20000 in
theorem gL_law_X8_begin : GoodIn wsL_law (wsV RL 120 RX8 yX8_begin wsX8_begin) := goodIn_app (goodIn_of _ (by decide +kernel)) ggL_law_X8_begin
set_option maxRecDepth 20000 in
theorem ggL_law_L_roll : GoodIn wsL_law wsL_roll := goodIn_ca (goodIn_ca (goodIn_r _ [589, 105, 106, 590, 591, 592, 2, 593, 111, 112, 113, 114, 21, 26, 594, 311, 312, 595, 313, 314, 453, 316, 317, 47, 318, 289, 549, 550, 551, 25, 552, 72, 553, 294, 554, 338, 339, 340, 555, 556, 557, 558, 559, 560, 561, 20, 562, 44, 48, 49, 277, 278, 279, 563, 564, 565, 43, 566, 54, 55, 56, 567, 568, 569, 570, 61, 62, 288, 596, 320, 321, 322, 323, 324, 325, 326, 327, 328, 329, 330, 331, 332, 333, 334, 335, 336, 337, 341, 342, 343, 344, 345, 346, 347, 348, 349, 350, 351, 352, 353, 354, 355, 356, 357, 358, 359, 360, 361, 362, 363, 364, 365, 366, 367, 368, 369, 370, 371, 372, 373, 374, 375, 376, 377, 378, 379, 380, 381, 382, 383, 384, 385, 386, 387, 388, 389, 390, 391, 392, 393, 394, 395, 396, 397, 398, 399, 400, 401, 402, 280, 281, 282, 283, 315, 403, 404, 405, 406, 407, 408, 409, 410, 411, 859, 860, 861, 862, 863, 879, 880, 881, 882, 883, 884, 895, 896, 897, 898, 885, 886, 887, 890, 891, 892, 893, 894] (by decide +kernel) (by decide +kernel)) (goodIn_sub (fun _ h => List.mem_append_left _ (List.mem_append_left _ (List.mem_append_right _ h))) (by decide +kernel))) (goodIn_sub (fun _ h => List.mem_append_left _ (List.mem_append_right _ h)) (by decide +kernel))
set_option maxRecDepth 20000 in
theorem gL_law_L_roll : GoodIn wsL_law (va_wsS RL 121 yL_roll wsL_roll) := goodIn_app (goodIn_of _ (by decide +kernel)) ggL_law_L_roll
set_option maxRecDepth 20000 in
theorem ggL_law_X8_roll : GoodIn wsL_law wsX8_roll := goodIn_r _ [600, 601, 88, 602, 603, 5, 604, 605, 232, 233, 130, 131, 132, 202, 203, 204, 133, 134, 135, 136, 137, 580, 581, 582, 583, 416, 90, 417, 418, 419, 205, 206, 207, 208, 209, 210, 211, 212, 213, 214, 215, 94, 216, 217, 218, 219, 220, 221, 222, 93, 223, 224, 225, 226, 227, 228, 229, 230, 231, 234, 235, 236, 237, 238, 239, 240, 241, 242, 243, 244, 245, 246, 247, 248, 249, 250, 251, 252, 253, 254, 255, 256, 257, 258, 259, 98, 99, 100, 260, 261, 262, 263, 264, 265, 864, 865, 866, 867, 868, 869, 870, 871, 872, 873, 874, 875, 876] (by decide +kernel) (by decide +kernel)
set_option maxRecDepth 20000 in
theorem gL_law_X8_roll : GoodIn wsL_law (wsV RL 124 RX8 yX8_roll wsX8_roll) := goodIn_app (goodIn_of _ (by decide +kernel)) ggL_law_X8_roll
set_option maxRecDepth 20000 in
theorem ggL_law_L_touch : GoodIn wsL_law wsL_touch := goodIn_ca (goodIn_ca (goodIn_ca (goodIn_r _ [608, 473, 105, 106, 609, 610, 611, 2, 612, 478, 479, 111, 112, 113, 114, 21, 26, 480, 481, 482, 613, 614, 615, 616, 345, 346, 43, 347, 54, 549, 550, 551, 25, 552, 72, 553, 294, 554, 338, 339, 340, 555, 556, 557, 558, 559, 560, 561, 20, 562, 44, 48, 49, 277, 278, 279, 563, 564, 565, 566, 55, 56, 567, 568, 569, 47, 570, 61, 62, 288, 289, 617, 618, 619, 620, 621, 484, 485, 486, 344, 859, 860, 861, 862, 863, 879, 880, 881, 882, 883, 884, 890, 891, 892, 893, 894, 885, 886, 887, 895, 896, 897, 898] (by decide +kernel) (by decide +kernel)) (goodIn_sub (fun _ h => List.mem_append_right _ h) (by decide +kernel))) (goodIn_sub (fun _ h => List.mem_append_left _ (List.mem_append_left _ (List.mem_append_right _ h))) (by decide +kernel))) (goodIn_sub (fun _ h => List.mem_append_left _ (List.mem_append_right _ h)) (by decide +kernel))
set_option maxRecDepth 20000 in
theorem gL_law_L_touch : GoodIn wsL_law (va_wsS RL 125 yL_touch wsL_touch) := goodIn_app (goodIn_of _ (by decide +kernel)) ggL_law_L_touch
set_option maxRecDepth 20000 in
theorem ggL_law_X8_touch : GoodIn wsL_law wsX8_touch := goodIn_r _ [625, 231, 88, 496, 497, 5, 498, 201, 130, 131, 132, 133, 134, 135, 136, 137, 580, 581, 582, 583, 416, 90, 417, 418, 419, 626, 627, 628, 864, 865, 866, 867, 868, 869, 870, 871, 872, 873, 874, 875, 876] (by decide +kernel) (by decide +kernel)
set_option maxRecDepth 20000 in
theorem gL_law_X8_touch : GoodIn wsL_law (wsV RL 127 RX8 yX8_touch wsX8_touch) := goodIn_app (goodIn_of _ (by decide +kernel)) ggL_law_X8_touch
set_option maxRecDepth 20000 in
theorem ggL_law_L_set : GoodIn wsL_law wsL_set := goodIn_ca (goodIn_r _ [631, 105, 632, 633, 634, 2, 635, 111, 112, 26, 21, 534, 535, 536, 636, 637, 638, 613, 614, 615, 549, 550, 551, 25, 552, 72, 553, 294, 554, 338, 339, 340, 555, 556, 557, 558, 559, 560, 561, 20, 562, 44, 48, 49, 277, 278, 279, 563, 564, 565, 43, 566, 54, 55, 56, 567, 568, 569, 47, 570, 61, 62, 288, 289, 639, 640, 641, 642, 643, 538, 539, 540, 859, 860, 861, 862, 863, 885, 886, 887, 879, 880, 881, 882, 883, 884, 890, 891, 892, 893, 894, 895, 896, 897, 898] (by decide +kernel) (by decide +kernel)) (goodIn_sub (fun _ h => List.mem_append_left _ (List.mem_append_left _ (List.mem_append_right _ h))) (by decide +kernel))
set_option maxRecDepth 20000 in
theorem gL_law_L_set : GoodIn wsL_law (va_wsS RL 128 yL_set wsL_set) := goodIn_app (goodIn_of _ (by decide +kernel)) ggL_law_L_set
set_option maxRecDepth 20000 in
theorem ggL_law_X8_set : GoodIn wsL_law wsX8_set := goodIn_r _ [647, 88, 648, 649, 5, 650, 231, 651, 130, 131, 132, 133, 134, 135, 136, 137, 580, 581, 582, 583, 416, 90, 417, 418, 419, 864, 865, 866, 867, 868, 869, 870, 871, 872, 873, 874, 875, 876] (by decide +kernel) (by decide +kernel)
set_option maxRecDepth 20000 in
theorem gL_law_X8_set : GoodIn wsL_law (wsV RL 130 RX8 yX8_set wsX8_set) := goodIn_app (goodIn_of _ (by decide +kernel)) ggL_law_X8_set
set_option maxRecDepth 20000 in
theorem ggL_law_L_undo : GoodIn wsL_law wsL_undo := goodIn_ca (goodIn_r _ [654, 106, 655, 656, 657, 2, 658, 113, 114, 26, 21, 659, 660, 661, 25, 662, 294, 663, 664, 665, 666, 553, 667, 342, 339, 343, 72, 555, 556, 557, 558, 559, 560, 561, 20, 562, 44, 48, 49, 277, 278, 279, 563, 564, 565, 43, 566, 54, 55, 56, 567, 568, 569, 47, 570, 61, 62, 288, 289, 859, 860, 861, 862, 863, 885, 886, 887, 879, 880, 881, 882, 883, 884, 890, 891, 892, 893, 894, 895, 896, 897, 898] (by decide +kernel) (by decide +kernel)) (goodIn_sub (fun _ h => List.mem_append_left _ (List.mem_append_right _ h)) (by decide +kernel))
set_option maxRecDepth 20000 in
theorem gL_law_L_undo : GoodIn wsL_law (va_wsS RL 131 yL_undo wsL_undo) := goodIn_app (goodIn_of _ (by decide +kernel)) ggL_law_L_undo
set_option maxRecDepth 20000 in
theorem ggL_law_X8_undo : GoodIn wsL_law wsX8_undo := goodIn_r _ [671, 416, 90, 88, 133, 134, 135, 5, 136, 137, 417, 418, 419, 864, 865, 866, 867, 868, 869, 870, 871, 872, 873, 874, 875, 876] (by decide +kernel) (by decide +kernel)
set_option maxRecDepth 20000 in
theorem gL_law_X8_undo : GoodIn wsL_law (wsV RL 133 RX8 yX8_undo wsX8_undo) := goodIn_app (goodIn_of _ (by decide +kernel)) ggL_law_X8_undo
set_option maxRecDepth 20000 in
theorem ggL_law_L_would : GoodIn wsL_law wsL_would := goodIn_ca (goodIn_r _ [674, 105, 675, 676, 677, 2, 678, 111, 112, 22, 594, 311, 312, 679, 680, 681, 682, 21, 683, 564, 565, 43, 566, 54, 55, 56, 684, 328, 329, 330, 331, 332, 333, 334, 335, 336, 337, 338, 339, 340, 341, 342, 343, 344, 345, 346, 347, 348, 349, 350, 351, 352, 353, 354, 355, 356, 357, 358, 359, 360, 361, 362, 363, 537, 538, 539, 20, 540, 49, 535, 536, 685, 365, 366, 367, 368, 369, 370, 371, 686, 687, 688, 689, 690, 691, 692, 693, 694, 450, 451, 452, 448, 373, 374, 375, 376, 377, 449, 859, 860, 861, 862, 863, 879, 880, 881, 882, 883, 884, 890, 891, 892, 893, 894] (by decide +kernel) (by decide +kernel)) (goodIn_sub (fun _ h => List.mem_append_left _ (List.mem_append_left _ (List.mem_append_right _ h))) (by decide +kernel))
set_option maxRecDepth 20000 in
theorem gL_law_L_would : GoodIn wsL_law (va_wsS RL 134 yL_would wsL_would) := goodIn_app (goodIn_of _ (by decide +kernel)) ggL_law_L_would
set_option maxRecDepth 20000 in
theorem ggL_law_X8_would : GoodIn wsL_law wsX8_would := goodIn_r _ [698, 231, 89, 88, 602, 603, 5, 604, 605, 232, 233, 130, 131, 132, 133, 134, 135, 136, 137, 699, 700, 701, 702, 417, 418, 419, 219, 220, 221, 222, 93, 223, 224, 225, 226, 227, 228, 229, 230, 234, 235, 236, 237, 238, 239, 240, 241, 242, 243, 244, 245, 246, 247, 248, 249, 250, 216, 217, 218, 864, 865, 866, 867, 868, 869, 870, 871, 872, 873, 874, 875, 876] (by decide +kernel) (by decide +kernel)
set_option maxRecDepth 20000 in
theorem gL_law_X8_would : GoodIn wsL_law (wsV RL 137 RX8 yX8_would wsX8_would) := goodIn_app (goodIn_of _ (by decide +kernel)) ggL_law_X8_would
set_option maxRecDepth 20000 in
theorem ggL_law_L_bestBoard : GoodIn wsL_law wsL_bestBoard := goodIn_ca (goodIn_r _ [705, 105, 706, 707, 708, 2, 709, 111, 112, 594, 311, 312, 679, 680, 681, 682, 22, 21, 683, 564, 565, 43, 566, 54, 55, 56, 684, 328, 329, 330, 331, 332, 333, 334, 335, 336, 337, 338, 339, 340, 341, 342, 343, 344, 345, 346, 347, 348, 349, 350, 351, 352, 353, 354, 355, 356, 357, 358, 359, 360, 361, 362, 363, 537, 538, 539, 20, 540, 49, 535, 536, 685, 365, 366, 367, 368, 369, 370, 371, 448, 373, 374, 375, 376, 377, 859, 860, 861, 862, 863, 879, 880, 881, 882, 883, 884, 890, 891, 892, 893, 894] (by decide +kernel) (by decide +kernel)) (goodIn_sub (fun _ h => List.mem_append_left _ (List.mem_append_left _ (List.mem_append_right _ h))) (by decide +kernel))
set_option maxRecDepth 20000 in
theorem gL_law_L_bestBoard : GoodIn wsL_law (va_wsS RL 138 yL_bestBoard wsL_bestBoard) := goodIn_app (goodIn_of _ (by decide +kernel)) ggL_law_L_bestBoard
set_option maxRecDepth 20000 in
theorem ggL_law_X8_bestBoard : GoodIn wsL_law wsX8_bestBoard := goodIn_r _ [713, 232, 233, 130, 131, 5, 132, 133, 134, 135, 136, 137, 699, 700, 701, 702, 88, 89, 417, 418, 419, 219, 220, 221, 222, 93, 223, 224, 225, 226, 227, 228, 229, 230, 231, 234, 235, 236, 237, 238, 239, 240, 241, 242, 243, 244, 245, 246, 247, 248, 249, 250, 216, 217, 218, 864, 865, 866, 867, 868, 869, 870, 871, 872, 873, 874, 875, 876] (by decide +kernel) (by decide +kernel)
set_option maxRecDepth 20000 in
theorem gL_law_X8_bestBoard : GoodIn wsL_law (wsV RL 140 RX8 yX8_bestBoard wsX8_bestBoard) := goodIn_app (goodIn_of _ (by decide +kernel)) ggL_law_X8_bestBoard
set_option maxRecDepth 20000 in
theorem ggL_law_X7_slowest : GoodIn wsL_law wsX7_slowest := goodIn_r _ [717, 21, 718, 324, 325, 20, 326, 49, 859, 860, 861, 862, 863, 879, 880, 881, 882, 883, 884] (by decide +kernel) (by decide +kernel)
set_option maxRecDepth 20000 in
theorem gL_law_X7_slowest : GoodIn wsL_law (wsV RL 141 RX7 yX7_slowest wsX7_slowest) := goodIn_app (goodIn_of _ (by decide +kernel)) ggL_law_X7_slowest
set_option maxRecDepth 20000 in
theorem ggL_law_X8_slowest : GoodIn wsL_law wsX8_slowest := goodIn_r _ [722, 137, 88, 209, 210, 5, 211, 864, 865, 866, 867, 868, 869, 870, 871, 872, 873, 874, 875, 876] (by decide +kernel) (by decide +kernel)
set_option maxRecDepth 20000 in
theorem gL_law_X8_slowest : GoodIn wsL_law (wsV RL 144 RX8 yX8_slowest wsX8_slowest) := goodIn_app (goodIn_of _ (by decide +kernel)) ggL_law_X8_slowest
set_option maxRecDepth 20000 in
theorem ggL_law_L_goesOn : GoodIn wsL_law wsL_goesOn := goodIn_ca (goodIn_r _ [725, 105, 726, 727, 728, 2, 729, 111, 112, 22, 21, 594, 311, 312, 730, 560, 561, 20, 562, 44, 48, 49, 277, 278, 279, 563, 564, 565, 43, 566, 54, 55, 56, 567, 568, 569, 47, 570, 61, 62, 288, 289, 453, 316, 317, 318, 596, 320, 321, 322, 323, 324, 325, 326, 327, 328, 329, 330, 331, 332, 333, 334, 335, 336, 337, 338, 339, 340, 341, 342, 343, 344, 345, 346, 347, 348, 349, 350, 351, 352, 353, 354, 355, 356, 357, 358, 359, 360, 361, 362, 363, 364, 365, 366, 367, 368, 369, 370, 371, 372, 373, 374, 375, 376, 377, 378, 379, 380, 381, 382, 383, 384, 385, 386, 387, 388, 389, 390, 391, 392, 393, 394, 395, 396, 397, 398, 399, 400, 401, 402, 280, 281, 282, 283, 315, 403, 404, 405, 406, 407, 408, 409, 410, 411, 436, 437, 438, 439, 440, 441, 442, 443, 859, 860, 861, 862, 863, 879, 880, 881, 882, 883, 884, 890, 891, 892, 893, 894, 895, 896, 897, 898] (by decide +kernel) (by decide +kernel)) (goodIn_sub (fun _ h => List.mem_append_left _ (List.mem_append_left _ (List.mem_append_right _ h))) (by decide +kernel))
set_option maxRecDepth 20000 in
theorem gL_law_L_goesOn : GoodIn wsL_law (va_wsS RL 145 yL_goesOn wsL_goesOn) := goodIn_app (goodIn_of _ (by decide +kernel)) ggL_law_L_goesOn
set_option maxRecDepth 20000 in
theorem ggL_law_X8_goesOn : GoodIn wsL_law wsX8_goesOn := goodIn_r _ [734, 88, 89, 602, 603, 5, 604, 605, 232, 233, 130, 131, 132, 133, 134, 135, 136, 137, 417, 418, 419, 202, 203, 204, 212, 213, 214, 215, 94, 216, 217, 218, 219, 220, 221, 222, 93, 223, 224, 225, 226, 227, 228, 229, 230, 231, 234, 235, 236, 237, 238, 239, 240, 241, 242, 243, 244, 245, 246, 247, 248, 249, 250, 251, 252, 253, 254, 255, 256, 257, 258, 259, 98, 99, 100, 260, 261, 262, 263, 264, 265, 458, 459, 460, 461, 462, 463, 464, 465, 466, 864, 865, 866, 867, 868, 869, 870, 871, 872, 873, 874, 875, 876] (by decide +kernel) (by decide +kernel)
set_option maxRecDepth 20000 in
theorem gL_law_X8_goesOn : GoodIn wsL_law (wsV RL 147 RX8 yX8_goesOn wsX8_goesOn) := goodIn_app (goodIn_of _ (by decide +kernel)) ggL_law_X8_goesOn
set_option maxRecDepth 20000 in
theorem ggL_law_X7_drops : GoodIn wsL_law wsX7_drops := goodIn_r _ [738, 21, 537, 538, 539, 20, 540, 49, 535, 2, 536, 739, 408, 409, 43, 410, 56, 368, 369, 370, 371, 54, 859, 860, 861, 862, 863, 879, 880, 881, 882, 883, 884, 890, 891, 892, 893, 894] (by decide +kernel) (by decide +kernel)
set_option maxRecDepth 20000 in
theorem gL_law_X7_drops : GoodIn wsL_law (wsV RL 148 RX7 yX7_drops wsX7_drops) := goodIn_app (goodIn_of _ (by decide +kernel)) ggL_law_X7_drops
set_option maxRecDepth 20000 in
theorem ggL_law_X8_drops : GoodIn wsL_law wsX8_drops := goodIn_r _ [743, 137, 88, 263, 264, 5, 265, 864, 865, 866, 867, 868, 869, 870, 871, 872, 873, 874, 875, 876] (by decide +kernel) (by decide +kernel)
set_option maxRecDepth 20000 in
theorem gL_law_X8_drops : GoodIn wsL_law (wsV RL 151 RX8 yX8_drops wsX8_drops) := goodIn_app (goodIn_of _ (by decide +kernel)) ggL_law_X8_drops
set_option maxRecDepth 20000 in
theorem ggL_law_L_runScript : GoodIn wsL_law wsL_runScript := goodIn_ca (goodIn_r _ [746, 105, 747, 748, 749, 2, 750, 111, 112, 22, 21, 751, 752, 753, 754, 755, 756, 757, 758, 730, 560, 561, 20, 562, 44, 48, 49, 277, 278, 279, 563, 564, 565, 43, 566, 54, 55, 56, 567, 568, 569, 47, 570, 61, 62, 288, 289, 759, 760, 761, 762, 763, 308, 309, 310, 311, 312, 313, 314, 315, 316, 317, 318, 319, 320, 321, 322, 323, 324, 325, 326, 327, 328, 329, 330, 331, 332, 333, 334, 335, 336, 337, 338, 339, 340, 341, 342, 343, 344, 345, 346, 347, 348, 349, 350, 351, 352, 353, 354, 355, 356, 357, 358, 359, 360, 361, 362, 363, 364, 365, 366, 367, 368, 369, 370, 371, 372, 373, 374, 375, 376, 377, 378, 379, 380, 381, 382, 383, 384, 385, 386, 387, 388, 389, 390, 391, 392, 393, 394, 395, 396, 397, 398, 399, 400, 401, 402, 280, 281, 282, 283, 403, 404, 405, 406, 407, 408, 409, 410, 411, 764, 765, 766, 767, 614, 615, 768, 769, 618, 619, 620, 621, 484, 485, 486, 481, 482, 770, 771, 772, 773, 535, 536, 637, 638, 613, 774, 640, 641, 642, 643, 538, 539, 540, 775, 776, 777, 778, 572, 573, 574, 575, 437, 438, 439, 440, 441, 442, 443, 284, 285, 286, 287, 779, 445, 446, 447, 780, 781, 782, 783, 859, 860, 861, 862, 863, 879, 880, 881, 882, 883, 884, 890, 891, 892, 893, 894, 895, 896, 897, 898] (by decide +kernel) (by decide +kernel)) (goodIn_sub (fun _ h => List.mem_append_left _ (List.mem_append_left _ (List.mem_append_right _ h))) (by decide +kernel))
set_option maxRecDepth 20000 in
theorem gL_law_L_runScript : GoodIn wsL_law (va_wsS RL 154 yL_runScript wsL_runScript) := goodIn_app (goodIn_of _ (by decide +kernel)) ggL_law_L_runScript
set_option maxRecDepth 20000 in
theorem ggL_law_X8_runScript : GoodIn wsL_law wsX8_runScript := goodIn_r _ [787, 788, 231, 88, 89, 130, 131, 5, 132, 133, 134, 135, 136, 137, 417, 418, 419, 789, 790, 791, 792, 602, 603, 604, 605, 232, 233, 202, 203, 204, 212, 213, 214, 215, 94, 216, 217, 218, 219, 220, 221, 222, 93, 223, 224, 225, 226, 227, 228, 229, 230, 234, 235, 236, 237, 238, 239, 240, 241, 242, 243, 244, 245, 246, 247, 248, 249, 250, 251, 252, 253, 254, 255, 256, 257, 258, 259, 98, 99, 100, 260, 261, 262, 263, 264, 265, 626, 627, 628, 648, 649, 650, 651, 584, 585, 586, 458, 459, 460, 461, 462, 463, 464, 465, 466, 864, 865, 866, 867, 868, 869, 870, 871, 872, 873, 874, 875, 876] (by decide +kernel) (by decide +kernel)
set_option maxRecDepth 20000 in
theorem gL_law_X8_runScript : GoodIn wsL_law (wsV RL 157 RX8 yX8_runScript wsX8_runScript) := goodIn_app (goodIn_of _ (by decide +kernel)) ggL_law_X8_runScript
set_option maxRecDepth 20000 in
theorem ggL_law_L_simulate : GoodIn wsL_law wsL_simulate := goodIn_ca (goodIn_r _ [795, 105, 796, 797, 798, 2, 799, 111, 112, 22, 21, 800, 801, 730, 560, 561, 20, 562, 44, 48, 49, 277, 278, 279, 563, 564, 565, 43, 566, 54, 55, 56, 567, 568, 569, 47, 570, 61, 62, 288, 289, 802, 803, 804, 805, 806, 765, 766, 767, 614, 615, 768, 345, 346, 347, 769, 618, 619, 620, 621, 484, 485, 486, 481, 482, 344, 807, 771, 772, 773, 535, 536, 637, 638, 613, 774, 640, 641, 642, 643, 538, 539, 540, 808, 308, 309, 310, 311, 312, 313, 314, 315, 316, 317, 318, 319, 320, 321, 322, 323, 324, 325, 326, 327, 328, 329, 330, 331, 332, 333, 334, 335, 336, 337, 338, 339, 340, 341, 342, 343, 348, 349, 350, 351, 352, 353, 354, 355, 356, 357, 358, 359, 360, 361, 362, 363, 364, 365, 366, 367, 368, 369, 370, 371, 372, 373, 374, 375, 376, 377, 378, 379, 380, 381, 382, 383, 384, 385, 386, 387, 388, 389, 390, 391, 392, 393, 394, 395, 396, 397, 398, 399, 400, 401, 402, 280, 281, 282, 283, 403, 404, 405, 406, 407, 408, 409, 410, 411, 432, 433, 434, 435, 436, 437, 438, 439, 440, 441, 442, 443, 859, 860, 861, 862, 863, 879, 880, 881, 882, 883, 884, 890, 891, 892, 893, 894, 895, 896, 897, 898] (by decide +kernel) (by decide +kernel)) (goodIn_sub (fun _ h => List.mem_append_left _ (List.mem_append_left _ (List.mem_append_right _ h))) (by decide +kernel))
set_option maxRecDepth 20000 in
theorem gL_law_L_simulate : GoodIn wsL_law (va_wsS RL 158 yL_simulate wsL_simulate) := goodIn_app (goodIn_of _ (by decide +kernel)) ggL_law_L_simulate
set_option maxRecDepth 20000 in
theorem ggL_law_X8_simulate : GoodIn wsL_law wsX8_simulate := goodIn_r _ [812, 813, 88, 89, 814, 815, 130, 131, 5, 132, 133, 134, 135, 136, 137, 417, 418, 419, 816, 817, 818, 819, 626, 627, 628, 202, 203, 204, 205, 206, 207, 208, 209, 210, 211, 212, 213, 214, 215, 94, 216, 217, 218, 219, 220, 221, 222, 93, 223, 224, 225, 226, 227, 228, 229, 230, 231, 232, 233, 234, 235, 236, 237, 238, 239, 240, 241, 242, 243, 244, 245, 246, 247, 248, 249, 250, 251, 252, 253, 254, 255, 256, 257, 258, 259, 98, 99, 100, 260, 261, 262, 263, 264, 265, 458, 459, 460, 461, 462, 463, 464, 465, 466, 864, 865, 866, 867, 868, 869, 870, 871, 872, 873, 874, 875, 876] (by decide +kernel) (by decide +kernel)
set_option maxRecDepth 20000 in
theorem gL_law_X8_simulate : GoodIn wsL_law (wsV RL 161 RX8 yX8_simulate wsX8_simulate) := goodIn_app (goodIn_of _ (by decide +kernel)) ggL_law_X8_simulate
set_option maxRecDepth 20000 in
theorem ggL_law_L_save : GoodIn wsL_law wsL_save := goodIn_ca (goodIn_r _ [822, 473, 823, 824, 825, 2, 826, 478, 479, 30, 21, 827, 828, 829, 830, 831, 832, 29, 833, 79, 81, 834, 560, 561, 20, 562, 44, 48, 49, 277, 278, 279, 563, 564, 565, 43, 566, 54, 55, 56, 567, 568, 569, 47, 570, 61, 62, 288, 289, 432, 433, 434, 435, 859, 860, 861, 862, 863, 879, 880, 881, 882, 883, 884, 888, 889, 890, 891, 892, 893, 894, 895, 896, 897, 898] (by decide +kernel) (by decide +kernel)) (goodIn_sub (fun _ h => List.mem_append_right _ h) (by decide +kernel))
set_option maxRecDepth 20000 in
theorem gL_law_L_save : GoodIn wsL_law (va_wsS RL 162 yL_save wsL_save) := goodIn_app (goodIn_of _ (by decide +kernel)) ggL_law_L_save
set_option maxRecDepth 20000 in
theorem ggL_law_X8_save : GoodIn wsL_law wsX8_save := goodIn_r _ [838, 88, 91, 92, 130, 131, 5, 132, 133, 134, 135, 136, 137, 417, 418, 419, 864, 865, 866, 867, 868, 869, 870, 871, 872, 873, 874, 875, 876] (by decide +kernel) (by decide +kernel)
set_option maxRecDepth 20000 in
theorem gL_law_X8_save : GoodIn wsL_law (wsV RL 164 RX8 yX8_save wsX8_save) := goodIn_app (goodIn_of _ (by decide +kernel)) ggL_law_X8_save
set_option maxRecDepth 20000 in
theorem ggL_law_L_restore : GoodIn wsL_law wsL_restore := goodIn_ca (goodIn_ca (goodIn_r _ [841, 473, 106, 842, 843, 844, 2, 845, 478, 479, 113, 114, 30, 21, 26, 827, 828, 829, 846, 847, 848, 29, 849, 81, 850, 851, 852, 853, 79, 854, 834, 560, 561, 20, 562, 44, 48, 49, 277, 278, 279, 563, 564, 565, 43, 566, 54, 55, 56, 567, 568, 569, 47, 570, 61, 62, 288, 289, 290, 291, 292, 25, 293, 294, 432, 433, 434, 435, 859, 860, 861, 862, 863, 879, 880, 881, 882, 883, 884, 888, 889, 890, 891, 892, 893, 894, 895, 896, 897, 898, 885, 886, 887] (by decide +kernel) (by decide +kernel)) (goodIn_sub (fun _ h => List.mem_append_right _ h) (by decide +kernel))) (goodIn_sub (fun _ h => List.mem_append_left _ (List.mem_append_right _ h)) (by decide +kernel))
set_option maxRecDepth 20000 in
theorem gL_law_L_restore : GoodIn wsL_law (va_wsS RL 165 yL_restore wsL_restore) := goodIn_app (goodIn_of _ (by decide +kernel)) ggL_law_L_restore
set_option maxRecDepth 20000 in
theorem ggL_law_X8_restore : GoodIn wsL_law wsX8_restore := goodIn_r _ [858, 92, 91, 88, 416, 130, 131, 5, 132, 133, 134, 135, 136, 137, 417, 418, 419, 864, 865, 866, 867, 868, 869, 870, 871, 872, 873, 874, 875, 876] (by decide +kernel) (by decide +kernel)
set_option maxRecDepth 20000 in
theorem gL_law_X8_restore : GoodIn wsL_law (wsV RL 167 RX8 yX8_restore wsX8_restore) := goodIn_app (goodIn_of _ (by decide +kernel)) ggL_law_X8_restore
theorem dL_law_0 : decode cL_law 0 = .ok (.new 8, 3) := by decide +kernel
theorem dL_law_3 : decode cL_law 3 = .ok (.dup, 1) := by decide +kernel
theorem dL_law_4 : decode cL_law 4 = .ok (.invokespecial 76, 3) := by decide +kernel
theorem dL_law_7 : decode cL_law 7 = .ok (.astore_n 1, 1) := by decide +kernel
theorem dL_law_8 : decode cL_law 8 = .ok (.new 77, 3) := by decide +kernel
theorem dL_law_11 : decode cL_law 11 = .ok (.dup, 1) := by decide +kernel
theorem dL_law_12 : decode cL_law 12 = .ok (.invokespecial 79, 3) := by decide +kernel
theorem dL_law_15 : decode cL_law 15 = .ok (.astore_n 2, 1) := by decide +kernel
theorem dL_law_16 : decode cL_law 16 = .ok (.iconst 1, 1) := by decide +kernel
theorem dL_law_17 : decode cL_law 17 = .ok (.newarray .long, 2) := by decide +kernel
theorem dL_law_19 : decode cL_law 19 = .ok (.astore_n 3, 1) := by decide +kernel
theorem dL_law_20 : decode cL_law 20 = .ok (.iconst 0, 1) := by decide +kernel
theorem dL_law_21 : decode cL_law 21 = .ok (.istore 4, 2) := by decide +kernel
theorem dL_law_23 : decode cL_law 23 = .ok (.iload 4, 2) := by decide +kernel
theorem dL_law_25 : decode cL_law 25 = .ok (.aload_n 0, 1) := by decide +kernel
theorem dL_law_26 : decode cL_law 26 = .ok (.arraylength, 1) := by decide +kernel
theorem dL_law_27 : decode cL_law 27 = .ok (.iconst 5, 1) := by decide +kernel
theorem dL_law_28 : decode cL_law 28 = .ok (.isub, 1) := by decide +kernel
theorem dL_law_29 : decode cL_law 29 = .ok (.if_icmp .gt 1394, 3) := by decide +kernel
theorem dL_law_32 : decode cL_law 32 = .ok (.aload_n 0, 1) := by decide +kernel
theorem dL_law_33 : decode cL_law 33 = .ok (.iload 4, 2) := by decide +kernel
theorem dL_law_35 : decode cL_law 35 = .ok (.iaload, 1) := by decide +kernel
theorem dL_law_36 : decode cL_law 36 = .ok (.bipush 31, 2) := by decide +kernel
theorem dL_law_38 : decode cL_law 38 = .ok (.iand, 1) := by decide +kernel
theorem dL_law_39 : decode cL_law 39 = .ok (.tableswitch 1378 0 22 #[105, 161, 174, 187, 231, 287, 355, 423, 479, 535, 548, 656, 724, 792, 836, 916, 972, 985, 1053, 1066, 1166, 1266, 1322], 105) := by decide +kernel
theorem dL_law_144 : decode cL_law 144 = .ok (.aload_n 1, 1) := by decide +kernel
theorem dL_law_145 : decode cL_law 145 = .ok (.aload_n 0, 1) := by decide +kernel
theorem dL_law_146 : decode cL_law 146 = .ok (.iload 4, 2) := by decide +kernel
theorem dL_law_148 : decode cL_law 148 = .ok (.iconst 1, 1) := by decide +kernel
theorem dL_law_149 : decode cL_law 149 = .ok (.iadd, 1) := by decide +kernel
theorem dL_law_150 : decode cL_law 150 = .ok (.iaload, 1) := by decide +kernel
theorem dL_law_151 : decode cL_law 151 = .ok (.aload_n 3, 1) := by decide +kernel
theorem dL_law_152 : decode cL_law 152 = .ok (.invokestatic 80, 3) := by decide +kernel
theorem dL_law_155 : decode cL_law 155 = .ok (.istore 5, 2) := by decide +kernel
theorem dL_law_157 : decode cL_law 157 = .ok (.aload_n 2, 1) := by decide +kernel
theorem dL_law_158 : decode cL_law 158 = .ok (.aload_n 0, 1) := by decide +kernel
theorem dL_law_159 : decode cL_law 159 = .ok (.iload 4, 2) := by decide +kernel
theorem dL_law_161 : decode cL_law 161 = .ok (.iconst 1, 1) := by decide +kernel
theorem dL_law_162 : decode cL_law 162 = .ok (.iadd, 1) := by decide +kernel
theorem dL_law_163 : decode cL_law 163 = .ok (.iaload, 1) := by decide +kernel
theorem dL_law_164 : decode cL_law 164 = .ok (.invokevirtual 85, 3) := by decide +kernel
theorem dL_law_167 : decode cL_law 167 = .ok (.istore 6, 2) := by decide +kernel
theorem dL_law_169 : decode cL_law 169 = .ok (.aload_n 2, 1) := by decide +kernel
theorem dL_law_170 : decode cL_law 170 = .ok (.invokevirtual 86, 3) := by decide +kernel
theorem dL_law_173 : decode cL_law 173 = .ok (.iload 5, 2) := by decide +kernel
theorem dL_law_175 : decode cL_law 175 = .ok (.if_icmp .eq 5, 3) := by decide +kernel
theorem dL_law_178 : decode cL_law 178 = .ok (.iconst 0, 1) := by decide +kernel
theorem dL_law_179 : decode cL_law 179 = .ok (.ireturn, 1) := by decide +kernel
theorem dL_law_180 : decode cL_law 180 = .ok (.iload 5, 2) := by decide +kernel
theorem dL_law_182 : decode cL_law 182 = .ok (.ifCond .ne 15, 3) := by decide +kernel
theorem dL_law_185 : decode cL_law 185 = .ok (.aload_n 3, 1) := by decide +kernel
theorem dL_law_186 : decode cL_law 186 = .ok (.iconst 0, 1) := by decide +kernel
theorem dL_law_187 : decode cL_law 187 = .ok (.laload, 1) := by decide +kernel
theorem dL_law_188 : decode cL_law 188 = .ok (.iload 6, 2) := by decide +kernel
theorem dL_law_190 : decode cL_law 190 = .ok (.i2l, 1) := by decide +kernel
theorem dL_law_191 : decode cL_law 191 = .ok (.lcmp, 1) := by decide +kernel
theorem dL_law_192 : decode cL_law 192 = .ok (.ifCond .eq 5, 3) := by decide +kernel
theorem dL_law_195 : decode cL_law 195 = .ok (.iconst 0, 1) := by decide +kernel
theorem dL_law_196 : decode cL_law 196 = .ok (.ireturn, 1) := by decide +kernel
theorem dL_law_197 : decode cL_law 197 = .ok (.goto 1220, 3) := by decide +kernel
theorem dL_law_200 : decode cL_law 200 = .ok (.aload_n 1, 1) := by decide +kernel
theorem dL_law_201 : decode cL_law 201 = .ok (.invokevirtual 89, 3) := by decide +kernel
theorem dL_law_204 : decode cL_law 204 = .ok (.aload_n 2, 1) := by decide +kernel
theorem dL_law_205 : decode cL_law 205 = .ok (.invokevirtual 92, 3) := by decide +kernel
theorem dL_law_208 : decode cL_law 208 = .ok (.if_icmp .eq 1209, 3) := by decide +kernel
theorem dL_law_211 : decode cL_law 211 = .ok (.iconst 0, 1) := by decide +kernel
theorem dL_law_212 : decode cL_law 212 = .ok (.ireturn, 1) := by decide +kernel
theorem dL_law_213 : decode cL_law 213 = .ok (.aload_n 1, 1) := by decide +kernel
theorem dL_law_214 : decode cL_law 214 = .ok (.invokevirtual 93, 3) := by decide +kernel
theorem dL_law_217 : decode cL_law 217 = .ok (.aload_n 2, 1) := by decide +kernel
theorem dL_law_218 : decode cL_law 218 = .ok (.invokevirtual 96, 3) := by decide +kernel
theorem dL_law_221 : decode cL_law 221 = .ok (.if_icmp .eq 1196, 3) := by decide +kernel
theorem dL_law_224 : decode cL_law 224 = .ok (.iconst 0, 1) := by decide +kernel
theorem dL_law_225 : decode cL_law 225 = .ok (.ireturn, 1) := by decide +kernel
theorem dL_law_226 : decode cL_law 226 = .ok (.aload_n 1, 1) := by decide +kernel
theorem dL_law_227 : decode cL_law 227 = .ok (.aload_n 3, 1) := by decide +kernel
theorem dL_law_228 : decode cL_law 228 = .ok (.invokestatic 97, 3) := by decide +kernel
theorem dL_law_231 : decode cL_law 231 = .ok (.istore 5, 2) := by decide +kernel
theorem dL_law_233 : decode cL_law 233 = .ok (.aload_n 2, 1) := by decide +kernel
theorem dL_law_234 : decode cL_law 234 = .ok (.invokevirtual 100, 3) := by decide +kernel
theorem dL_law_237 : decode cL_law 237 = .ok (.istore 6, 2) := by decide +kernel
theorem dL_law_239 : decode cL_law 239 = .ok (.aload_n 2, 1) := by decide +kernel
theorem dL_law_240 : decode cL_law 240 = .ok (.invokevirtual 86, 3) := by decide +kernel
theorem dL_law_243 : decode cL_law 243 = .ok (.iload 5, 2) := by decide +kernel
theorem dL_law_245 : decode cL_law 245 = .ok (.if_icmp .eq 5, 3) := by decide +kernel
theorem dL_law_248 : decode cL_law 248 = .ok (.iconst 0, 1) := by decide +kernel
theorem dL_law_249 : decode cL_law 249 = .ok (.ireturn, 1) := by decide +kernel
theorem dL_law_250 : decode cL_law 250 = .ok (.iload 5, 2) := by decide +kernel
theorem dL_law_252 : decode cL_law 252 = .ok (.ifCond .ne 15, 3) := by decide +kernel
theorem dL_law_255 : decode cL_law 255 = .ok (.aload_n 3, 1) := by decide +kernel
theorem dL_law_256 : decode cL_law 256 = .ok (.iconst 0, 1) := by decide +kernel
theorem dL_law_257 : decode cL_law 257 = .ok (.laload, 1) := by decide +kernel
theorem dL_law_258 : decode cL_law 258 = .ok (.iload 6, 2) := by decide +kernel
theorem dL_law_260 : decode cL_law 260 = .ok (.i2l, 1) := by decide +kernel
theorem dL_law_261 : decode cL_law 261 = .ok (.lcmp, 1) := by decide +kernel
theorem dL_law_262 : decode cL_law 262 = .ok (.ifCond .eq 5, 3) := by decide +kernel
theorem dL_law_265 : decode cL_law 265 = .ok (.iconst 0, 1) := by decide +kernel
theorem dL_law_266 : decode cL_law 266 = .ok (.ireturn, 1) := by decide +kernel
theorem dL_law_267 : decode cL_law 267 = .ok (.goto 1150, 3) := by decide +kernel
theorem dL_law_270 : decode cL_law 270 = .ok (.aload_n 1, 1) := by decide +kernel
theorem dL_law_271 : decode cL_law 271 = .ok (.aload_n 0, 1) := by decide +kernel
theorem dL_law_272 : decode cL_law 272 = .ok (.iload 4, 2) := by decide +kernel
theorem dL_law_274 : decode cL_law 274 = .ok (.iconst 1, 1) := by decide +kernel
theorem dL_law_275 : decode cL_law 275 = .ok (.iadd, 1) := by decide +kernel
theorem dL_law_276 : decode cL_law 276 = .ok (.iaload, 1) := by decide +kernel
theorem dL_law_277 : decode cL_law 277 = .ok (.aload_n 3, 1) := by decide +kernel
theorem dL_law_278 : decode cL_law 278 = .ok (.invokestatic 101, 3) := by decide +kernel
theorem dL_law_281 : decode cL_law 281 = .ok (.istore 5, 2) := by decide +kernel
theorem dL_law_283 : decode cL_law 283 = .ok (.aload_n 2, 1) := by decide +kernel
theorem dL_law_284 : decode cL_law 284 = .ok (.aload_n 0, 1) := by decide +kernel
theorem dL_law_285 : decode cL_law 285 = .ok (.iload 4, 2) := by decide +kernel
theorem dL_law_287 : decode cL_law 287 = .ok (.iconst 1, 1) := by decide +kernel
theorem dL_law_288 : decode cL_law 288 = .ok (.iadd, 1) := by decide +kernel
theorem dL_law_289 : decode cL_law 289 = .ok (.iaload, 1) := by decide +kernel
theorem dL_law_290 : decode cL_law 290 = .ok (.invokevirtual 103, 3) := by decide +kernel
theorem dL_law_293 : decode cL_law 293 = .ok (.istore 6, 2) := by decide +kernel
theorem dL_law_295 : decode cL_law 295 = .ok (.aload_n 2, 1) := by decide +kernel
theorem dL_law_296 : decode cL_law 296 = .ok (.invokevirtual 86, 3) := by decide +kernel
theorem dL_law_299 : decode cL_law 299 = .ok (.iload 5, 2) := by decide +kernel
theorem dL_law_301 : decode cL_law 301 = .ok (.if_icmp .eq 5, 3) := by decide +kernel
theorem dL_law_304 : decode cL_law 304 = .ok (.iconst 0, 1) := by decide +kernel
theorem dL_law_305 : decode cL_law 305 = .ok (.ireturn, 1) := by decide +kernel
theorem dL_law_306 : decode cL_law 306 = .ok (.iload 5, 2) := by decide +kernel
theorem dL_law_308 : decode cL_law 308 = .ok (.ifCond .ne 15, 3) := by decide +kernel
theorem dL_law_311 : decode cL_law 311 = .ok (.aload_n 3, 1) := by decide +kernel
theorem dL_law_312 : decode cL_law 312 = .ok (.iconst 0, 1) := by decide +kernel
theorem dL_law_313 : decode cL_law 313 = .ok (.laload, 1) := by decide +kernel
theorem dL_law_314 : decode cL_law 314 = .ok (.iload 6, 2) := by decide +kernel
theorem dL_law_316 : decode cL_law 316 = .ok (.i2l, 1) := by decide +kernel
theorem dL_law_317 : decode cL_law 317 = .ok (.lcmp, 1) := by decide +kernel
theorem dL_law_318 : decode cL_law 318 = .ok (.ifCond .eq 5, 3) := by decide +kernel
theorem dL_law_321 : decode cL_law 321 = .ok (.iconst 0, 1) := by decide +kernel
theorem dL_law_322 : decode cL_law 322 = .ok (.ireturn, 1) := by decide +kernel
theorem dL_law_323 : decode cL_law 323 = .ok (.goto 1094, 3) := by decide +kernel
theorem dL_law_326 : decode cL_law 326 = .ok (.aload_n 1, 1) := by decide +kernel
theorem dL_law_327 : decode cL_law 327 = .ok (.aload_n 0, 1) := by decide +kernel
theorem dL_law_328 : decode cL_law 328 = .ok (.iload 4, 2) := by decide +kernel
theorem dL_law_330 : decode cL_law 330 = .ok (.iconst 1, 1) := by decide +kernel
theorem dL_law_331 : decode cL_law 331 = .ok (.iadd, 1) := by decide +kernel
theorem dL_law_332 : decode cL_law 332 = .ok (.iaload, 1) := by decide +kernel
theorem dL_law_333 : decode cL_law 333 = .ok (.aload_n 0, 1) := by decide +kernel
theorem dL_law_334 : decode cL_law 334 = .ok (.iload 4, 2) := by decide +kernel
theorem dL_law_336 : decode cL_law 336 = .ok (.iconst 2, 1) := by decide +kernel
theorem dL_law_337 : decode cL_law 337 = .ok (.iadd, 1) := by decide +kernel
theorem dL_law_338 : decode cL_law 338 = .ok (.iaload, 1) := by decide +kernel
theorem dL_law_339 : decode cL_law 339 = .ok (.aload_n 3, 1) := by decide +kernel
theorem dL_law_340 : decode cL_law 340 = .ok (.invokestatic 104, 3) := by decide +kernel
theorem dL_law_343 : decode cL_law 343 = .ok (.istore 5, 2) := by decide +kernel
theorem dL_law_345 : decode cL_law 345 = .ok (.aload_n 2, 1) := by decide +kernel
theorem dL_law_346 : decode cL_law 346 = .ok (.aload_n 0, 1) := by decide +kernel
theorem dL_law_347 : decode cL_law 347 = .ok (.iload 4, 2) := by decide +kernel
theorem dL_law_349 : decode cL_law 349 = .ok (.iconst 1, 1) := by decide +kernel
theorem dL_law_350 : decode cL_law 350 = .ok (.iadd, 1) := by decide +kernel
theorem dL_law_351 : decode cL_law 351 = .ok (.iaload, 1) := by decide +kernel
theorem dL_law_352 : decode cL_law 352 = .ok (.aload_n 0, 1) := by decide +kernel
theorem dL_law_353 : decode cL_law 353 = .ok (.iload 4, 2) := by decide +kernel
theorem dL_law_355 : decode cL_law 355 = .ok (.iconst 2, 1) := by decide +kernel
theorem dL_law_356 : decode cL_law 356 = .ok (.iadd, 1) := by decide +kernel
theorem dL_law_357 : decode cL_law 357 = .ok (.iaload, 1) := by decide +kernel
theorem dL_law_358 : decode cL_law 358 = .ok (.invokevirtual 107, 3) := by decide +kernel
theorem dL_law_361 : decode cL_law 361 = .ok (.istore 6, 2) := by decide +kernel
theorem dL_law_363 : decode cL_law 363 = .ok (.aload_n 2, 1) := by decide +kernel
theorem dL_law_364 : decode cL_law 364 = .ok (.invokevirtual 86, 3) := by decide +kernel
theorem dL_law_367 : decode cL_law 367 = .ok (.iload 5, 2) := by decide +kernel
theorem dL_law_369 : decode cL_law 369 = .ok (.if_icmp .eq 5, 3) := by decide +kernel
theorem dL_law_372 : decode cL_law 372 = .ok (.iconst 0, 1) := by decide +kernel
theorem dL_law_373 : decode cL_law 373 = .ok (.ireturn, 1) := by decide +kernel
theorem dL_law_374 : decode cL_law 374 = .ok (.iload 5, 2) := by decide +kernel
theorem dL_law_376 : decode cL_law 376 = .ok (.ifCond .ne 15, 3) := by decide +kernel
theorem dL_law_379 : decode cL_law 379 = .ok (.aload_n 3, 1) := by decide +kernel
theorem dL_law_380 : decode cL_law 380 = .ok (.iconst 0, 1) := by decide +kernel
theorem dL_law_381 : decode cL_law 381 = .ok (.laload, 1) := by decide +kernel
theorem dL_law_382 : decode cL_law 382 = .ok (.iload 6, 2) := by decide +kernel
theorem dL_law_384 : decode cL_law 384 = .ok (.i2l, 1) := by decide +kernel
theorem dL_law_385 : decode cL_law 385 = .ok (.lcmp, 1) := by decide +kernel
theorem dL_law_386 : decode cL_law 386 = .ok (.ifCond .eq 5, 3) := by decide +kernel
theorem dL_law_389 : decode cL_law 389 = .ok (.iconst 0, 1) := by decide +kernel
theorem dL_law_390 : decode cL_law 390 = .ok (.ireturn, 1) := by decide +kernel
theorem dL_law_391 : decode cL_law 391 = .ok (.goto 1026, 3) := by decide +kernel
theorem dL_law_394 : decode cL_law 394 = .ok (.aload_n 1, 1) := by decide +kernel
theorem dL_law_395 : decode cL_law 395 = .ok (.aload_n 0, 1) := by decide +kernel
theorem dL_law_396 : decode cL_law 396 = .ok (.iload 4, 2) := by decide +kernel
theorem dL_law_398 : decode cL_law 398 = .ok (.iconst 1, 1) := by decide +kernel
theorem dL_law_399 : decode cL_law 399 = .ok (.iadd, 1) := by decide +kernel
theorem dL_law_400 : decode cL_law 400 = .ok (.iaload, 1) := by decide +kernel
theorem dL_law_401 : decode cL_law 401 = .ok (.aload_n 0, 1) := by decide +kernel
theorem dL_law_402 : decode cL_law 402 = .ok (.iload 4, 2) := by decide +kernel
theorem dL_law_404 : decode cL_law 404 = .ok (.iconst 2, 1) := by decide +kernel
theorem dL_law_405 : decode cL_law 405 = .ok (.iadd, 1) := by decide +kernel
theorem dL_law_406 : decode cL_law 406 = .ok (.iaload, 1) := by decide +kernel
theorem dL_law_407 : decode cL_law 407 = .ok (.aload_n 3, 1) := by decide +kernel
theorem dL_law_408 : decode cL_law 408 = .ok (.invokestatic 108, 3) := by decide +kernel
theorem dL_law_411 : decode cL_law 411 = .ok (.istore 5, 2) := by decide +kernel
theorem dL_law_413 : decode cL_law 413 = .ok (.aload_n 2, 1) := by decide +kernel
theorem dL_law_414 : decode cL_law 414 = .ok (.aload_n 0, 1) := by decide +kernel
theorem dL_law_415 : decode cL_law 415 = .ok (.iload 4, 2) := by decide +kernel
theorem dL_law_417 : decode cL_law 417 = .ok (.iconst 1, 1) := by decide +kernel
theorem dL_law_418 : decode cL_law 418 = .ok (.iadd, 1) := by decide +kernel
theorem dL_law_419 : decode cL_law 419 = .ok (.iaload, 1) := by decide +kernel
theorem dL_law_420 : decode cL_law 420 = .ok (.aload_n 0, 1) := by decide +kernel
theorem dL_law_421 : decode cL_law 421 = .ok (.iload 4, 2) := by decide +kernel
theorem dL_law_423 : decode cL_law 423 = .ok (.iconst 2, 1) := by decide +kernel
theorem dL_law_424 : decode cL_law 424 = .ok (.iadd, 1) := by decide +kernel
theorem dL_law_425 : decode cL_law 425 = .ok (.iaload, 1) := by decide +kernel
theorem dL_law_426 : decode cL_law 426 = .ok (.invokevirtual 110, 3) := by decide +kernel
theorem dL_law_429 : decode cL_law 429 = .ok (.istore 6, 2) := by decide +kernel
theorem dL_law_431 : decode cL_law 431 = .ok (.aload_n 2, 1) := by decide +kernel
theorem dL_law_432 : decode cL_law 432 = .ok (.invokevirtual 86, 3) := by decide +kernel
theorem dL_law_435 : decode cL_law 435 = .ok (.iload 5, 2) := by decide +kernel
theorem dL_law_437 : decode cL_law 437 = .ok (.if_icmp .eq 5, 3) := by decide +kernel
theorem dL_law_440 : decode cL_law 440 = .ok (.iconst 0, 1) := by decide +kernel
theorem dL_law_441 : decode cL_law 441 = .ok (.ireturn, 1) := by decide +kernel
theorem dL_law_442 : decode cL_law 442 = .ok (.iload 5, 2) := by decide +kernel
theorem dL_law_444 : decode cL_law 444 = .ok (.ifCond .ne 15, 3) := by decide +kernel
theorem dL_law_447 : decode cL_law 447 = .ok (.aload_n 3, 1) := by decide +kernel
theorem dL_law_448 : decode cL_law 448 = .ok (.iconst 0, 1) := by decide +kernel
theorem dL_law_449 : decode cL_law 449 = .ok (.laload, 1) := by decide +kernel
theorem dL_law_450 : decode cL_law 450 = .ok (.iload 6, 2) := by decide +kernel
theorem dL_law_452 : decode cL_law 452 = .ok (.i2l, 1) := by decide +kernel
theorem dL_law_453 : decode cL_law 453 = .ok (.lcmp, 1) := by decide +kernel
theorem dL_law_454 : decode cL_law 454 = .ok (.ifCond .eq 5, 3) := by decide +kernel
theorem dL_law_457 : decode cL_law 457 = .ok (.iconst 0, 1) := by decide +kernel
theorem dL_law_458 : decode cL_law 458 = .ok (.ireturn, 1) := by decide +kernel
theorem dL_law_459 : decode cL_law 459 = .ok (.goto 958, 3) := by decide +kernel
theorem dL_law_462 : decode cL_law 462 = .ok (.aload_n 1, 1) := by decide +kernel
theorem dL_law_463 : decode cL_law 463 = .ok (.aload_n 0, 1) := by decide +kernel
theorem dL_law_464 : decode cL_law 464 = .ok (.iload 4, 2) := by decide +kernel
theorem dL_law_466 : decode cL_law 466 = .ok (.iconst 1, 1) := by decide +kernel
theorem dL_law_467 : decode cL_law 467 = .ok (.iadd, 1) := by decide +kernel
theorem dL_law_468 : decode cL_law 468 = .ok (.iaload, 1) := by decide +kernel
theorem dL_law_469 : decode cL_law 469 = .ok (.aload_n 3, 1) := by decide +kernel
theorem dL_law_470 : decode cL_law 470 = .ok (.invokestatic 111, 3) := by decide +kernel
theorem dL_law_473 : decode cL_law 473 = .ok (.istore 5, 2) := by decide +kernel
theorem dL_law_475 : decode cL_law 475 = .ok (.aload_n 2, 1) := by decide +kernel
theorem dL_law_476 : decode cL_law 476 = .ok (.aload_n 0, 1) := by decide +kernel
theorem dL_law_477 : decode cL_law 477 = .ok (.iload 4, 2) := by decide +kernel
theorem dL_law_479 : decode cL_law 479 = .ok (.iconst 1, 1) := by decide +kernel
theorem dL_law_480 : decode cL_law 480 = .ok (.iadd, 1) := by decide +kernel
theorem dL_law_481 : decode cL_law 481 = .ok (.iaload, 1) := by decide +kernel
theorem dL_law_482 : decode cL_law 482 = .ok (.invokevirtual 113, 3) := by decide +kernel
theorem dL_law_485 : decode cL_law 485 = .ok (.istore 6, 2) := by decide +kernel
theorem dL_law_487 : decode cL_law 487 = .ok (.aload_n 2, 1) := by decide +kernel
theorem dL_law_488 : decode cL_law 488 = .ok (.invokevirtual 86, 3) := by decide +kernel
theorem dL_law_491 : decode cL_law 491 = .ok (.iload 5, 2) := by decide +kernel
theorem dL_law_493 : decode cL_law 493 = .ok (.if_icmp .eq 5, 3) := by decide +kernel
theorem dL_law_496 : decode cL_law 496 = .ok (.iconst 0, 1) := by decide +kernel
theorem dL_law_497 : decode cL_law 497 = .ok (.ireturn, 1) := by decide +kernel
theorem dL_law_498 : decode cL_law 498 = .ok (.iload 5, 2) := by decide +kernel
theorem dL_law_500 : decode cL_law 500 = .ok (.ifCond .ne 15, 3) := by decide +kernel
theorem dL_law_503 : decode cL_law 503 = .ok (.aload_n 3, 1) := by decide +kernel
theorem dL_law_504 : decode cL_law 504 = .ok (.iconst 0, 1) := by decide +kernel
theorem dL_law_505 : decode cL_law 505 = .ok (.laload, 1) := by decide +kernel
theorem dL_law_506 : decode cL_law 506 = .ok (.iload 6, 2) := by decide +kernel
theorem dL_law_508 : decode cL_law 508 = .ok (.i2l, 1) := by decide +kernel
theorem dL_law_509 : decode cL_law 509 = .ok (.lcmp, 1) := by decide +kernel
theorem dL_law_510 : decode cL_law 510 = .ok (.ifCond .eq 5, 3) := by decide +kernel
theorem dL_law_513 : decode cL_law 513 = .ok (.iconst 0, 1) := by decide +kernel
theorem dL_law_514 : decode cL_law 514 = .ok (.ireturn, 1) := by decide +kernel
theorem dL_law_515 : decode cL_law 515 = .ok (.goto 902, 3) := by decide +kernel
theorem dL_law_518 : decode cL_law 518 = .ok (.aload_n 1, 1) := by decide +kernel
theorem dL_law_519 : decode cL_law 519 = .ok (.aload_n 0, 1) := by decide +kernel
theorem dL_law_520 : decode cL_law 520 = .ok (.iload 4, 2) := by decide +kernel
theorem dL_law_522 : decode cL_law 522 = .ok (.iconst 1, 1) := by decide +kernel
theorem dL_law_523 : decode cL_law 523 = .ok (.iadd, 1) := by decide +kernel
theorem dL_law_524 : decode cL_law 524 = .ok (.iaload, 1) := by decide +kernel
theorem dL_law_525 : decode cL_law 525 = .ok (.aload_n 3, 1) := by decide +kernel
theorem dL_law_526 : decode cL_law 526 = .ok (.invokestatic 114, 3) := by decide +kernel
theorem dL_law_529 : decode cL_law 529 = .ok (.istore 5, 2) := by decide +kernel
theorem dL_law_531 : decode cL_law 531 = .ok (.aload_n 2, 1) := by decide +kernel
theorem dL_law_532 : decode cL_law 532 = .ok (.aload_n 0, 1) := by decide +kernel
theorem dL_law_533 : decode cL_law 533 = .ok (.iload 4, 2) := by decide +kernel
theorem dL_law_535 : decode cL_law 535 = .ok (.iconst 1, 1) := by decide +kernel
theorem dL_law_536 : decode cL_law 536 = .ok (.iadd, 1) := by decide +kernel
theorem dL_law_537 : decode cL_law 537 = .ok (.iaload, 1) := by decide +kernel
theorem dL_law_538 : decode cL_law 538 = .ok (.invokevirtual 116, 3) := by decide +kernel
theorem dL_law_541 : decode cL_law 541 = .ok (.istore 6, 2) := by decide +kernel
theorem dL_law_543 : decode cL_law 543 = .ok (.aload_n 2, 1) := by decide +kernel
theorem dL_law_544 : decode cL_law 544 = .ok (.invokevirtual 86, 3) := by decide +kernel
theorem dL_law_547 : decode cL_law 547 = .ok (.iload 5, 2) := by decide +kernel
theorem dL_law_549 : decode cL_law 549 = .ok (.if_icmp .eq 5, 3) := by decide +kernel
theorem dL_law_552 : decode cL_law 552 = .ok (.iconst 0, 1) := by decide +kernel
theorem dL_law_553 : decode cL_law 553 = .ok (.ireturn, 1) := by decide +kernel
theorem dL_law_554 : decode cL_law 554 = .ok (.iload 5, 2) := by decide +kernel
theorem dL_law_556 : decode cL_law 556 = .ok (.ifCond .ne 15, 3) := by decide +kernel
theorem dL_law_559 : decode cL_law 559 = .ok (.aload_n 3, 1) := by decide +kernel
theorem dL_law_560 : decode cL_law 560 = .ok (.iconst 0, 1) := by decide +kernel
theorem dL_law_561 : decode cL_law 561 = .ok (.laload, 1) := by decide +kernel
theorem dL_law_562 : decode cL_law 562 = .ok (.iload 6, 2) := by decide +kernel
theorem dL_law_564 : decode cL_law 564 = .ok (.i2l, 1) := by decide +kernel
theorem dL_law_565 : decode cL_law 565 = .ok (.lcmp, 1) := by decide +kernel
theorem dL_law_566 : decode cL_law 566 = .ok (.ifCond .eq 5, 3) := by decide +kernel
theorem dL_law_569 : decode cL_law 569 = .ok (.iconst 0, 1) := by decide +kernel
theorem dL_law_570 : decode cL_law 570 = .ok (.ireturn, 1) := by decide +kernel
theorem dL_law_571 : decode cL_law 571 = .ok (.goto 846, 3) := by decide +kernel
theorem dL_law_574 : decode cL_law 574 = .ok (.aload_n 1, 1) := by decide +kernel
theorem dL_law_575 : decode cL_law 575 = .ok (.invokevirtual 117, 3) := by decide +kernel
theorem dL_law_578 : decode cL_law 578 = .ok (.aload_n 2, 1) := by decide +kernel
theorem dL_law_579 : decode cL_law 579 = .ok (.invokevirtual 120, 3) := by decide +kernel
theorem dL_law_582 : decode cL_law 582 = .ok (.if_icmp .eq 835, 3) := by decide +kernel
theorem dL_law_585 : decode cL_law 585 = .ok (.iconst 0, 1) := by decide +kernel
theorem dL_law_586 : decode cL_law 586 = .ok (.ireturn, 1) := by decide +kernel
theorem dL_law_587 : decode cL_law 587 = .ok (.aload_n 1, 1) := by decide +kernel
theorem dL_law_588 : decode cL_law 588 = .ok (.aload_n 0, 1) := by decide +kernel
theorem dL_law_589 : decode cL_law 589 = .ok (.iload 4, 2) := by decide +kernel
theorem dL_law_591 : decode cL_law 591 = .ok (.iconst 1, 1) := by decide +kernel
theorem dL_law_592 : decode cL_law 592 = .ok (.iadd, 1) := by decide +kernel
theorem dL_law_593 : decode cL_law 593 = .ok (.iaload, 1) := by decide +kernel
theorem dL_law_594 : decode cL_law 594 = .ok (.aload_n 0, 1) := by decide +kernel
theorem dL_law_595 : decode cL_law 595 = .ok (.iload 4, 2) := by decide +kernel
theorem dL_law_597 : decode cL_law 597 = .ok (.iconst 2, 1) := by decide +kernel
theorem dL_law_598 : decode cL_law 598 = .ok (.iadd, 1) := by decide +kernel
theorem dL_law_599 : decode cL_law 599 = .ok (.iaload, 1) := by decide +kernel
theorem dL_law_600 : decode cL_law 600 = .ok (.aload_n 0, 1) := by decide +kernel
theorem dL_law_601 : decode cL_law 601 = .ok (.iload 4, 2) := by decide +kernel
theorem dL_law_603 : decode cL_law 603 = .ok (.iconst 3, 1) := by decide +kernel
theorem dL_law_604 : decode cL_law 604 = .ok (.iadd, 1) := by decide +kernel
theorem dL_law_605 : decode cL_law 605 = .ok (.iaload, 1) := by decide +kernel
theorem dL_law_606 : decode cL_law 606 = .ok (.aload_n 0, 1) := by decide +kernel
theorem dL_law_607 : decode cL_law 607 = .ok (.iload 4, 2) := by decide +kernel
theorem dL_law_609 : decode cL_law 609 = .ok (.iconst 4, 1) := by decide +kernel
theorem dL_law_610 : decode cL_law 610 = .ok (.iadd, 1) := by decide +kernel
theorem dL_law_611 : decode cL_law 611 = .ok (.iaload, 1) := by decide +kernel
theorem dL_law_612 : decode cL_law 612 = .ok (.ifCond .eq 7, 3) := by decide +kernel
theorem dL_law_615 : decode cL_law 615 = .ok (.iconst 1, 1) := by decide +kernel
theorem dL_law_616 : decode cL_law 616 = .ok (.goto 4, 3) := by decide +kernel
theorem dL_law_619 : decode cL_law 619 = .ok (.iconst 0, 1) := by decide +kernel
theorem dL_law_620 : decode cL_law 620 = .ok (.aload_n 3, 1) := by decide +kernel
theorem dL_law_621 : decode cL_law 621 = .ok (.invokestatic 121, 3) := by decide +kernel
theorem dL_law_624 : decode cL_law 624 = .ok (.istore 5, 2) := by decide +kernel
theorem dL_law_626 : decode cL_law 626 = .ok (.aload_n 2, 1) := by decide +kernel
theorem dL_law_627 : decode cL_law 627 = .ok (.aload_n 0, 1) := by decide +kernel
theorem dL_law_628 : decode cL_law 628 = .ok (.iload 4, 2) := by decide +kernel
theorem dL_law_630 : decode cL_law 630 = .ok (.iconst 1, 1) := by decide +kernel
theorem dL_law_631 : decode cL_law 631 = .ok (.iadd, 1) := by decide +kernel
theorem dL_law_632 : decode cL_law 632 = .ok (.iaload, 1) := by decide +kernel
theorem dL_law_633 : decode cL_law 633 = .ok (.aload_n 0, 1) := by decide +kernel
theorem dL_law_634 : decode cL_law 634 = .ok (.iload 4, 2) := by decide +kernel
theorem dL_law_636 : decode cL_law 636 = .ok (.iconst 2, 1) := by decide +kernel
theorem dL_law_637 : decode cL_law 637 = .ok (.iadd, 1) := by decide +kernel
theorem dL_law_638 : decode cL_law 638 = .ok (.iaload, 1) := by decide +kernel
theorem dL_law_639 : decode cL_law 639 = .ok (.aload_n 0, 1) := by decide +kernel
theorem dL_law_640 : decode cL_law 640 = .ok (.iload 4, 2) := by decide +kernel
theorem dL_law_642 : decode cL_law 642 = .ok (.iconst 3, 1) := by decide +kernel
theorem dL_law_643 : decode cL_law 643 = .ok (.iadd, 1) := by decide +kernel
theorem dL_law_644 : decode cL_law 644 = .ok (.iaload, 1) := by decide +kernel
theorem dL_law_645 : decode cL_law 645 = .ok (.aload_n 0, 1) := by decide +kernel
theorem dL_law_646 : decode cL_law 646 = .ok (.iload 4, 2) := by decide +kernel
theorem dL_law_648 : decode cL_law 648 = .ok (.iconst 4, 1) := by decide +kernel
theorem dL_law_649 : decode cL_law 649 = .ok (.iadd, 1) := by decide +kernel
theorem dL_law_650 : decode cL_law 650 = .ok (.iaload, 1) := by decide +kernel
theorem dL_law_651 : decode cL_law 651 = .ok (.ifCond .eq 7, 3) := by decide +kernel
theorem dL_law_654 : decode cL_law 654 = .ok (.iconst 1, 1) := by decide +kernel
theorem dL_law_655 : decode cL_law 655 = .ok (.goto 4, 3) := by decide +kernel
theorem dL_law_658 : decode cL_law 658 = .ok (.iconst 0, 1) := by decide +kernel
theorem dL_law_659 : decode cL_law 659 = .ok (.invokevirtual 124, 3) := by decide +kernel
theorem dL_law_662 : decode cL_law 662 = .ok (.istore 6, 2) := by decide +kernel
theorem dL_law_664 : decode cL_law 664 = .ok (.aload_n 2, 1) := by decide +kernel
theorem dL_law_665 : decode cL_law 665 = .ok (.invokevirtual 86, 3) := by decide +kernel
theorem dL_law_668 : decode cL_law 668 = .ok (.iload 5, 2) := by decide +kernel
theorem dL_law_670 : decode cL_law 670 = .ok (.if_icmp .eq 5, 3) := by decide +kernel
theorem dL_law_673 : decode cL_law 673 = .ok (.iconst 0, 1) := by decide +kernel
theorem dL_law_674 : decode cL_law 674 = .ok (.ireturn, 1) := by decide +kernel
theorem dL_law_675 : decode cL_law 675 = .ok (.iload 5, 2) := by decide +kernel
theorem dL_law_677 : decode cL_law 677 = .ok (.ifCond .ne 15, 3) := by decide +kernel
theorem dL_law_680 : decode cL_law 680 = .ok (.aload_n 3, 1) := by decide +kernel
theorem dL_law_681 : decode cL_law 681 = .ok (.iconst 0, 1) := by decide +kernel
theorem dL_law_682 : decode cL_law 682 = .ok (.laload, 1) := by decide +kernel
theorem dL_law_683 : decode cL_law 683 = .ok (.iload 6, 2) := by decide +kernel
theorem dL_law_685 : decode cL_law 685 = .ok (.i2l, 1) := by decide +kernel
theorem dL_law_686 : decode cL_law 686 = .ok (.lcmp, 1) := by decide +kernel
theorem dL_law_687 : decode cL_law 687 = .ok (.ifCond .eq 5, 3) := by decide +kernel
theorem dL_law_690 : decode cL_law 690 = .ok (.iconst 0, 1) := by decide +kernel
theorem dL_law_691 : decode cL_law 691 = .ok (.ireturn, 1) := by decide +kernel
theorem dL_law_692 : decode cL_law 692 = .ok (.goto 725, 3) := by decide +kernel
theorem dL_law_695 : decode cL_law 695 = .ok (.aload_n 1, 1) := by decide +kernel
theorem dL_law_696 : decode cL_law 696 = .ok (.aload_n 0, 1) := by decide +kernel
theorem dL_law_697 : decode cL_law 697 = .ok (.iload 4, 2) := by decide +kernel
theorem dL_law_699 : decode cL_law 699 = .ok (.iconst 1, 1) := by decide +kernel
theorem dL_law_700 : decode cL_law 700 = .ok (.iadd, 1) := by decide +kernel
theorem dL_law_701 : decode cL_law 701 = .ok (.iaload, 1) := by decide +kernel
theorem dL_law_702 : decode cL_law 702 = .ok (.aload_n 0, 1) := by decide +kernel
theorem dL_law_703 : decode cL_law 703 = .ok (.iload 4, 2) := by decide +kernel
theorem dL_law_705 : decode cL_law 705 = .ok (.iconst 2, 1) := by decide +kernel
theorem dL_law_706 : decode cL_law 706 = .ok (.iadd, 1) := by decide +kernel
theorem dL_law_707 : decode cL_law 707 = .ok (.iaload, 1) := by decide +kernel
theorem dL_law_708 : decode cL_law 708 = .ok (.aload_n 3, 1) := by decide +kernel
theorem dL_law_709 : decode cL_law 709 = .ok (.invokestatic 125, 3) := by decide +kernel
theorem dL_law_712 : decode cL_law 712 = .ok (.istore 5, 2) := by decide +kernel
theorem dL_law_714 : decode cL_law 714 = .ok (.aload_n 2, 1) := by decide +kernel
theorem dL_law_715 : decode cL_law 715 = .ok (.aload_n 0, 1) := by decide +kernel
theorem dL_law_716 : decode cL_law 716 = .ok (.iload 4, 2) := by decide +kernel
theorem dL_law_718 : decode cL_law 718 = .ok (.iconst 1, 1) := by decide +kernel
theorem dL_law_719 : decode cL_law 719 = .ok (.iadd, 1) := by decide +kernel
theorem dL_law_720 : decode cL_law 720 = .ok (.iaload, 1) := by decide +kernel
theorem dL_law_721 : decode cL_law 721 = .ok (.aload_n 0, 1) := by decide +kernel
theorem dL_law_722 : decode cL_law 722 = .ok (.iload 4, 2) := by decide +kernel
theorem dL_law_724 : decode cL_law 724 = .ok (.iconst 2, 1) := by decide +kernel
theorem dL_law_725 : decode cL_law 725 = .ok (.iadd, 1) := by decide +kernel
theorem dL_law_726 : decode cL_law 726 = .ok (.iaload, 1) := by decide +kernel
theorem dL_law_727 : decode cL_law 727 = .ok (.invokevirtual 127, 3) := by decide +kernel
theorem dL_law_730 : decode cL_law 730 = .ok (.istore 6, 2) := by decide +kernel
theorem dL_law_732 : decode cL_law 732 = .ok (.aload_n 2, 1) := by decide +kernel
theorem dL_law_733 : decode cL_law 733 = .ok (.invokevirtual 86, 3) := by decide +kernel
theorem dL_law_736 : decode cL_law 736 = .ok (.iload 5, 2) := by decide +kernel
theorem dL_law_738 : decode cL_law 738 = .ok (.if_icmp .eq 5, 3) := by decide +kernel
theorem dL_law_741 : decode cL_law 741 = .ok (.iconst 0, 1) := by decide +kernel
theorem dL_law_742 : decode cL_law 742 = .ok (.ireturn, 1) := by decide +kernel
theorem dL_law_743 : decode cL_law 743 = .ok (.iload 5, 2) := by decide +kernel
theorem dL_law_745 : decode cL_law 745 = .ok (.ifCond .ne 15, 3) := by decide +kernel
theorem dL_law_748 : decode cL_law 748 = .ok (.aload_n 3, 1) := by decide +kernel
theorem dL_law_749 : decode cL_law 749 = .ok (.iconst 0, 1) := by decide +kernel
theorem dL_law_750 : decode cL_law 750 = .ok (.laload, 1) := by decide +kernel
theorem dL_law_751 : decode cL_law 751 = .ok (.iload 6, 2) := by decide +kernel
theorem dL_law_753 : decode cL_law 753 = .ok (.i2l, 1) := by decide +kernel
theorem dL_law_754 : decode cL_law 754 = .ok (.lcmp, 1) := by decide +kernel
theorem dL_law_755 : decode cL_law 755 = .ok (.ifCond .eq 5, 3) := by decide +kernel
theorem dL_law_758 : decode cL_law 758 = .ok (.iconst 0, 1) := by decide +kernel
theorem dL_law_759 : decode cL_law 759 = .ok (.ireturn, 1) := by decide +kernel
theorem dL_law_760 : decode cL_law 760 = .ok (.goto 657, 3) := by decide +kernel
theorem dL_law_763 : decode cL_law 763 = .ok (.aload_n 1, 1) := by decide +kernel
theorem dL_law_764 : decode cL_law 764 = .ok (.aload_n 0, 1) := by decide +kernel
theorem dL_law_765 : decode cL_law 765 = .ok (.iload 4, 2) := by decide +kernel
theorem dL_law_767 : decode cL_law 767 = .ok (.iconst 1, 1) := by decide +kernel
theorem dL_law_768 : decode cL_law 768 = .ok (.iadd, 1) := by decide +kernel
theorem dL_law_769 : decode cL_law 769 = .ok (.iaload, 1) := by decide +kernel
theorem dL_law_770 : decode cL_law 770 = .ok (.aload_n 0, 1) := by decide +kernel
theorem dL_law_771 : decode cL_law 771 = .ok (.iload 4, 2) := by decide +kernel
theorem dL_law_773 : decode cL_law 773 = .ok (.iconst 2, 1) := by decide +kernel
theorem dL_law_774 : decode cL_law 774 = .ok (.iadd, 1) := by decide +kernel
theorem dL_law_775 : decode cL_law 775 = .ok (.iaload, 1) := by decide +kernel
theorem dL_law_776 : decode cL_law 776 = .ok (.aload_n 3, 1) := by decide +kernel
theorem dL_law_777 : decode cL_law 777 = .ok (.invokestatic 128, 3) := by decide +kernel
theorem dL_law_780 : decode cL_law 780 = .ok (.istore 5, 2) := by decide +kernel
theorem dL_law_782 : decode cL_law 782 = .ok (.aload_n 2, 1) := by decide +kernel
theorem dL_law_783 : decode cL_law 783 = .ok (.aload_n 0, 1) := by decide +kernel
theorem dL_law_784 : decode cL_law 784 = .ok (.iload 4, 2) := by decide +kernel
theorem dL_law_786 : decode cL_law 786 = .ok (.iconst 1, 1) := by decide +kernel
theorem dL_law_787 : decode cL_law 787 = .ok (.iadd, 1) := by decide +kernel
theorem dL_law_788 : decode cL_law 788 = .ok (.iaload, 1) := by decide +kernel
theorem dL_law_789 : decode cL_law 789 = .ok (.aload_n 0, 1) := by decide +kernel
theorem dL_law_790 : decode cL_law 790 = .ok (.iload 4, 2) := by decide +kernel
theorem dL_law_792 : decode cL_law 792 = .ok (.iconst 2, 1) := by decide +kernel
theorem dL_law_793 : decode cL_law 793 = .ok (.iadd, 1) := by decide +kernel
theorem dL_law_794 : decode cL_law 794 = .ok (.iaload, 1) := by decide +kernel
theorem dL_law_795 : decode cL_law 795 = .ok (.invokevirtual 130, 3) := by decide +kernel
theorem dL_law_798 : decode cL_law 798 = .ok (.istore 6, 2) := by decide +kernel
theorem dL_law_800 : decode cL_law 800 = .ok (.aload_n 2, 1) := by decide +kernel
theorem dL_law_801 : decode cL_law 801 = .ok (.invokevirtual 86, 3) := by decide +kernel
theorem dL_law_804 : decode cL_law 804 = .ok (.iload 5, 2) := by decide +kernel
theorem dL_law_806 : decode cL_law 806 = .ok (.if_icmp .eq 5, 3) := by decide +kernel
theorem dL_law_809 : decode cL_law 809 = .ok (.iconst 0, 1) := by decide +kernel
theorem dL_law_810 : decode cL_law 810 = .ok (.ireturn, 1) := by decide +kernel
theorem dL_law_811 : decode cL_law 811 = .ok (.iload 5, 2) := by decide +kernel
theorem dL_law_813 : decode cL_law 813 = .ok (.ifCond .ne 15, 3) := by decide +kernel
theorem dL_law_816 : decode cL_law 816 = .ok (.aload_n 3, 1) := by decide +kernel
theorem dL_law_817 : decode cL_law 817 = .ok (.iconst 0, 1) := by decide +kernel
theorem dL_law_818 : decode cL_law 818 = .ok (.laload, 1) := by decide +kernel
theorem dL_law_819 : decode cL_law 819 = .ok (.iload 6, 2) := by decide +kernel
theorem dL_law_821 : decode cL_law 821 = .ok (.i2l, 1) := by decide +kernel
theorem dL_law_822 : decode cL_law 822 = .ok (.lcmp, 1) := by decide +kernel
theorem dL_law_823 : decode cL_law 823 = .ok (.ifCond .eq 5, 3) := by decide +kernel
theorem dL_law_826 : decode cL_law 826 = .ok (.iconst 0, 1) := by decide +kernel
theorem dL_law_827 : decode cL_law 827 = .ok (.ireturn, 1) := by decide +kernel
theorem dL_law_828 : decode cL_law 828 = .ok (.goto 589, 3) := by decide +kernel
theorem dL_law_831 : decode cL_law 831 = .ok (.aload_n 1, 1) := by decide +kernel
theorem dL_law_832 : decode cL_law 832 = .ok (.aload_n 3, 1) := by decide +kernel
theorem dL_law_833 : decode cL_law 833 = .ok (.invokestatic 131, 3) := by decide +kernel
theorem dL_law_836 : decode cL_law 836 = .ok (.istore 5, 2) := by decide +kernel
theorem dL_law_838 : decode cL_law 838 = .ok (.aload_n 2, 1) := by decide +kernel
theorem dL_law_839 : decode cL_law 839 = .ok (.invokevirtual 133, 3) := by decide +kernel
theorem dL_law_842 : decode cL_law 842 = .ok (.istore 6, 2) := by decide +kernel
theorem dL_law_844 : decode cL_law 844 = .ok (.aload_n 2, 1) := by decide +kernel
theorem dL_law_845 : decode cL_law 845 = .ok (.invokevirtual 86, 3) := by decide +kernel
theorem dL_law_848 : decode cL_law 848 = .ok (.iload 5, 2) := by decide +kernel
theorem dL_law_850 : decode cL_law 850 = .ok (.if_icmp .eq 5, 3) := by decide +kernel
theorem dL_law_853 : decode cL_law 853 = .ok (.iconst 0, 1) := by decide +kernel
theorem dL_law_854 : decode cL_law 854 = .ok (.ireturn, 1) := by decide +kernel
theorem dL_law_855 : decode cL_law 855 = .ok (.iload 5, 2) := by decide +kernel
theorem dL_law_857 : decode cL_law 857 = .ok (.ifCond .ne 15, 3) := by decide +kernel
theorem dL_law_860 : decode cL_law 860 = .ok (.aload_n 3, 1) := by decide +kernel
theorem dL_law_861 : decode cL_law 861 = .ok (.iconst 0, 1) := by decide +kernel
theorem dL_law_862 : decode cL_law 862 = .ok (.laload, 1) := by decide +kernel
theorem dL_law_863 : decode cL_law 863 = .ok (.iload 6, 2) := by decide +kernel
theorem dL_law_865 : decode cL_law 865 = .ok (.i2l, 1) := by decide +kernel
theorem dL_law_866 : decode cL_law 866 = .ok (.lcmp, 1) := by decide +kernel
theorem dL_law_867 : decode cL_law 867 = .ok (.ifCond .eq 5, 3) := by decide +kernel
theorem dL_law_870 : decode cL_law 870 = .ok (.iconst 0, 1) := by decide +kernel
theorem dL_law_871 : decode cL_law 871 = .ok (.ireturn, 1) := by decide +kernel
theorem dL_law_872 : decode cL_law 872 = .ok (.goto 545, 3) := by decide +kernel
theorem dL_law_875 : decode cL_law 875 = .ok (.aload_n 1, 1) := by decide +kernel
theorem dL_law_876 : decode cL_law 876 = .ok (.aload_n 0, 1) := by decide +kernel
theorem dL_law_877 : decode cL_law 877 = .ok (.iload 4, 2) := by decide +kernel
theorem dL_law_879 : decode cL_law 879 = .ok (.iconst 1, 1) := by decide +kernel
theorem dL_law_880 : decode cL_law 880 = .ok (.iadd, 1) := by decide +kernel
theorem dL_law_881 : decode cL_law 881 = .ok (.iaload, 1) := by decide +kernel
theorem dL_law_882 : decode cL_law 882 = .ok (.aload_n 0, 1) := by decide +kernel
theorem dL_law_883 : decode cL_law 883 = .ok (.iload 4, 2) := by decide +kernel
theorem dL_law_885 : decode cL_law 885 = .ok (.iconst 2, 1) := by decide +kernel
theorem dL_law_886 : decode cL_law 886 = .ok (.iadd, 1) := by decide +kernel
theorem dL_law_887 : decode cL_law 887 = .ok (.iaload, 1) := by decide +kernel
theorem dL_law_888 : decode cL_law 888 = .ok (.aload_n 0, 1) := by decide +kernel
theorem dL_law_889 : decode cL_law 889 = .ok (.iload 4, 2) := by decide +kernel
theorem dL_law_891 : decode cL_law 891 = .ok (.iconst 3, 1) := by decide +kernel
theorem dL_law_892 : decode cL_law 892 = .ok (.iadd, 1) := by decide +kernel
theorem dL_law_893 : decode cL_law 893 = .ok (.iaload, 1) := by decide +kernel
theorem dL_law_894 : decode cL_law 894 = .ok (.aload_n 3, 1) := by decide +kernel
theorem dL_law_895 : decode cL_law 895 = .ok (.invokestatic 134, 3) := by decide +kernel
theorem dL_law_898 : decode cL_law 898 = .ok (.istore 5, 2) := by decide +kernel
theorem dL_law_900 : decode cL_law 900 = .ok (.aload_n 2, 1) := by decide +kernel
theorem dL_law_901 : decode cL_law 901 = .ok (.aload_n 0, 1) := by decide +kernel
theorem dL_law_902 : decode cL_law 902 = .ok (.iload 4, 2) := by decide +kernel
theorem dL_law_904 : decode cL_law 904 = .ok (.iconst 1, 1) := by decide +kernel
theorem dL_law_905 : decode cL_law 905 = .ok (.iadd, 1) := by decide +kernel
theorem dL_law_906 : decode cL_law 906 = .ok (.iaload, 1) := by decide +kernel
theorem dL_law_907 : decode cL_law 907 = .ok (.aload_n 0, 1) := by decide +kernel
theorem dL_law_908 : decode cL_law 908 = .ok (.iload 4, 2) := by decide +kernel
theorem dL_law_910 : decode cL_law 910 = .ok (.iconst 2, 1) := by decide +kernel
theorem dL_law_911 : decode cL_law 911 = .ok (.iadd, 1) := by decide +kernel
theorem dL_law_912 : decode cL_law 912 = .ok (.iaload, 1) := by decide +kernel
theorem dL_law_913 : decode cL_law 913 = .ok (.aload_n 0, 1) := by decide +kernel
theorem dL_law_914 : decode cL_law 914 = .ok (.iload 4, 2) := by decide +kernel
theorem dL_law_916 : decode cL_law 916 = .ok (.iconst 3, 1) := by decide +kernel
theorem dL_law_917 : decode cL_law 917 = .ok (.iadd, 1) := by decide +kernel
theorem dL_law_918 : decode cL_law 918 = .ok (.iaload, 1) := by decide +kernel
theorem dL_law_919 : decode cL_law 919 = .ok (.invokevirtual 137, 3) := by decide +kernel
theorem dL_law_922 : decode cL_law 922 = .ok (.istore 6, 2) := by decide +kernel
theorem dL_law_924 : decode cL_law 924 = .ok (.aload_n 2, 1) := by decide +kernel
theorem dL_law_925 : decode cL_law 925 = .ok (.invokevirtual 86, 3) := by decide +kernel
theorem dL_law_928 : decode cL_law 928 = .ok (.iload 5, 2) := by decide +kernel
theorem dL_law_930 : decode cL_law 930 = .ok (.if_icmp .eq 5, 3) := by decide +kernel
theorem dL_law_933 : decode cL_law 933 = .ok (.iconst 0, 1) := by decide +kernel
theorem dL_law_934 : decode cL_law 934 = .ok (.ireturn, 1) := by decide +kernel
theorem dL_law_935 : decode cL_law 935 = .ok (.iload 5, 2) := by decide +kernel
theorem dL_law_937 : decode cL_law 937 = .ok (.ifCond .ne 15, 3) := by decide +kernel
theorem dL_law_940 : decode cL_law 940 = .ok (.aload_n 3, 1) := by decide +kernel
theorem dL_law_941 : decode cL_law 941 = .ok (.iconst 0, 1) := by decide +kernel
theorem dL_law_942 : decode cL_law 942 = .ok (.laload, 1) := by decide +kernel
theorem dL_law_943 : decode cL_law 943 = .ok (.iload 6, 2) := by decide +kernel
theorem dL_law_945 : decode cL_law 945 = .ok (.i2l, 1) := by decide +kernel
theorem dL_law_946 : decode cL_law 946 = .ok (.lcmp, 1) := by decide +kernel
theorem dL_law_947 : decode cL_law 947 = .ok (.ifCond .eq 5, 3) := by decide +kernel
theorem dL_law_950 : decode cL_law 950 = .ok (.iconst 0, 1) := by decide +kernel
theorem dL_law_951 : decode cL_law 951 = .ok (.ireturn, 1) := by decide +kernel
theorem dL_law_952 : decode cL_law 952 = .ok (.goto 465, 3) := by decide +kernel
theorem dL_law_955 : decode cL_law 955 = .ok (.aload_n 1, 1) := by decide +kernel
theorem dL_law_956 : decode cL_law 956 = .ok (.aload_n 0, 1) := by decide +kernel
theorem dL_law_957 : decode cL_law 957 = .ok (.iload 4, 2) := by decide +kernel
theorem dL_law_959 : decode cL_law 959 = .ok (.iconst 1, 1) := by decide +kernel
theorem dL_law_960 : decode cL_law 960 = .ok (.iadd, 1) := by decide +kernel
theorem dL_law_961 : decode cL_law 961 = .ok (.iaload, 1) := by decide +kernel
theorem dL_law_962 : decode cL_law 962 = .ok (.aload_n 3, 1) := by decide +kernel
theorem dL_law_963 : decode cL_law 963 = .ok (.invokestatic 138, 3) := by decide +kernel
theorem dL_law_966 : decode cL_law 966 = .ok (.istore 5, 2) := by decide +kernel
theorem dL_law_968 : decode cL_law 968 = .ok (.aload_n 2, 1) := by decide +kernel
theorem dL_law_969 : decode cL_law 969 = .ok (.aload_n 0, 1) := by decide +kernel
theorem dL_law_970 : decode cL_law 970 = .ok (.iload 4, 2) := by decide +kernel
theorem dL_law_972 : decode cL_law 972 = .ok (.iconst 1, 1) := by decide +kernel
theorem dL_law_973 : decode cL_law 973 = .ok (.iadd, 1) := by decide +kernel
theorem dL_law_974 : decode cL_law 974 = .ok (.iaload, 1) := by decide +kernel
theorem dL_law_975 : decode cL_law 975 = .ok (.invokevirtual 140, 3) := by decide +kernel
theorem dL_law_978 : decode cL_law 978 = .ok (.istore 6, 2) := by decide +kernel
theorem dL_law_980 : decode cL_law 980 = .ok (.aload_n 2, 1) := by decide +kernel
theorem dL_law_981 : decode cL_law 981 = .ok (.invokevirtual 86, 3) := by decide +kernel
theorem dL_law_984 : decode cL_law 984 = .ok (.iload 5, 2) := by decide +kernel
theorem dL_law_986 : decode cL_law 986 = .ok (.if_icmp .eq 5, 3) := by decide +kernel
theorem dL_law_989 : decode cL_law 989 = .ok (.iconst 0, 1) := by decide +kernel
theorem dL_law_990 : decode cL_law 990 = .ok (.ireturn, 1) := by decide +kernel
theorem dL_law_991 : decode cL_law 991 = .ok (.iload 5, 2) := by decide +kernel
theorem dL_law_993 : decode cL_law 993 = .ok (.ifCond .ne 15, 3) := by decide +kernel
theorem dL_law_996 : decode cL_law 996 = .ok (.aload_n 3, 1) := by decide +kernel
theorem dL_law_997 : decode cL_law 997 = .ok (.iconst 0, 1) := by decide +kernel
theorem dL_law_998 : decode cL_law 998 = .ok (.laload, 1) := by decide +kernel
theorem dL_law_999 : decode cL_law 999 = .ok (.iload 6, 2) := by decide +kernel
theorem dL_law_1001 : decode cL_law 1001 = .ok (.i2l, 1) := by decide +kernel
theorem dL_law_1002 : decode cL_law 1002 = .ok (.lcmp, 1) := by decide +kernel
theorem dL_law_1003 : decode cL_law 1003 = .ok (.ifCond .eq 5, 3) := by decide +kernel
theorem dL_law_1006 : decode cL_law 1006 = .ok (.iconst 0, 1) := by decide +kernel
theorem dL_law_1007 : decode cL_law 1007 = .ok (.ireturn, 1) := by decide +kernel
theorem dL_law_1008 : decode cL_law 1008 = .ok (.goto 409, 3) := by decide +kernel
theorem dL_law_1011 : decode cL_law 1011 = .ok (.aload_n 1, 1) := by decide +kernel
theorem dL_law_1012 : decode cL_law 1012 = .ok (.invokevirtual 141, 3) := by decide +kernel
theorem dL_law_1015 : decode cL_law 1015 = .ok (.aload_n 2, 1) := by decide +kernel
theorem dL_law_1016 : decode cL_law 1016 = .ok (.invokevirtual 144, 3) := by decide +kernel
theorem dL_law_1019 : decode cL_law 1019 = .ok (.if_icmp .eq 398, 3) := by decide +kernel
theorem dL_law_1022 : decode cL_law 1022 = .ok (.iconst 0, 1) := by decide +kernel
theorem dL_law_1023 : decode cL_law 1023 = .ok (.ireturn, 1) := by decide +kernel
theorem dL_law_1024 : decode cL_law 1024 = .ok (.aload_n 1, 1) := by decide +kernel
theorem dL_law_1025 : decode cL_law 1025 = .ok (.aload_n 0, 1) := by decide +kernel
theorem dL_law_1026 : decode cL_law 1026 = .ok (.iload 4, 2) := by decide +kernel
theorem dL_law_1028 : decode cL_law 1028 = .ok (.iconst 1, 1) := by decide +kernel
theorem dL_law_1029 : decode cL_law 1029 = .ok (.iadd, 1) := by decide +kernel
theorem dL_law_1030 : decode cL_law 1030 = .ok (.iaload, 1) := by decide +kernel
theorem dL_law_1031 : decode cL_law 1031 = .ok (.aload_n 0, 1) := by decide +kernel
theorem dL_law_1032 : decode cL_law 1032 = .ok (.iload 4, 2) := by decide +kernel
theorem dL_law_1034 : decode cL_law 1034 = .ok (.iconst 2, 1) := by decide +kernel
theorem dL_law_1035 : decode cL_law 1035 = .ok (.iadd, 1) := by decide +kernel
theorem dL_law_1036 : decode cL_law 1036 = .ok (.iaload, 1) := by decide +kernel
theorem dL_law_1037 : decode cL_law 1037 = .ok (.aload_n 3, 1) := by decide +kernel
theorem dL_law_1038 : decode cL_law 1038 = .ok (.invokestatic 145, 3) := by decide +kernel
theorem dL_law_1041 : decode cL_law 1041 = .ok (.istore 5, 2) := by decide +kernel
theorem dL_law_1043 : decode cL_law 1043 = .ok (.aload_n 2, 1) := by decide +kernel
theorem dL_law_1044 : decode cL_law 1044 = .ok (.aload_n 0, 1) := by decide +kernel
theorem dL_law_1045 : decode cL_law 1045 = .ok (.iload 4, 2) := by decide +kernel
theorem dL_law_1047 : decode cL_law 1047 = .ok (.iconst 1, 1) := by decide +kernel
theorem dL_law_1048 : decode cL_law 1048 = .ok (.iadd, 1) := by decide +kernel
theorem dL_law_1049 : decode cL_law 1049 = .ok (.iaload, 1) := by decide +kernel
theorem dL_law_1050 : decode cL_law 1050 = .ok (.aload_n 0, 1) := by decide +kernel
theorem dL_law_1051 : decode cL_law 1051 = .ok (.iload 4, 2) := by decide +kernel
theorem dL_law_1053 : decode cL_law 1053 = .ok (.iconst 2, 1) := by decide +kernel
theorem dL_law_1054 : decode cL_law 1054 = .ok (.iadd, 1) := by decide +kernel
theorem dL_law_1055 : decode cL_law 1055 = .ok (.iaload, 1) := by decide +kernel
theorem dL_law_1056 : decode cL_law 1056 = .ok (.invokevirtual 147, 3) := by decide +kernel
theorem dL_law_1059 : decode cL_law 1059 = .ok (.istore 6, 2) := by decide +kernel
theorem dL_law_1061 : decode cL_law 1061 = .ok (.aload_n 2, 1) := by decide +kernel
theorem dL_law_1062 : decode cL_law 1062 = .ok (.invokevirtual 86, 3) := by decide +kernel
theorem dL_law_1065 : decode cL_law 1065 = .ok (.iload 5, 2) := by decide +kernel
theorem dL_law_1067 : decode cL_law 1067 = .ok (.if_icmp .eq 5, 3) := by decide +kernel
theorem dL_law_1070 : decode cL_law 1070 = .ok (.iconst 0, 1) := by decide +kernel
theorem dL_law_1071 : decode cL_law 1071 = .ok (.ireturn, 1) := by decide +kernel
theorem dL_law_1072 : decode cL_law 1072 = .ok (.iload 5, 2) := by decide +kernel
theorem dL_law_1074 : decode cL_law 1074 = .ok (.ifCond .ne 15, 3) := by decide +kernel
theorem dL_law_1077 : decode cL_law 1077 = .ok (.aload_n 3, 1) := by decide +kernel
theorem dL_law_1078 : decode cL_law 1078 = .ok (.iconst 0, 1) := by decide +kernel
theorem dL_law_1079 : decode cL_law 1079 = .ok (.laload, 1) := by decide +kernel
theorem dL_law_1080 : decode cL_law 1080 = .ok (.iload 6, 2) := by decide +kernel
theorem dL_law_1082 : decode cL_law 1082 = .ok (.i2l, 1) := by decide +kernel
theorem dL_law_1083 : decode cL_law 1083 = .ok (.lcmp, 1) := by decide +kernel
theorem dL_law_1084 : decode cL_law 1084 = .ok (.ifCond .eq 5, 3) := by decide +kernel
theorem dL_law_1087 : decode cL_law 1087 = .ok (.iconst 0, 1) := by decide +kernel
theorem dL_law_1088 : decode cL_law 1088 = .ok (.ireturn, 1) := by decide +kernel
theorem dL_law_1089 : decode cL_law 1089 = .ok (.goto 328, 3) := by decide +kernel
theorem dL_law_1092 : decode cL_law 1092 = .ok (.aload_n 1, 1) := by decide +kernel
theorem dL_law_1093 : decode cL_law 1093 = .ok (.invokevirtual 148, 3) := by decide +kernel
theorem dL_law_1096 : decode cL_law 1096 = .ok (.aload_n 2, 1) := by decide +kernel
theorem dL_law_1097 : decode cL_law 1097 = .ok (.invokevirtual 151, 3) := by decide +kernel
theorem dL_law_1100 : decode cL_law 1100 = .ok (.if_icmp .eq 317, 3) := by decide +kernel
theorem dL_law_1103 : decode cL_law 1103 = .ok (.iconst 0, 1) := by decide +kernel
theorem dL_law_1104 : decode cL_law 1104 = .ok (.ireturn, 1) := by decide +kernel
theorem dL_law_1105 : decode cL_law 1105 = .ok (.aload_n 1, 1) := by decide +kernel
theorem dL_law_1106 : decode cL_law 1106 = .ok (.aload_n 0, 1) := by decide +kernel
theorem dL_law_1107 : decode cL_law 1107 = .ok (.iload 4, 2) := by decide +kernel
theorem dL_law_1109 : decode cL_law 1109 = .ok (.iconst 1, 1) := by decide +kernel
theorem dL_law_1110 : decode cL_law 1110 = .ok (.iadd, 1) := by decide +kernel
theorem dL_law_1111 : decode cL_law 1111 = .ok (.iaload, 1) := by decide +kernel
theorem dL_law_1112 : decode cL_law 1112 = .ok (.aload_n 0, 1) := by decide +kernel
theorem dL_law_1113 : decode cL_law 1113 = .ok (.iload 4, 2) := by decide +kernel
theorem dL_law_1115 : decode cL_law 1115 = .ok (.iconst 2, 1) := by decide +kernel
theorem dL_law_1116 : decode cL_law 1116 = .ok (.iadd, 1) := by decide +kernel
theorem dL_law_1117 : decode cL_law 1117 = .ok (.iaload, 1) := by decide +kernel
theorem dL_law_1118 : decode cL_law 1118 = .ok (.i2l, 1) := by decide +kernel
theorem dL_law_1119 : decode cL_law 1119 = .ok (.bipush 32, 2) := by decide +kernel
theorem dL_law_1121 : decode cL_law 1121 = .ok (.lshl, 1) := by decide +kernel
theorem dL_law_1122 : decode cL_law 1122 = .ok (.aload_n 0, 1) := by decide +kernel
theorem dL_law_1123 : decode cL_law 1123 = .ok (.iload 4, 2) := by decide +kernel
theorem dL_law_1125 : decode cL_law 1125 = .ok (.iconst 3, 1) := by decide +kernel
theorem dL_law_1126 : decode cL_law 1126 = .ok (.iadd, 1) := by decide +kernel
theorem dL_law_1127 : decode cL_law 1127 = .ok (.iaload, 1) := by decide +kernel
theorem dL_law_1128 : decode cL_law 1128 = .ok (.i2l, 1) := by decide +kernel
theorem dL_law_1129 : decode cL_law 1129 = .ok (.ldc2_w 152, 3) := by decide +kernel
theorem dL_law_1132 : decode cL_law 1132 = .ok (.land, 1) := by decide +kernel
theorem dL_law_1133 : decode cL_law 1133 = .ok (.lor, 1) := by decide +kernel
theorem dL_law_1134 : decode cL_law 1134 = .ok (.aload_n 3, 1) := by decide +kernel
theorem dL_law_1135 : decode cL_law 1135 = .ok (.invokestatic 154, 3) := by decide +kernel
theorem dL_law_1138 : decode cL_law 1138 = .ok (.istore 5, 2) := by decide +kernel
theorem dL_law_1140 : decode cL_law 1140 = .ok (.aload_n 2, 1) := by decide +kernel
theorem dL_law_1141 : decode cL_law 1141 = .ok (.aload_n 0, 1) := by decide +kernel
theorem dL_law_1142 : decode cL_law 1142 = .ok (.iload 4, 2) := by decide +kernel
theorem dL_law_1144 : decode cL_law 1144 = .ok (.iconst 1, 1) := by decide +kernel
theorem dL_law_1145 : decode cL_law 1145 = .ok (.iadd, 1) := by decide +kernel
theorem dL_law_1146 : decode cL_law 1146 = .ok (.iaload, 1) := by decide +kernel
theorem dL_law_1147 : decode cL_law 1147 = .ok (.aload_n 0, 1) := by decide +kernel
theorem dL_law_1148 : decode cL_law 1148 = .ok (.iload 4, 2) := by decide +kernel
theorem dL_law_1150 : decode cL_law 1150 = .ok (.iconst 2, 1) := by decide +kernel
theorem dL_law_1151 : decode cL_law 1151 = .ok (.iadd, 1) := by decide +kernel
theorem dL_law_1152 : decode cL_law 1152 = .ok (.iaload, 1) := by decide +kernel
theorem dL_law_1153 : decode cL_law 1153 = .ok (.i2l, 1) := by decide +kernel
theorem dL_law_1154 : decode cL_law 1154 = .ok (.bipush 32, 2) := by decide +kernel
theorem dL_law_1156 : decode cL_law 1156 = .ok (.lshl, 1) := by decide +kernel
theorem dL_law_1157 : decode cL_law 1157 = .ok (.aload_n 0, 1) := by decide +kernel
theorem dL_law_1158 : decode cL_law 1158 = .ok (.iload 4, 2) := by decide +kernel
theorem dL_law_1160 : decode cL_law 1160 = .ok (.iconst 3, 1) := by decide +kernel
theorem dL_law_1161 : decode cL_law 1161 = .ok (.iadd, 1) := by decide +kernel
theorem dL_law_1162 : decode cL_law 1162 = .ok (.iaload, 1) := by decide +kernel
theorem dL_law_1163 : decode cL_law 1163 = .ok (.i2l, 1) := by decide +kernel
theorem dL_law_1164 : decode cL_law 1164 = .ok (.ldc2_w 152, 3) := by decide +kernel
theorem dL_law_1167 : decode cL_law 1167 = .ok (.land, 1) := by decide +kernel
theorem dL_law_1168 : decode cL_law 1168 = .ok (.lor, 1) := by decide +kernel
theorem dL_law_1169 : decode cL_law 1169 = .ok (.invokevirtual 157, 3) := by decide +kernel
theorem dL_law_1172 : decode cL_law 1172 = .ok (.istore 6, 2) := by decide +kernel
theorem dL_law_1174 : decode cL_law 1174 = .ok (.aload_n 2, 1) := by decide +kernel
theorem dL_law_1175 : decode cL_law 1175 = .ok (.invokevirtual 86, 3) := by decide +kernel
theorem dL_law_1178 : decode cL_law 1178 = .ok (.iload 5, 2) := by decide +kernel
theorem dL_law_1180 : decode cL_law 1180 = .ok (.if_icmp .eq 5, 3) := by decide +kernel
theorem dL_law_1183 : decode cL_law 1183 = .ok (.iconst 0, 1) := by decide +kernel
theorem dL_law_1184 : decode cL_law 1184 = .ok (.ireturn, 1) := by decide +kernel
theorem dL_law_1185 : decode cL_law 1185 = .ok (.iload 5, 2) := by decide +kernel
theorem dL_law_1187 : decode cL_law 1187 = .ok (.ifCond .ne 15, 3) := by decide +kernel
theorem dL_law_1190 : decode cL_law 1190 = .ok (.aload_n 3, 1) := by decide +kernel
theorem dL_law_1191 : decode cL_law 1191 = .ok (.iconst 0, 1) := by decide +kernel
theorem dL_law_1192 : decode cL_law 1192 = .ok (.laload, 1) := by decide +kernel
theorem dL_law_1193 : decode cL_law 1193 = .ok (.iload 6, 2) := by decide +kernel
theorem dL_law_1195 : decode cL_law 1195 = .ok (.i2l, 1) := by decide +kernel
theorem dL_law_1196 : decode cL_law 1196 = .ok (.lcmp, 1) := by decide +kernel
theorem dL_law_1197 : decode cL_law 1197 = .ok (.ifCond .eq 5, 3) := by decide +kernel
theorem dL_law_1200 : decode cL_law 1200 = .ok (.iconst 0, 1) := by decide +kernel
theorem dL_law_1201 : decode cL_law 1201 = .ok (.ireturn, 1) := by decide +kernel
theorem dL_law_1202 : decode cL_law 1202 = .ok (.goto 215, 3) := by decide +kernel
theorem dL_law_1205 : decode cL_law 1205 = .ok (.aload_n 1, 1) := by decide +kernel
theorem dL_law_1206 : decode cL_law 1206 = .ok (.aload_n 0, 1) := by decide +kernel
theorem dL_law_1207 : decode cL_law 1207 = .ok (.iload 4, 2) := by decide +kernel
theorem dL_law_1209 : decode cL_law 1209 = .ok (.iconst 1, 1) := by decide +kernel
theorem dL_law_1210 : decode cL_law 1210 = .ok (.iadd, 1) := by decide +kernel
theorem dL_law_1211 : decode cL_law 1211 = .ok (.iaload, 1) := by decide +kernel
theorem dL_law_1212 : decode cL_law 1212 = .ok (.i2l, 1) := by decide +kernel
theorem dL_law_1213 : decode cL_law 1213 = .ok (.bipush 32, 2) := by decide +kernel
theorem dL_law_1215 : decode cL_law 1215 = .ok (.lshl, 1) := by decide +kernel
theorem dL_law_1216 : decode cL_law 1216 = .ok (.aload_n 0, 1) := by decide +kernel
theorem dL_law_1217 : decode cL_law 1217 = .ok (.iload 4, 2) := by decide +kernel
theorem dL_law_1219 : decode cL_law 1219 = .ok (.iconst 2, 1) := by decide +kernel
theorem dL_law_1220 : decode cL_law 1220 = .ok (.iadd, 1) := by decide +kernel
theorem dL_law_1221 : decode cL_law 1221 = .ok (.iaload, 1) := by decide +kernel
theorem dL_law_1222 : decode cL_law 1222 = .ok (.i2l, 1) := by decide +kernel
theorem dL_law_1223 : decode cL_law 1223 = .ok (.ldc2_w 152, 3) := by decide +kernel
theorem dL_law_1226 : decode cL_law 1226 = .ok (.land, 1) := by decide +kernel
theorem dL_law_1227 : decode cL_law 1227 = .ok (.lor, 1) := by decide +kernel
theorem dL_law_1228 : decode cL_law 1228 = .ok (.aload_n 0, 1) := by decide +kernel
theorem dL_law_1229 : decode cL_law 1229 = .ok (.iload 4, 2) := by decide +kernel
theorem dL_law_1231 : decode cL_law 1231 = .ok (.iconst 3, 1) := by decide +kernel
theorem dL_law_1232 : decode cL_law 1232 = .ok (.iadd, 1) := by decide +kernel
theorem dL_law_1233 : decode cL_law 1233 = .ok (.iaload, 1) := by decide +kernel
theorem dL_law_1234 : decode cL_law 1234 = .ok (.aload_n 3, 1) := by decide +kernel
theorem dL_law_1235 : decode cL_law 1235 = .ok (.invokestatic 158, 3) := by decide +kernel
theorem dL_law_1238 : decode cL_law 1238 = .ok (.istore 5, 2) := by decide +kernel
theorem dL_law_1240 : decode cL_law 1240 = .ok (.aload_n 2, 1) := by decide +kernel
theorem dL_law_1241 : decode cL_law 1241 = .ok (.aload_n 0, 1) := by decide +kernel
theorem dL_law_1242 : decode cL_law 1242 = .ok (.iload 4, 2) := by decide +kernel
theorem dL_law_1244 : decode cL_law 1244 = .ok (.iconst 1, 1) := by decide +kernel
theorem dL_law_1245 : decode cL_law 1245 = .ok (.iadd, 1) := by decide +kernel
theorem dL_law_1246 : decode cL_law 1246 = .ok (.iaload, 1) := by decide +kernel
theorem dL_law_1247 : decode cL_law 1247 = .ok (.i2l, 1) := by decide +kernel
theorem dL_law_1248 : decode cL_law 1248 = .ok (.bipush 32, 2) := by decide +kernel
theorem dL_law_1250 : decode cL_law 1250 = .ok (.lshl, 1) := by decide +kernel
theorem dL_law_1251 : decode cL_law 1251 = .ok (.aload_n 0, 1) := by decide +kernel
theorem dL_law_1252 : decode cL_law 1252 = .ok (.iload 4, 2) := by decide +kernel
theorem dL_law_1254 : decode cL_law 1254 = .ok (.iconst 2, 1) := by decide +kernel
theorem dL_law_1255 : decode cL_law 1255 = .ok (.iadd, 1) := by decide +kernel
theorem dL_law_1256 : decode cL_law 1256 = .ok (.iaload, 1) := by decide +kernel
theorem dL_law_1257 : decode cL_law 1257 = .ok (.i2l, 1) := by decide +kernel
theorem dL_law_1258 : decode cL_law 1258 = .ok (.ldc2_w 152, 3) := by decide +kernel
theorem dL_law_1261 : decode cL_law 1261 = .ok (.land, 1) := by decide +kernel
theorem dL_law_1262 : decode cL_law 1262 = .ok (.lor, 1) := by decide +kernel
theorem dL_law_1263 : decode cL_law 1263 = .ok (.aload_n 0, 1) := by decide +kernel
theorem dL_law_1264 : decode cL_law 1264 = .ok (.iload 4, 2) := by decide +kernel
theorem dL_law_1266 : decode cL_law 1266 = .ok (.iconst 3, 1) := by decide +kernel
theorem dL_law_1267 : decode cL_law 1267 = .ok (.iadd, 1) := by decide +kernel
theorem dL_law_1268 : decode cL_law 1268 = .ok (.iaload, 1) := by decide +kernel
theorem dL_law_1269 : decode cL_law 1269 = .ok (.invokevirtual 161, 3) := by decide +kernel
theorem dL_law_1272 : decode cL_law 1272 = .ok (.istore 6, 2) := by decide +kernel
theorem dL_law_1274 : decode cL_law 1274 = .ok (.aload_n 2, 1) := by decide +kernel
theorem dL_law_1275 : decode cL_law 1275 = .ok (.invokevirtual 86, 3) := by decide +kernel
theorem dL_law_1278 : decode cL_law 1278 = .ok (.iload 5, 2) := by decide +kernel
theorem dL_law_1280 : decode cL_law 1280 = .ok (.if_icmp .eq 5, 3) := by decide +kernel
theorem dL_law_1283 : decode cL_law 1283 = .ok (.iconst 0, 1) := by decide +kernel
theorem dL_law_1284 : decode cL_law 1284 = .ok (.ireturn, 1) := by decide +kernel
theorem dL_law_1285 : decode cL_law 1285 = .ok (.iload 5, 2) := by decide +kernel
theorem dL_law_1287 : decode cL_law 1287 = .ok (.ifCond .ne 15, 3) := by decide +kernel
theorem dL_law_1290 : decode cL_law 1290 = .ok (.aload_n 3, 1) := by decide +kernel
theorem dL_law_1291 : decode cL_law 1291 = .ok (.iconst 0, 1) := by decide +kernel
theorem dL_law_1292 : decode cL_law 1292 = .ok (.laload, 1) := by decide +kernel
theorem dL_law_1293 : decode cL_law 1293 = .ok (.iload 6, 2) := by decide +kernel
theorem dL_law_1295 : decode cL_law 1295 = .ok (.i2l, 1) := by decide +kernel
theorem dL_law_1296 : decode cL_law 1296 = .ok (.lcmp, 1) := by decide +kernel
theorem dL_law_1297 : decode cL_law 1297 = .ok (.ifCond .eq 5, 3) := by decide +kernel
theorem dL_law_1300 : decode cL_law 1300 = .ok (.iconst 0, 1) := by decide +kernel
theorem dL_law_1301 : decode cL_law 1301 = .ok (.ireturn, 1) := by decide +kernel
theorem dL_law_1302 : decode cL_law 1302 = .ok (.goto 115, 3) := by decide +kernel
theorem dL_law_1305 : decode cL_law 1305 = .ok (.aload_n 1, 1) := by decide +kernel
theorem dL_law_1306 : decode cL_law 1306 = .ok (.aload_n 0, 1) := by decide +kernel
theorem dL_law_1307 : decode cL_law 1307 = .ok (.iload 4, 2) := by decide +kernel
theorem dL_law_1309 : decode cL_law 1309 = .ok (.iconst 1, 1) := by decide +kernel
theorem dL_law_1310 : decode cL_law 1310 = .ok (.iadd, 1) := by decide +kernel
theorem dL_law_1311 : decode cL_law 1311 = .ok (.iaload, 1) := by decide +kernel
theorem dL_law_1312 : decode cL_law 1312 = .ok (.aload_n 3, 1) := by decide +kernel
theorem dL_law_1313 : decode cL_law 1313 = .ok (.invokestatic 162, 3) := by decide +kernel
theorem dL_law_1316 : decode cL_law 1316 = .ok (.istore 5, 2) := by decide +kernel
theorem dL_law_1318 : decode cL_law 1318 = .ok (.aload_n 2, 1) := by decide +kernel
theorem dL_law_1319 : decode cL_law 1319 = .ok (.aload_n 0, 1) := by decide +kernel
theorem dL_law_1320 : decode cL_law 1320 = .ok (.iload 4, 2) := by decide +kernel
theorem dL_law_1322 : decode cL_law 1322 = .ok (.iconst 1, 1) := by decide +kernel
theorem dL_law_1323 : decode cL_law 1323 = .ok (.iadd, 1) := by decide +kernel
theorem dL_law_1324 : decode cL_law 1324 = .ok (.iaload, 1) := by decide +kernel
theorem dL_law_1325 : decode cL_law 1325 = .ok (.invokevirtual 164, 3) := by decide +kernel
theorem dL_law_1328 : decode cL_law 1328 = .ok (.istore 6, 2) := by decide +kernel
theorem dL_law_1330 : decode cL_law 1330 = .ok (.aload_n 2, 1) := by decide +kernel
theorem dL_law_1331 : decode cL_law 1331 = .ok (.invokevirtual 86, 3) := by decide +kernel
theorem dL_law_1334 : decode cL_law 1334 = .ok (.iload 5, 2) := by decide +kernel
theorem dL_law_1336 : decode cL_law 1336 = .ok (.if_icmp .eq 5, 3) := by decide +kernel
theorem dL_law_1339 : decode cL_law 1339 = .ok (.iconst 0, 1) := by decide +kernel
theorem dL_law_1340 : decode cL_law 1340 = .ok (.ireturn, 1) := by decide +kernel
theorem dL_law_1341 : decode cL_law 1341 = .ok (.iload 5, 2) := by decide +kernel
theorem dL_law_1343 : decode cL_law 1343 = .ok (.ifCond .ne 15, 3) := by decide +kernel
theorem dL_law_1346 : decode cL_law 1346 = .ok (.aload_n 3, 1) := by decide +kernel
theorem dL_law_1347 : decode cL_law 1347 = .ok (.iconst 0, 1) := by decide +kernel
theorem dL_law_1348 : decode cL_law 1348 = .ok (.laload, 1) := by decide +kernel
theorem dL_law_1349 : decode cL_law 1349 = .ok (.iload 6, 2) := by decide +kernel
theorem dL_law_1351 : decode cL_law 1351 = .ok (.i2l, 1) := by decide +kernel
theorem dL_law_1352 : decode cL_law 1352 = .ok (.lcmp, 1) := by decide +kernel
theorem dL_law_1353 : decode cL_law 1353 = .ok (.ifCond .eq 5, 3) := by decide +kernel
theorem dL_law_1356 : decode cL_law 1356 = .ok (.iconst 0, 1) := by decide +kernel
theorem dL_law_1357 : decode cL_law 1357 = .ok (.ireturn, 1) := by decide +kernel
theorem dL_law_1358 : decode cL_law 1358 = .ok (.goto 59, 3) := by decide +kernel
theorem dL_law_1361 : decode cL_law 1361 = .ok (.aload_n 1, 1) := by decide +kernel
theorem dL_law_1362 : decode cL_law 1362 = .ok (.aload_n 0, 1) := by decide +kernel
theorem dL_law_1363 : decode cL_law 1363 = .ok (.iload 4, 2) := by decide +kernel
theorem dL_law_1365 : decode cL_law 1365 = .ok (.iconst 1, 1) := by decide +kernel
theorem dL_law_1366 : decode cL_law 1366 = .ok (.iadd, 1) := by decide +kernel
theorem dL_law_1367 : decode cL_law 1367 = .ok (.iaload, 1) := by decide +kernel
theorem dL_law_1368 : decode cL_law 1368 = .ok (.aload_n 3, 1) := by decide +kernel
theorem dL_law_1369 : decode cL_law 1369 = .ok (.invokestatic 165, 3) := by decide +kernel
theorem dL_law_1372 : decode cL_law 1372 = .ok (.istore 5, 2) := by decide +kernel
theorem dL_law_1374 : decode cL_law 1374 = .ok (.aload_n 2, 1) := by decide +kernel
theorem dL_law_1375 : decode cL_law 1375 = .ok (.aload_n 0, 1) := by decide +kernel
theorem dL_law_1376 : decode cL_law 1376 = .ok (.iload 4, 2) := by decide +kernel
theorem dL_law_1378 : decode cL_law 1378 = .ok (.iconst 1, 1) := by decide +kernel
theorem dL_law_1379 : decode cL_law 1379 = .ok (.iadd, 1) := by decide +kernel
theorem dL_law_1380 : decode cL_law 1380 = .ok (.iaload, 1) := by decide +kernel
theorem dL_law_1381 : decode cL_law 1381 = .ok (.invokevirtual 167, 3) := by decide +kernel
theorem dL_law_1384 : decode cL_law 1384 = .ok (.istore 6, 2) := by decide +kernel
theorem dL_law_1386 : decode cL_law 1386 = .ok (.aload_n 2, 1) := by decide +kernel
theorem dL_law_1387 : decode cL_law 1387 = .ok (.invokevirtual 86, 3) := by decide +kernel
theorem dL_law_1390 : decode cL_law 1390 = .ok (.iload 5, 2) := by decide +kernel
theorem dL_law_1392 : decode cL_law 1392 = .ok (.if_icmp .eq 5, 3) := by decide +kernel
theorem dL_law_1395 : decode cL_law 1395 = .ok (.iconst 0, 1) := by decide +kernel
theorem dL_law_1396 : decode cL_law 1396 = .ok (.ireturn, 1) := by decide +kernel
theorem dL_law_1397 : decode cL_law 1397 = .ok (.iload 5, 2) := by decide +kernel
theorem dL_law_1399 : decode cL_law 1399 = .ok (.ifCond .ne 15, 3) := by decide +kernel
theorem dL_law_1402 : decode cL_law 1402 = .ok (.aload_n 3, 1) := by decide +kernel
theorem dL_law_1403 : decode cL_law 1403 = .ok (.iconst 0, 1) := by decide +kernel
theorem dL_law_1404 : decode cL_law 1404 = .ok (.laload, 1) := by decide +kernel
theorem dL_law_1405 : decode cL_law 1405 = .ok (.iload 6, 2) := by decide +kernel
theorem dL_law_1407 : decode cL_law 1407 = .ok (.i2l, 1) := by decide +kernel
theorem dL_law_1408 : decode cL_law 1408 = .ok (.lcmp, 1) := by decide +kernel
theorem dL_law_1409 : decode cL_law 1409 = .ok (.ifCond .eq 5, 3) := by decide +kernel
theorem dL_law_1412 : decode cL_law 1412 = .ok (.iconst 0, 1) := by decide +kernel
theorem dL_law_1413 : decode cL_law 1413 = .ok (.ireturn, 1) := by decide +kernel
theorem dL_law_1414 : decode cL_law 1414 = .ok (.goto 3, 3) := by decide +kernel
theorem dL_law_1417 : decode cL_law 1417 = .ok (.iinc 4 5, 3) := by decide +kernel
theorem dL_law_1420 : decode cL_law 1420 = .ok (.goto (-1397), 3) := by decide +kernel
theorem dL_law_1423 : decode cL_law 1423 = .ok (.iconst 1, 1) := by decide +kernel
theorem dL_law_1424 : decode cL_law 1424 = .ok (.ireturn, 1) := by decide +kernel
