set_option maxRecDepth 20000 in
theorem kX11_within : yX11_within.cls ≠ "java/lang/invoke/MethodHandle" ∧ yX11_within.cls ≠ "java/lang/invoke/VarHandle" ∧ (parseMethodDescriptor yX11_within.desc).map (fun d => d.parameters.length) = some 3 := by decide +kernel
set_option maxRecDepth 20000 in
theorem kX11_isHigh : yX11_isHigh.cls ≠ "java/lang/invoke/MethodHandle" ∧ yX11_isHigh.cls ≠ "java/lang/invoke/VarHandle" ∧ (parseMethodDescriptor yX11_isHigh.desc).map (fun d => d.parameters.length) = some 1 := by decide +kernel
set_option maxRecDepth 20000 in
theorem mX5_setHigh_iX11 : Cond.initialized RX11 ∈ wsX5_setHigh := by decide +kernel
set_option maxRecDepth 20000 in
theorem mX5_setHigh_sX11_isHigh : Cond.static yX11_isHigh ∈ wsX5_setHigh := by decide +kernel
set_option maxRecDepth 20000 in
theorem iX5_setHigh_X5 : ∀ w ∈ wsX50, w ∈ wsX5_setHigh := by decide +kernel
set_option maxRecDepth 20000 in
theorem mX5_setHigh_f29 : Cond.fieldLink RX5 29 "PassStones$Road" "high" "I" ∈ wsX5_setHigh := by decide +kernel
set_option maxRecDepth 20000 in
theorem iX11_counted_X11 : ∀ w ∈ wsX110, w ∈ wsX11_counted := by decide +kernel
set_option maxRecDepth 20000 in
theorem mX11_counted_f60 : Cond.fieldLink RX11 60 "PassStones" "fullCalls" "I" ∈ wsX11_counted := by decide +kernel
set_option maxRecDepth 20000 in
theorem mX11_counted_f57 : Cond.fieldLink RX11 57 "PassStones" "noCalls" "I" ∈ wsX11_counted := by decide +kernel
set_option maxRecDepth 20000 in
theorem mX11_counted_f53 : Cond.fieldLink RX11 53 "PassStones" "badCalls" "I" ∈ wsX11_counted := by decide +kernel
set_option maxRecDepth 20000 in
theorem iX11_wall_X11 : ∀ w ∈ wsX110, w ∈ wsX11_wall := by decide +kernel
set_option maxRecDepth 20000 in
theorem mX11_wall_f88 : Cond.fieldLink RX11 88 "PassStones" "road" "LPassStones$Road;" ∈ wsX11_wall := by decide +kernel
set_option maxRecDepth 20000 in
theorem kX5_setHigh : yX5_setHigh.cls ≠ "java/lang/invoke/MethodHandle" ∧ yX5_setHigh.cls ≠ "java/lang/invoke/VarHandle" ∧ (parseMethodDescriptor yX5_setHigh.desc).map (fun d => d.parameters.length) = some 1 := by decide +kernel
set_option maxRecDepth 20000 in
theorem kX11_counted : yX11_counted.cls ≠ "java/lang/invoke/MethodHandle" ∧ yX11_counted.cls ≠ "java/lang/invoke/VarHandle" ∧ (parseMethodDescriptor yX11_counted.desc).map (fun d => d.parameters.length) = some 1 := by decide +kernel
set_option maxRecDepth 20000 in
theorem mX5_setLow_iX11 : Cond.initialized RX11 ∈ wsX5_setLow := by decide +kernel
set_option maxRecDepth 20000 in
theorem mX5_setLow_sX11_isHigh : Cond.static yX11_isHigh ∈ wsX5_setLow := by decide +kernel
set_option maxRecDepth 20000 in
theorem iX5_setLow_X5 : ∀ w ∈ wsX50, w ∈ wsX5_setLow := by decide +kernel
set_option maxRecDepth 20000 in
theorem mX5_setLow_f33 : Cond.fieldLink RX5 33 "PassStones$Road" "low" "I" ∈ wsX5_setLow := by decide +kernel
set_option maxRecDepth 20000 in
theorem iX11_coach_X11 : ∀ w ∈ wsX110, w ∈ wsX11_coach := by decide +kernel
set_option maxRecDepth 20000 in
theorem mX11_coach_f88 : Cond.fieldLink RX11 88 "PassStones" "road" "LPassStones$Road;" ∈ wsX11_coach := by decide +kernel
set_option maxRecDepth 20000 in
theorem kX5_setLow : yX5_setLow.cls ≠ "java/lang/invoke/MethodHandle" ∧ yX5_setLow.cls ≠ "java/lang/invoke/VarHandle" ∧ (parseMethodDescriptor yX5_setLow.desc).map (fun d => d.parameters.length) = some 1 := by decide +kernel
set_option maxRecDepth 20000 in
theorem iX7_at_X7 : ∀ w ∈ wsX70, w ∈ wsX7_at := by decide +kernel
set_option maxRecDepth 20000 in
theorem mX7_at_f24 : Cond.fieldLink RX7 24 "PassStones$Rows" "width" "I" ∈ wsX7_at := by decide +kernel
set_option maxRecDepth 20000 in
theorem mX7_at_f27 : Cond.fieldLink RX7 27 "PassStones$Rows" "cells" "[I" ∈ wsX7_at := by decide +kernel
set_option maxRecDepth 20000 in
theorem iX7_lastAt_X7 : ∀ w ∈ wsX70, w ∈ wsX7_lastAt := by decide +kernel
set_option maxRecDepth 20000 in
theorem mX7_lastAt_f9 : Cond.fieldLink RX7 9 "PassStones$Rows" "size" "I" ∈ wsX7_lastAt := by decide +kernel
set_option maxRecDepth 20000 in
theorem kX7_at : yX7_at.cls ≠ "java/lang/invoke/MethodHandle" ∧ yX7_at.cls ≠ "java/lang/invoke/VarHandle" ∧ (parseMethodDescriptor yX7_at.desc).map (fun d => d.parameters.length) = some 2 := by decide +kernel
set_option maxRecDepth 20000 in
theorem iX7_isFull_X7 : ∀ w ∈ wsX70, w ∈ wsX7_isFull := by decide +kernel
set_option maxRecDepth 20000 in
theorem mX7_isFull_f9 : Cond.fieldLink RX7 9 "PassStones$Rows" "size" "I" ∈ wsX7_isFull := by decide +kernel
set_option maxRecDepth 20000 in
theorem mX7_isFull_f21 : Cond.fieldLink RX7 21 "PassStones$Rows" "most" "I" ∈ wsX7_isFull := by decide +kernel
set_option maxRecDepth 20000 in
theorem kX7_isFull : yX7_isFull.cls ≠ "java/lang/invoke/MethodHandle" ∧ yX7_isFull.cls ≠ "java/lang/invoke/VarHandle" ∧ (parseMethodDescriptor yX7_isFull.desc).map (fun d => d.parameters.length) = some 0 := by decide +kernel
set_option maxRecDepth 20000 in
theorem iX7_open_X7 : ∀ w ∈ wsX70, w ∈ wsX7_open := by decide +kernel
set_option maxRecDepth 20000 in
theorem mX7_open_f9 : Cond.fieldLink RX7 9 "PassStones$Rows" "size" "I" ∈ wsX7_open := by decide +kernel
set_option maxRecDepth 20000 in
theorem iX7_put_X7 : ∀ w ∈ wsX70, w ∈ wsX7_put := by decide +kernel
set_option maxRecDepth 20000 in
theorem mX7_put_f24 : Cond.fieldLink RX7 24 "PassStones$Rows" "width" "I" ∈ wsX7_put := by decide +kernel
set_option maxRecDepth 20000 in
theorem mX7_put_f27 : Cond.fieldLink RX7 27 "PassStones$Rows" "cells" "[I" ∈ wsX7_put := by decide +kernel
set_option maxRecDepth 20000 in
theorem kX11_isMinute : yX11_isMinute.cls ≠ "java/lang/invoke/MethodHandle" ∧ yX11_isMinute.cls ≠ "java/lang/invoke/VarHandle" ∧ (parseMethodDescriptor yX11_isMinute.desc).map (fun d => d.parameters.length) = some 1 := by decide +kernel
set_option maxRecDepth 20000 in
theorem mX5_addPasser_iX11 : Cond.initialized RX11 ∈ wsX5_addPasser := by decide +kernel
set_option maxRecDepth 20000 in
theorem mX5_addPasser_sX11_isMinute : Cond.static yX11_isMinute ∈ wsX5_addPasser := by decide +kernel
set_option maxRecDepth 20000 in
theorem iX5_addPasser_X5 : ∀ w ∈ wsX50, w ∈ wsX5_addPasser := by decide +kernel
set_option maxRecDepth 20000 in
theorem mX5_addPasser_f36 : Cond.fieldLink RX5 36 "PassStones$Road" "kinds" "[LPassStones$Taker;" ∈ wsX5_addPasser := by decide +kernel
set_option maxRecDepth 20000 in
theorem mX5_addPasser_sX11_within : Cond.static yX11_within ∈ wsX5_addPasser := by decide +kernel
set_option maxRecDepth 20000 in
theorem mX5_addPasser_sX11_isHigh : Cond.static yX11_isHigh ∈ wsX5_addPasser := by decide +kernel
set_option maxRecDepth 20000 in
theorem mX5_addPasser_f14 : Cond.fieldLink RX5 14 "PassStones$Road" "passers" "LPassStones$Rows;" ∈ wsX5_addPasser := by decide +kernel
set_option maxRecDepth 20000 in
theorem kX7_open : yX7_open.cls ≠ "java/lang/invoke/MethodHandle" ∧ yX7_open.cls ≠ "java/lang/invoke/VarHandle" ∧ (parseMethodDescriptor yX7_open.desc).map (fun d => d.parameters.length) = some 0 := by decide +kernel
set_option maxRecDepth 20000 in
theorem kX7_put : yX7_put.cls ≠ "java/lang/invoke/MethodHandle" ∧ yX7_put.cls ≠ "java/lang/invoke/VarHandle" ∧ (parseMethodDescriptor yX7_put.desc).map (fun d => d.parameters.length) = some 3 := by decide +kernel
set_option maxRecDepth 20000 in
theorem kX7_lastAt : yX7_lastAt.cls ≠ "java/lang/invoke/MethodHandle" ∧ yX7_lastAt.cls ≠ "java/lang/invoke/VarHandle" ∧ (parseMethodDescriptor yX7_lastAt.desc).map (fun d => d.parameters.length) = some 1 := by decide +kernel
set_option maxRecDepth 20000 in
theorem iX11_passer_X11 : ∀ w ∈ wsX110, w ∈ wsX11_passer := by decide +kernel
set_option maxRecDepth 20000 in
theorem mX11_passer_f88 : Cond.fieldLink RX11 88 "PassStones" "road" "LPassStones$Road;" ∈ wsX11_passer := by decide +kernel
set_option maxRecDepth 20000 in
theorem kX5_addPasser : yX5_addPasser.cls ≠ "java/lang/invoke/MethodHandle" ∧ yX5_addPasser.cls ≠ "java/lang/invoke/VarHandle" ∧ (parseMethodDescriptor yX5_addPasser.desc).map (fun d => d.parameters.length) = some 4 := by decide +kernel
set_option maxRecDepth 20000 in
theorem iX7_size_X7 : ∀ w ∈ wsX70, w ∈ wsX7_size := by decide +kernel
set_option maxRecDepth 20000 in
theorem mX7_size_f9 : Cond.fieldLink RX7 9 "PassStones$Rows" "size" "I" ∈ wsX7_size := by decide +kernel
set_option maxRecDepth 20000 in
theorem iX7_dropLast_X7 : ∀ w ∈ wsX70, w ∈ wsX7_dropLast := by decide +kernel
set_option maxRecDepth 20000 in
theorem mX7_dropLast_f9 : Cond.fieldLink RX7 9 "PassStones$Rows" "size" "I" ∈ wsX7_dropLast := by decide +kernel
set_option maxRecDepth 20000 in
theorem iX11_undo_X11 : ∀ w ∈ wsX110, w ∈ wsX11_undo := by decide +kernel
set_option maxRecDepth 20000 in
theorem mX11_undo_f88 : Cond.fieldLink RX11 88 "PassStones" "road" "LPassStones$Road;" ∈ wsX11_undo := by decide +kernel
set_option maxRecDepth 20000 in
theorem iX11_undo_X5 : ∀ w ∈ wsX50, w ∈ wsX11_undo := by decide +kernel
set_option maxRecDepth 20000 in
theorem kX7_size : yX7_size.cls ≠ "java/lang/invoke/MethodHandle" ∧ yX7_size.cls ≠ "java/lang/invoke/VarHandle" ∧ (parseMethodDescriptor yX7_size.desc).map (fun d => d.parameters.length) = some 0 := by decide +kernel
set_option maxRecDepth 20000 in
theorem kX7_dropLast : yX7_dropLast.cls ≠ "java/lang/invoke/MethodHandle" ∧ yX7_dropLast.cls ≠ "java/lang/invoke/VarHandle" ∧ (parseMethodDescriptor yX7_dropLast.desc).map (fun d => d.parameters.length) = some 0 := by decide +kernel
set_option maxRecDepth 20000 in
theorem mX5_addBeast_iX11 : Cond.initialized RX11 ∈ wsX5_addBeast := by decide +kernel
set_option maxRecDepth 20000 in
theorem mX5_addBeast_sX11_isMinute : Cond.static yX11_isMinute ∈ wsX5_addBeast := by decide +kernel
set_option maxRecDepth 20000 in
theorem mX5_addBeast_sX11_isHigh : Cond.static yX11_isHigh ∈ wsX5_addBeast := by decide +kernel
set_option maxRecDepth 20000 in
theorem iX5_addBeast_X5 : ∀ w ∈ wsX50, w ∈ wsX5_addBeast := by decide +kernel
set_option maxRecDepth 20000 in
theorem mX5_addBeast_f20 : Cond.fieldLink RX5 20 "PassStones$Road" "beasts" "LPassStones$Rows;" ∈ wsX5_addBeast := by decide +kernel
set_option maxRecDepth 20000 in
theorem iX11_beast_X11 : ∀ w ∈ wsX110, w ∈ wsX11_beast := by decide +kernel
set_option maxRecDepth 20000 in
theorem mX11_beast_f88 : Cond.fieldLink RX11 88 "PassStones" "road" "LPassStones$Road;" ∈ wsX11_beast := by decide +kernel
set_option maxRecDepth 20000 in
theorem kX5_addBeast : yX5_addBeast.cls ≠ "java/lang/invoke/MethodHandle" ∧ yX5_addBeast.cls ≠ "java/lang/invoke/VarHandle" ∧ (parseMethodDescriptor yX5_addBeast.desc).map (fun d => d.parameters.length) = some 2 := by decide +kernel
set_option maxRecDepth 20000 in
theorem iX7_has_X7 : ∀ w ∈ wsX70, w ∈ wsX7_has := by decide +kernel
set_option maxRecDepth 20000 in
theorem mX7_has_f9 : Cond.fieldLink RX7 9 "PassStones$Rows" "size" "I" ∈ wsX7_has := by decide +kernel
set_option maxRecDepth 20000 in
theorem iX11_odds_X11 : ∀ w ∈ wsX110, w ∈ wsX11_odds := by decide +kernel
set_option maxRecDepth 20000 in
theorem mX11_odds_f88 : Cond.fieldLink RX11 88 "PassStones" "road" "LPassStones$Road;" ∈ wsX11_odds := by decide +kernel
set_option maxRecDepth 20000 in
theorem iX11_odds_X5 : ∀ w ∈ wsX50, w ∈ wsX11_odds := by decide +kernel
set_option maxRecDepth 20000 in
theorem kX7_has : yX7_has.cls ≠ "java/lang/invoke/MethodHandle" ∧ yX7_has.cls ≠ "java/lang/invoke/VarHandle" ∧ (parseMethodDescriptor yX7_has.desc).map (fun d => d.parameters.length) = some 1 := by decide +kernel
set_option maxRecDepth 20000 in
theorem iX6_size_X6 : ∀ w ∈ wsX60, w ∈ wsX6_size := by decide +kernel
set_option maxRecDepth 20000 in
theorem mX6_size_f24 : Cond.fieldLink RX6 24 "PassStones$RoadText" "length" "I" ∈ wsX6_size := by decide +kernel
set_option maxRecDepth 20000 in
theorem iX6_append_X6 : ∀ w ∈ wsX60, w ∈ wsX6_append := by decide +kernel
set_option maxRecDepth 20000 in
theorem mX6_append_f24 : Cond.fieldLink RX6 24 "PassStones$RoadText" "length" "I" ∈ wsX6_append := by decide +kernel
set_option maxRecDepth 20000 in
theorem mX6_append_f9 : Cond.fieldLink RX6 9 "PassStones$RoadText" "bytes" "[B" ∈ wsX6_append := by decide +kernel
set_option maxRecDepth 20000 in
theorem iX11_type_X11 : ∀ w ∈ wsX110, w ∈ wsX11_type := by decide +kernel
set_option maxRecDepth 20000 in
theorem mX11_type_f18 : Cond.fieldLink RX11 18 "PassStones" "text" "LPassStones$RoadText;" ∈ wsX11_type := by decide +kernel
set_option maxRecDepth 20000 in
theorem kX6_size : yX6_size.cls ≠ "java/lang/invoke/MethodHandle" ∧ yX6_size.cls ≠ "java/lang/invoke/VarHandle" ∧ (parseMethodDescriptor yX6_size.desc).map (fun d => d.parameters.length) = some 0 := by decide +kernel
set_option maxRecDepth 20000 in
theorem kX6_append : yX6_append.cls ≠ "java/lang/invoke/MethodHandle" ∧ yX6_append.cls ≠ "java/lang/invoke/VarHandle" ∧ (parseMethodDescriptor yX6_append.desc).map (fun d => d.parameters.length) = some 1 := by decide +kernel
set_option maxRecDepth 20000 in
theorem iX6_makeEmpty_X6 : ∀ w ∈ wsX60, w ∈ wsX6_makeEmpty := by decide +kernel
set_option maxRecDepth 20000 in
theorem mX6_makeEmpty_f24 : Cond.fieldLink RX6 24 "PassStones$RoadText" "length" "I" ∈ wsX6_makeEmpty := by decide +kernel
set_option maxRecDepth 20000 in
theorem iX11_clear_X11 : ∀ w ∈ wsX110, w ∈ wsX11_clear := by decide +kernel
set_option maxRecDepth 20000 in
theorem mX11_clear_f18 : Cond.fieldLink RX11 18 "PassStones" "text" "LPassStones$RoadText;" ∈ wsX11_clear := by decide +kernel
set_option maxRecDepth 20000 in
theorem kX6_makeEmpty : yX6_makeEmpty.cls ≠ "java/lang/invoke/MethodHandle" ∧ yX6_makeEmpty.cls ≠ "java/lang/invoke/VarHandle" ∧ (parseMethodDescriptor yX6_makeEmpty.desc).map (fun d => d.parameters.length) = some 0 := by decide +kernel
set_option maxRecDepth 20000 in
theorem iX7_dropAll_X7 : ∀ w ∈ wsX70, w ∈ wsX7_dropAll := by decide +kernel
set_option maxRecDepth 20000 in
theorem mX7_dropAll_f9 : Cond.fieldLink RX7 9 "PassStones$Rows" "size" "I" ∈ wsX7_dropAll := by decide +kernel
set_option maxRecDepth 20000 in
theorem iX6_byteAt_X6 : ∀ w ∈ wsX60, w ∈ wsX6_byteAt := by decide +kernel
set_option maxRecDepth 20000 in
theorem mX6_byteAt_f9 : Cond.fieldLink RX6 9 "PassStones$RoadText" "bytes" "[B" ∈ wsX6_byteAt := by decide +kernel
set_option maxRecDepth 20000 in
theorem iX6_nextToken_X6 : ∀ w ∈ wsX60, w ∈ wsX6_nextToken := by decide +kernel
set_option maxRecDepth 20000 in
theorem mX6_nextToken_f31 : Cond.fieldLink RX6 31 "PassStones$RoadText" "next" "I" ∈ wsX6_nextToken := by decide +kernel
set_option maxRecDepth 20000 in
theorem mX6_nextToken_f28 : Cond.fieldLink RX6 28 "PassStones$RoadText" "place" "I" ∈ wsX6_nextToken := by decide +kernel
set_option maxRecDepth 20000 in
theorem mX6_nextToken_f24 : Cond.fieldLink RX6 24 "PassStones$RoadText" "length" "I" ∈ wsX6_nextToken := by decide +kernel
set_option maxRecDepth 20000 in
theorem kX6_byteAt : yX6_byteAt.cls ≠ "java/lang/invoke/MethodHandle" ∧ yX6_byteAt.cls ≠ "java/lang/invoke/VarHandle" ∧ (parseMethodDescriptor yX6_byteAt.desc).map (fun d => d.parameters.length) = some 1 := by decide +kernel
set_option maxRecDepth 20000 in
theorem kX6_isLetter : yX6_isLetter.cls ≠ "java/lang/invoke/MethodHandle" ∧ yX6_isLetter.cls ≠ "java/lang/invoke/VarHandle" ∧ (parseMethodDescriptor yX6_isLetter.desc).map (fun d => d.parameters.length) = some 1 := by decide +kernel
set_option maxRecDepth 20000 in
theorem kX6_isFigure : yX6_isFigure.cls ≠ "java/lang/invoke/MethodHandle" ∧ yX6_isFigure.cls ≠ "java/lang/invoke/VarHandle" ∧ (parseMethodDescriptor yX6_isFigure.desc).map (fun d => d.parameters.length) = some 1 := by decide +kernel
set_option maxRecDepth 20000 in
theorem iX6_numberAtHand_X6 : ∀ w ∈ wsX60, w ∈ wsX6_numberAtHand := by decide +kernel
set_option maxRecDepth 20000 in
theorem mX6_numberAtHand_f28 : Cond.fieldLink RX6 28 "PassStones$RoadText" "place" "I" ∈ wsX6_numberAtHand := by decide +kernel
set_option maxRecDepth 20000 in
theorem mX6_numberAtHand_f31 : Cond.fieldLink RX6 31 "PassStones$RoadText" "next" "I" ∈ wsX6_numberAtHand := by decide +kernel
set_option maxRecDepth 20000 in
theorem iX6_findFault_X6 : ∀ w ∈ wsX60, w ∈ wsX6_findFault := by decide +kernel
set_option maxRecDepth 20000 in
theorem mX6_findFault_f20 : Cond.fieldLink RX6 20 "PassStones$RoadText" "items" "LPassStones$Rows;" ∈ wsX6_findFault := by decide +kernel
set_option maxRecDepth 20000 in
theorem kX7_dropAll : yX7_dropAll.cls ≠ "java/lang/invoke/MethodHandle" ∧ yX7_dropAll.cls ≠ "java/lang/invoke/VarHandle" ∧ (parseMethodDescriptor yX7_dropAll.desc).map (fun d => d.parameters.length) = some 0 := by decide +kernel
set_option maxRecDepth 20000 in
theorem mX6_findFault_f31 : Cond.fieldLink RX6 31 "PassStones$RoadText" "next" "I" ∈ wsX6_findFault := by decide +kernel
set_option maxRecDepth 20000 in
theorem kX6_nextToken : yX6_nextToken.cls ≠ "java/lang/invoke/MethodHandle" ∧ yX6_nextToken.cls ≠ "java/lang/invoke/VarHandle" ∧ (parseMethodDescriptor yX6_nextToken.desc).map (fun d => d.parameters.length) = some 0 := by decide +kernel
set_option maxRecDepth 20000 in
theorem kX6_numbersIn : yX6_numbersIn.cls ≠ "java/lang/invoke/MethodHandle" ∧ yX6_numbersIn.cls ≠ "java/lang/invoke/VarHandle" ∧ (parseMethodDescriptor yX6_numbersIn.desc).map (fun d => d.parameters.length) = some 1 := by decide +kernel
set_option maxRecDepth 20000 in
theorem mX6_findFault_f28 : Cond.fieldLink RX6 28 "PassStones$RoadText" "place" "I" ∈ wsX6_findFault := by decide +kernel
set_option maxRecDepth 20000 in
theorem kX6_numberAtHand : yX6_numberAtHand.cls ≠ "java/lang/invoke/MethodHandle" ∧ yX6_numberAtHand.cls ≠ "java/lang/invoke/VarHandle" ∧ (parseMethodDescriptor yX6_numberAtHand.desc).map (fun d => d.parameters.length) = some 0 := by decide +kernel
set_option maxRecDepth 20000 in
theorem kX6_wordAtHand : yX6_wordAtHand.cls ≠ "java/lang/invoke/MethodHandle" ∧ yX6_wordAtHand.cls ≠ "java/lang/invoke/VarHandle" ∧ (parseMethodDescriptor yX6_wordAtHand.desc).map (fun d => d.parameters.length) = some 0 := by decide +kernel
set_option maxRecDepth 20000 in
theorem mX6_findFault_f24 : Cond.fieldLink RX6 24 "PassStones$RoadText" "length" "I" ∈ wsX6_findFault := by decide +kernel
set_option maxRecDepth 20000 in
theorem iX5_makeNew_X5 : ∀ w ∈ wsX50, w ∈ wsX5_makeNew := by decide +kernel
set_option maxRecDepth 20000 in
theorem mX5_makeNew_f29 : Cond.fieldLink RX5 29 "PassStones$Road" "high" "I" ∈ wsX5_makeNew := by decide +kernel
set_option maxRecDepth 20000 in
theorem mX5_makeNew_f33 : Cond.fieldLink RX5 33 "PassStones$Road" "low" "I" ∈ wsX5_makeNew := by decide +kernel
set_option maxRecDepth 20000 in
theorem mX5_makeNew_f14 : Cond.fieldLink RX5 14 "PassStones$Road" "passers" "LPassStones$Rows;" ∈ wsX5_makeNew := by decide +kernel
set_option maxRecDepth 20000 in
theorem mX5_makeNew_f20 : Cond.fieldLink RX5 20 "PassStones$Road" "beasts" "LPassStones$Rows;" ∈ wsX5_makeNew := by decide +kernel
set_option maxRecDepth 20000 in
theorem mX5_makeNew_f23 : Cond.fieldLink RX5 23 "PassStones$Road" "checks" "LPassStones$Rows;" ∈ wsX5_makeNew := by decide +kernel
set_option maxRecDepth 20000 in
theorem mX5_makeNew_f26 : Cond.fieldLink RX5 26 "PassStones$Road" "looks" "LPassStones$Rows;" ∈ wsX5_makeNew := by decide +kernel
set_option maxRecDepth 20000 in
theorem iX6_itemCount_X6 : ∀ w ∈ wsX60, w ∈ wsX6_itemCount := by decide +kernel
set_option maxRecDepth 20000 in
theorem mX6_itemCount_f20 : Cond.fieldLink RX6 20 "PassStones$RoadText" "items" "LPassStones$Rows;" ∈ wsX6_itemCount := by decide +kernel
set_option maxRecDepth 20000 in
theorem iX6_numberOf_X6 : ∀ w ∈ wsX60, w ∈ wsX6_numberOf := by decide +kernel
set_option maxRecDepth 20000 in
theorem mX6_numberOf_f20 : Cond.fieldLink RX6 20 "PassStones$RoadText" "items" "LPassStones$Rows;" ∈ wsX6_numberOf := by decide +kernel
set_option maxRecDepth 20000 in
theorem iX6_sortOf_X6 : ∀ w ∈ wsX60, w ∈ wsX6_sortOf := by decide +kernel
set_option maxRecDepth 20000 in
theorem mX6_sortOf_f20 : Cond.fieldLink RX6 20 "PassStones$RoadText" "items" "LPassStones$Rows;" ∈ wsX6_sortOf := by decide +kernel
set_option maxRecDepth 20000 in
theorem mX5_addCheck_iX11 : Cond.initialized RX11 ∈ wsX5_addCheck := by decide +kernel
set_option maxRecDepth 20000 in
theorem mX5_addCheck_sX11_isMinute : Cond.static yX11_isMinute ∈ wsX5_addCheck := by decide +kernel
set_option maxRecDepth 20000 in
theorem mX5_addCheck_sX11_isHigh : Cond.static yX11_isHigh ∈ wsX5_addCheck := by decide +kernel
set_option maxRecDepth 20000 in
theorem iX5_addCheck_X5 : ∀ w ∈ wsX50, w ∈ wsX5_addCheck := by decide +kernel
set_option maxRecDepth 20000 in
theorem mX5_addCheck_f23 : Cond.fieldLink RX5 23 "PassStones$Road" "checks" "LPassStones$Rows;" ∈ wsX5_addCheck := by decide +kernel
set_option maxRecDepth 20000 in
theorem mX5_addLook_iX11 : Cond.initialized RX11 ∈ wsX5_addLook := by decide +kernel
set_option maxRecDepth 20000 in
theorem mX5_addLook_sX11_isMinute : Cond.static yX11_isMinute ∈ wsX5_addLook := by decide +kernel
set_option maxRecDepth 20000 in
theorem mX5_addLook_sX11_isHigh : Cond.static yX11_isHigh ∈ wsX5_addLook := by decide +kernel
set_option maxRecDepth 20000 in
theorem iX5_addLook_X5 : ∀ w ∈ wsX50, w ∈ wsX5_addLook := by decide +kernel
set_option maxRecDepth 20000 in
theorem mX5_addLook_f26 : Cond.fieldLink RX5 26 "PassStones$Road" "looks" "LPassStones$Rows;" ∈ wsX5_addLook := by decide +kernel
set_option maxRecDepth 20000 in
theorem iX11_tellItem_X11 : ∀ w ∈ wsX110, w ∈ wsX11_tellItem := by decide +kernel
set_option maxRecDepth 20000 in
theorem mX11_tellItem_f18 : Cond.fieldLink RX11 18 "PassStones" "text" "LPassStones$RoadText;" ∈ wsX11_tellItem := by decide +kernel
set_option maxRecDepth 20000 in
theorem kX6_numberOf : yX6_numberOf.cls ≠ "java/lang/invoke/MethodHandle" ∧ yX6_numberOf.cls ≠ "java/lang/invoke/VarHandle" ∧ (parseMethodDescriptor yX6_numberOf.desc).map (fun d => d.parameters.length) = some 2 := by decide +kernel
set_option maxRecDepth 20000 in
theorem kX6_sortOf : yX6_sortOf.cls ≠ "java/lang/invoke/MethodHandle" ∧ yX6_sortOf.cls ≠ "java/lang/invoke/VarHandle" ∧ (parseMethodDescriptor yX6_sortOf.desc).map (fun d => d.parameters.length) = some 1 := by decide +kernel
set_option maxRecDepth 20000 in
theorem mX11_tellItem_f92 : Cond.fieldLink RX11 92 "PassStones" "trial" "LPassStones$Road;" ∈ wsX11_tellItem := by decide +kernel
set_option maxRecDepth 20000 in
theorem kX5_addCheck : yX5_addCheck.cls ≠ "java/lang/invoke/MethodHandle" ∧ yX5_addCheck.cls ≠ "java/lang/invoke/VarHandle" ∧ (parseMethodDescriptor yX5_addCheck.desc).map (fun d => d.parameters.length) = some 3 := by decide +kernel
set_option maxRecDepth 20000 in
theorem kX5_addLook : yX5_addLook.cls ≠ "java/lang/invoke/MethodHandle" ∧ yX5_addLook.cls ≠ "java/lang/invoke/VarHandle" ∧ (parseMethodDescriptor yX5_addLook.desc).map (fun d => d.parameters.length) = some 2 := by decide +kernel
set_option maxRecDepth 20000 in
theorem iX7_become_X7 : ∀ w ∈ wsX70, w ∈ wsX7_become := by decide +kernel
set_option maxRecDepth 20000 in
theorem mX7_become_f9 : Cond.fieldLink RX7 9 "PassStones$Rows" "size" "I" ∈ wsX7_become := by decide +kernel
set_option maxRecDepth 20000 in
theorem mX7_become_f21 : Cond.fieldLink RX7 21 "PassStones$Rows" "most" "I" ∈ wsX7_become := by decide +kernel
set_option maxRecDepth 20000 in
theorem mX7_become_c38 : Cond.methodLink RX7 38 Lib.Math.min.name ∈ wsX7_become := by decide +kernel
set_option maxRecDepth 20000 in
theorem mX7_become_smin : Cond.static Lib.Math.min.name ∈ wsX7_become := by decide +kernel
set_option maxRecDepth 20000 in
theorem mX7_become_iMath : Cond.initialized "java/lang/Math" ∈ wsX7_become := by decide +kernel
set_option maxRecDepth 20000 in
theorem mX7_become_kmin : Cond.code Lib.Math.min.name Lib.Math.min.code 2 (some .int) ∈ wsX7_become := by decide +kernel
set_option maxRecDepth 20000 in
theorem mX7_become_f27 : Cond.fieldLink RX7 27 "PassStones$Rows" "cells" "[I" ∈ wsX7_become := by decide +kernel
set_option maxRecDepth 20000 in
theorem iX5_become_X5 : ∀ w ∈ wsX50, w ∈ wsX5_become := by decide +kernel
set_option maxRecDepth 20000 in
theorem mX5_become_f29 : Cond.fieldLink RX5 29 "PassStones$Road" "high" "I" ∈ wsX5_become := by decide +kernel
set_option maxRecDepth 20000 in
theorem mX5_become_f33 : Cond.fieldLink RX5 33 "PassStones$Road" "low" "I" ∈ wsX5_become := by decide +kernel
set_option maxRecDepth 20000 in
theorem mX5_become_f14 : Cond.fieldLink RX5 14 "PassStones$Road" "passers" "LPassStones$Rows;" ∈ wsX5_become := by decide +kernel
set_option maxRecDepth 20000 in
theorem kX7_become : yX7_become.cls ≠ "java/lang/invoke/MethodHandle" ∧ yX7_become.cls ≠ "java/lang/invoke/VarHandle" ∧ (parseMethodDescriptor yX7_become.desc).map (fun d => d.parameters.length) = some 1 := by decide +kernel
set_option maxRecDepth 20000 in
theorem mX5_become_f20 : Cond.fieldLink RX5 20 "PassStones$Road" "beasts" "LPassStones$Rows;" ∈ wsX5_become := by decide +kernel
set_option maxRecDepth 20000 in
theorem mX5_become_f23 : Cond.fieldLink RX5 23 "PassStones$Road" "checks" "LPassStones$Rows;" ∈ wsX5_become := by decide +kernel
set_option maxRecDepth 20000 in
theorem mX5_become_f26 : Cond.fieldLink RX5 26 "PassStones$Road" "looks" "LPassStones$Rows;" ∈ wsX5_become := by decide +kernel
set_option maxRecDepth 20000 in
theorem iX11_read_X11 : ∀ w ∈ wsX110, w ∈ wsX11_read := by decide +kernel
set_option maxRecDepth 20000 in
theorem mX11_read_f18 : Cond.fieldLink RX11 18 "PassStones" "text" "LPassStones$RoadText;" ∈ wsX11_read := by decide +kernel
set_option maxRecDepth 20000 in
theorem kX6_findFault : yX6_findFault.cls ≠ "java/lang/invoke/MethodHandle" ∧ yX6_findFault.cls ≠ "java/lang/invoke/VarHandle" ∧ (parseMethodDescriptor yX6_findFault.desc).map (fun d => d.parameters.length) = some 0 := by decide +kernel
set_option maxRecDepth 20000 in
theorem mX11_read_f92 : Cond.fieldLink RX11 92 "PassStones" "trial" "LPassStones$Road;" ∈ wsX11_read := by decide +kernel
set_option maxRecDepth 20000 in
theorem kX5_makeNew : yX5_makeNew.cls ≠ "java/lang/invoke/MethodHandle" ∧ yX5_makeNew.cls ≠ "java/lang/invoke/VarHandle" ∧ (parseMethodDescriptor yX5_makeNew.desc).map (fun d => d.parameters.length) = some 0 := by decide +kernel
set_option maxRecDepth 20000 in
theorem kX6_itemCount : yX6_itemCount.cls ≠ "java/lang/invoke/MethodHandle" ∧ yX6_itemCount.cls ≠ "java/lang/invoke/VarHandle" ∧ (parseMethodDescriptor yX6_itemCount.desc).map (fun d => d.parameters.length) = some 0 := by decide +kernel
set_option maxRecDepth 20000 in
theorem kX11_tellItem : yX11_tellItem.cls ≠ "java/lang/invoke/MethodHandle" ∧ yX11_tellItem.cls ≠ "java/lang/invoke/VarHandle" ∧ (parseMethodDescriptor yX11_tellItem.desc).map (fun d => d.parameters.length) = some 1 := by decide +kernel
set_option maxRecDepth 20000 in
theorem mX11_read_f88 : Cond.fieldLink RX11 88 "PassStones" "road" "LPassStones$Road;" ∈ wsX11_read := by decide +kernel
set_option maxRecDepth 20000 in
theorem kX5_become : yX5_become.cls ≠ "java/lang/invoke/MethodHandle" ∧ yX5_become.cls ≠ "java/lang/invoke/VarHandle" ∧ (parseMethodDescriptor yX5_become.desc).map (fun d => d.parameters.length) = some 1 := by decide +kernel
set_option maxRecDepth 20000 in
theorem iX5_passedUntil_X5 : ∀ w ∈ wsX50, w ∈ wsX5_passedUntil := by decide +kernel
set_option maxRecDepth 20000 in
theorem mX5_passedUntil_f14 : Cond.fieldLink RX5 14 "PassStones$Road" "passers" "LPassStones$Rows;" ∈ wsX5_passedUntil := by decide +kernel
set_option maxRecDepth 20000 in
theorem iX5_firstStand_X5 : ∀ w ∈ wsX50, w ∈ wsX5_firstStand := by decide +kernel
set_option maxRecDepth 20000 in
theorem mX5_firstStand_f29 : Cond.fieldLink RX5 29 "PassStones$Road" "high" "I" ∈ wsX5_firstStand := by decide +kernel
set_option maxRecDepth 20000 in
theorem kX11_stand : yX11_stand.cls ≠ "java/lang/invoke/MethodHandle" ∧ yX11_stand.cls ≠ "java/lang/invoke/VarHandle" ∧ (parseMethodDescriptor yX11_stand.desc).map (fun d => d.parameters.length) = some 2 := by decide +kernel
set_option maxRecDepth 20000 in
theorem mX5_firstStand_iX11 : Cond.initialized RX11 ∈ wsX5_firstStand := by decide +kernel
set_option maxRecDepth 20000 in
theorem mX5_firstStand_sX11_stand : Cond.static yX11_stand ∈ wsX5_firstStand := by decide +kernel
set_option maxRecDepth 20000 in
theorem kX9_takeOne : yX9_takeOne.cls ≠ "java/lang/invoke/MethodHandle" ∧ yX9_takeOne.cls ≠ "java/lang/invoke/VarHandle" ∧ (parseMethodDescriptor yX9_takeOne.desc).map (fun d => d.parameters.length) = some 1 := by decide +kernel
set_option maxRecDepth 20000 in
theorem kX9_act : yX9_act.cls ≠ "java/lang/invoke/MethodHandle" ∧ yX9_act.cls ≠ "java/lang/invoke/VarHandle" ∧ (parseMethodDescriptor yX9_act.desc).map (fun d => d.parameters.length) = some 5 := by decide +kernel
set_option maxRecDepth 20000 in
theorem kkX9_act : yX9_act.name ≠ "<init>" ∧ (parseMethodDescriptor yX9_act.desc).map (fun d => d.parameters.length) = some 5 := by decide +kernel
set_option maxRecDepth 20000 in
theorem kX9_layOne : yX9_layOne.cls ≠ "java/lang/invoke/MethodHandle" ∧ yX9_layOne.cls ≠ "java/lang/invoke/VarHandle" ∧ (parseMethodDescriptor yX9_layOne.desc).map (fun d => d.parameters.length) = some 1 := by decide +kernel
set_option maxRecDepth 20000 in
theorem kX10_act : yX10_act.cls ≠ "java/lang/invoke/MethodHandle" ∧ yX10_act.cls ≠ "java/lang/invoke/VarHandle" ∧ (parseMethodDescriptor yX10_act.desc).map (fun d => d.parameters.length) = some 5 := by decide +kernel
set_option maxRecDepth 20000 in
theorem kkX10_act : yX10_act.name ≠ "<init>" ∧ (parseMethodDescriptor yX10_act.desc).map (fun d => d.parameters.length) = some 5 := by decide +kernel
set_option maxRecDepth 20000 in
theorem iX5_deed_X5 : ∀ w ∈ wsX50, w ∈ wsX5_deed := by decide +kernel
set_option maxRecDepth 20000 in
theorem mX5_deed_f14 : Cond.fieldLink RX5 14 "PassStones$Road" "passers" "LPassStones$Rows;" ∈ wsX5_deed := by decide +kernel
set_option maxRecDepth 20000 in
theorem mX5_deed_f36 : Cond.fieldLink RX5 36 "PassStones$Road" "kinds" "[LPassStones$Taker;" ∈ wsX5_deed := by decide +kernel
set_option maxRecDepth 20000 in
theorem kX4_act : yX4_act.cls ≠ "java/lang/invoke/MethodHandle" ∧ yX4_act.cls ≠ "java/lang/invoke/VarHandle" ∧ (parseMethodDescriptor yX4_act.desc).map (fun d => d.parameters.length) = some 5 := by decide +kernel
set_option maxRecDepth 20000 in
theorem mX5_deed_cTaker : Cond.code yX9_act cX9_act 6 (some .int) ∈ wsX5_deed := by decide +kernel
set_option maxRecDepth 20000 in
theorem kX2_act : yX2_act.cls ≠ "java/lang/invoke/MethodHandle" ∧ yX2_act.cls ≠ "java/lang/invoke/VarHandle" ∧ (parseMethodDescriptor yX2_act.desc).map (fun d => d.parameters.length) = some 5 := by decide +kernel
set_option maxRecDepth 20000 in
theorem kX1_act : yX1_act.cls ≠ "java/lang/invoke/MethodHandle" ∧ yX1_act.cls ≠ "java/lang/invoke/VarHandle" ∧ (parseMethodDescriptor yX1_act.desc).map (fun d => d.parameters.length) = some 5 := by decide +kernel
set_option maxRecDepth 20000 in
theorem kX0_act : yX0_act.cls ≠ "java/lang/invoke/MethodHandle" ∧ yX0_act.cls ≠ "java/lang/invoke/VarHandle" ∧ (parseMethodDescriptor yX0_act.desc).map (fun d => d.parameters.length) = some 5 := by decide +kernel
set_option maxRecDepth 20000 in
theorem kX11_highOf : yX11_highOf.cls ≠ "java/lang/invoke/MethodHandle" ∧ yX11_highOf.cls ≠ "java/lang/invoke/VarHandle" ∧ (parseMethodDescriptor yX11_highOf.desc).map (fun d => d.parameters.length) = some 1 := by decide +kernel
set_option maxRecDepth 20000 in
theorem mX5_walk_iX11 : Cond.initialized RX11 ∈ wsX5_walk := by decide +kernel
set_option maxRecDepth 20000 in
theorem mX5_walk_sX11_highOf : Cond.static yX11_highOf ∈ wsX5_walk := by decide +kernel
set_option maxRecDepth 20000 in
theorem kX11_didOf : yX11_didOf.cls ≠ "java/lang/invoke/MethodHandle" ∧ yX11_didOf.cls ≠ "java/lang/invoke/VarHandle" ∧ (parseMethodDescriptor yX11_didOf.desc).map (fun d => d.parameters.length) = some 1 := by decide +kernel
set_option maxRecDepth 20000 in
theorem mX5_walk_sX11_didOf : Cond.static yX11_didOf ∈ wsX5_walk := by decide +kernel
set_option maxRecDepth 20000 in
theorem kX5_deed : yX5_deed.cls ≠ "java/lang/invoke/MethodHandle" ∧ yX5_deed.cls ≠ "java/lang/invoke/VarHandle" ∧ (parseMethodDescriptor yX5_deed.desc).map (fun d => d.parameters.length) = some 3 := by decide +kernel
set_option maxRecDepth 20000 in
theorem mX5_walk_sX11_stand : Cond.static yX11_stand ∈ wsX5_walk := by decide +kernel
set_option maxRecDepth 20000 in
theorem kX5_passedUntil : yX5_passedUntil.cls ≠ "java/lang/invoke/MethodHandle" ∧ yX5_passedUntil.cls ≠ "java/lang/invoke/VarHandle" ∧ (parseMethodDescriptor yX5_passedUntil.desc).map (fun d => d.parameters.length) = some 1 := by decide +kernel
set_option maxRecDepth 20000 in
theorem kX5_firstStand : yX5_firstStand.cls ≠ "java/lang/invoke/MethodHandle" ∧ yX5_firstStand.cls ≠ "java/lang/invoke/VarHandle" ∧ (parseMethodDescriptor yX5_firstStand.desc).map (fun d => d.parameters.length) = some 0 := by decide +kernel
set_option maxRecDepth 20000 in
theorem kX5_walk : yX5_walk.cls ≠ "java/lang/invoke/MethodHandle" ∧ yX5_walk.cls ≠ "java/lang/invoke/VarHandle" ∧ (parseMethodDescriptor yX5_walk.desc).map (fun d => d.parameters.length) = some 3 := by decide +kernel
set_option maxRecDepth 20000 in
theorem mX5_highIn_iX11 : Cond.initialized RX11 ∈ wsX5_highIn := by decide +kernel
set_option maxRecDepth 20000 in
theorem mX5_highIn_sX11_highOf : Cond.static yX11_highOf ∈ wsX5_highIn := by decide +kernel
set_option maxRecDepth 20000 in
theorem iX11_height_X11 : ∀ w ∈ wsX110, w ∈ wsX11_height := by decide +kernel
set_option maxRecDepth 20000 in
theorem mX11_height_f88 : Cond.fieldLink RX11 88 "PassStones" "road" "LPassStones$Road;" ∈ wsX11_height := by decide +kernel
set_option maxRecDepth 20000 in
theorem kX5_highIn : yX5_highIn.cls ≠ "java/lang/invoke/MethodHandle" ∧ yX5_highIn.cls ≠ "java/lang/invoke/VarHandle" ∧ (parseMethodDescriptor yX5_highIn.desc).map (fun d => d.parameters.length) = some 1 := by decide +kernel
set_option maxRecDepth 20000 in
theorem iX11_badAs_X11 : ∀ w ∈ wsX110, w ∈ wsX11_badAs := by decide +kernel
set_option maxRecDepth 20000 in
theorem mX11_badAs_f53 : Cond.fieldLink RX11 53 "PassStones" "badCalls" "I" ∈ wsX11_badAs := by decide +kernel
set_option maxRecDepth 20000 in
theorem iX11_does_X11 : ∀ w ∈ wsX110, w ∈ wsX11_does := by decide +kernel
set_option maxRecDepth 20000 in
theorem mX11_does_f88 : Cond.fieldLink RX11 88 "PassStones" "road" "LPassStones$Road;" ∈ wsX11_does := by decide +kernel
set_option maxRecDepth 20000 in
theorem iX11_does_X5 : ∀ w ∈ wsX50, w ∈ wsX11_does := by decide +kernel
set_option maxRecDepth 20000 in
theorem kX11_badAs : yX11_badAs.cls ≠ "java/lang/invoke/MethodHandle" ∧ yX11_badAs.cls ≠ "java/lang/invoke/VarHandle" ∧ (parseMethodDescriptor yX11_badAs.desc).map (fun d => d.parameters.length) = some 1 := by decide +kernel
set_option maxRecDepth 20000 in
theorem iX11_over_X11 : ∀ w ∈ wsX110, w ∈ wsX11_over := by decide +kernel
set_option maxRecDepth 20000 in
theorem mX11_over_f88 : Cond.fieldLink RX11 88 "PassStones" "road" "LPassStones$Road;" ∈ wsX11_over := by decide +kernel
set_option maxRecDepth 20000 in
theorem iX11_over_X5 : ∀ w ∈ wsX50, w ∈ wsX11_over := by decide +kernel
set_option maxRecDepth 20000 in
theorem iX11_through_X11 : ∀ w ∈ wsX110, w ∈ wsX11_through := by decide +kernel
set_option maxRecDepth 20000 in
theorem mX11_through_f88 : Cond.fieldLink RX11 88 "PassStones" "road" "LPassStones$Road;" ∈ wsX11_through := by decide +kernel
set_option maxRecDepth 20000 in
theorem iX11_through_X5 : ∀ w ∈ wsX50, w ∈ wsX11_through := by decide +kernel
set_option maxRecDepth 20000 in
theorem iX11_behind_X11 : ∀ w ∈ wsX110, w ∈ wsX11_behind := by decide +kernel
set_option maxRecDepth 20000 in
theorem mX11_behind_f88 : Cond.fieldLink RX11 88 "PassStones" "road" "LPassStones$Road;" ∈ wsX11_behind := by decide +kernel
set_option maxRecDepth 20000 in
theorem iX11_behind_X5 : ∀ w ∈ wsX50, w ∈ wsX11_behind := by decide +kernel
set_option maxRecDepth 20000 in
theorem mX11_behind_c202 : Cond.methodLink RX11 202 Lib.Math.min.name ∈ wsX11_behind := by decide +kernel
set_option maxRecDepth 20000 in
theorem mX11_behind_smin : Cond.static Lib.Math.min.name ∈ wsX11_behind := by decide +kernel
set_option maxRecDepth 20000 in
theorem mX11_behind_iMath : Cond.initialized "java/lang/Math" ∈ wsX11_behind := by decide +kernel
set_option maxRecDepth 20000 in
theorem mX11_behind_kmin : Cond.code Lib.Math.min.name Lib.Math.min.code 2 (some .int) ∈ wsX11_behind := by decide +kernel
set_option maxRecDepth 20000 in
theorem iX11_may_X11 : ∀ w ∈ wsX110, w ∈ wsX11_may := by decide +kernel
set_option maxRecDepth 20000 in
theorem mX11_may_f88 : Cond.fieldLink RX11 88 "PassStones" "road" "LPassStones$Road;" ∈ wsX11_may := by decide +kernel
set_option maxRecDepth 20000 in
theorem mX11_may_c207 : Cond.methodLink RX11 207 Lib.Math.abs.name ∈ wsX11_may := by decide +kernel
set_option maxRecDepth 20000 in
theorem mX11_may_sabs : Cond.static Lib.Math.abs.name ∈ wsX11_may := by decide +kernel
set_option maxRecDepth 20000 in
theorem mX11_may_iMath : Cond.initialized "java/lang/Math" ∈ wsX11_may := by decide +kernel
set_option maxRecDepth 20000 in
theorem mX11_may_kabs : Cond.code Lib.Math.abs.name Lib.Math.abs.code 1 (some .int) ∈ wsX11_may := by decide +kernel
set_option maxRecDepth 20000 in
theorem iX11_farBehind_X11 : ∀ w ∈ wsX110, w ∈ wsX11_farBehind := by decide +kernel
set_option maxRecDepth 20000 in
theorem mX11_farBehind_f88 : Cond.fieldLink RX11 88 "PassStones" "road" "LPassStones$Road;" ∈ wsX11_farBehind := by decide +kernel
set_option maxRecDepth 20000 in
theorem mX11_farBehind_c207 : Cond.methodLink RX11 207 Lib.Math.abs.name ∈ wsX11_farBehind := by decide +kernel
set_option maxRecDepth 20000 in
theorem mX11_farBehind_sabs : Cond.static Lib.Math.abs.name ∈ wsX11_farBehind := by decide +kernel
set_option maxRecDepth 20000 in
theorem mX11_farBehind_iMath : Cond.initialized "java/lang/Math" ∈ wsX11_farBehind := by decide +kernel
set_option maxRecDepth 20000 in
theorem mX11_farBehind_kabs : Cond.code Lib.Math.abs.name Lib.Math.abs.code 1 (some .int) ∈ wsX11_farBehind := by decide +kernel
set_option maxRecDepth 20000 in
theorem iX11_advice_X11 : ∀ w ∈ wsX110, w ∈ wsX11_advice := by decide +kernel
set_option maxRecDepth 20000 in
theorem mX11_advice_f88 : Cond.fieldLink RX11 88 "PassStones" "road" "LPassStones$Road;" ∈ wsX11_advice := by decide +kernel
set_option maxRecDepth 20000 in
theorem iX11_advice_X5 : ∀ w ∈ wsX50, w ∈ wsX11_advice := by decide +kernel
set_option maxRecDepth 20000 in
theorem kX11_farBehind : yX11_farBehind.cls ≠ "java/lang/invoke/MethodHandle" ∧ yX11_farBehind.cls ≠ "java/lang/invoke/VarHandle" ∧ (parseMethodDescriptor yX11_farBehind.desc).map (fun d => d.parameters.length) = some 4 := by decide +kernel
set_option maxRecDepth 20000 in
theorem iX11_check_X11 : ∀ w ∈ wsX110, w ∈ wsX11_check := by decide +kernel
set_option maxRecDepth 20000 in
theorem mX11_check_f88 : Cond.fieldLink RX11 88 "PassStones" "road" "LPassStones$Road;" ∈ wsX11_check := by decide +kernel
set_option maxRecDepth 20000 in
theorem iX3_passedAhead_X5 : ∀ w ∈ wsX50, w ∈ wsX3_passedAhead := by decide +kernel
set_option maxRecDepth 20000 in
theorem iX3_fewestFrom_X3 : ∀ w ∈ wsX30, w ∈ wsX3_fewestFrom := by decide +kernel
set_option maxRecDepth 20000 in
theorem mX3_fewestFrom_f9 : Cond.fieldLink RX3 9 "PassStones$Hiring" "fewest" "[I" ∈ wsX3_fewestFrom := by decide +kernel
set_option maxRecDepth 20000 in
theorem mX3_seekGoal_iX11 : Cond.initialized RX11 ∈ wsX3_seekGoal := by decide +kernel
set_option maxRecDepth 20000 in
theorem mX3_seekGoal_sX11_highOf : Cond.static yX11_highOf ∈ wsX3_seekGoal := by decide +kernel
set_option maxRecDepth 20000 in
theorem mX3_seekGoal_sX11_didOf : Cond.static yX11_didOf ∈ wsX3_seekGoal := by decide +kernel
set_option maxRecDepth 20000 in
theorem iX3_seekGoal_X5 : ∀ w ∈ wsX50, w ∈ wsX3_seekGoal := by decide +kernel
set_option maxRecDepth 20000 in
theorem iX3_seekGoal_X3 : ∀ w ∈ wsX30, w ∈ wsX3_seekGoal := by decide +kernel
set_option maxRecDepth 20000 in
theorem mX3_seekGoal_f25 : Cond.fieldLink RX3 25 "PassStones$Hiring" "goalMen" "I" ∈ wsX3_seekGoal := by decide +kernel
set_option maxRecDepth 20000 in
theorem mX3_seekGoal_c67 : Cond.methodLink RX3 67 Lib.Math.abs.name ∈ wsX3_seekGoal := by decide +kernel
set_option maxRecDepth 20000 in
theorem mX3_seekGoal_sabs : Cond.static Lib.Math.abs.name ∈ wsX3_seekGoal := by decide +kernel
set_option maxRecDepth 20000 in
theorem mX3_seekGoal_iMath : Cond.initialized "java/lang/Math" ∈ wsX3_seekGoal := by decide +kernel
set_option maxRecDepth 20000 in
theorem mX3_seekGoal_kabs : Cond.code Lib.Math.abs.name Lib.Math.abs.code 1 (some .int) ∈ wsX3_seekGoal := by decide +kernel
set_option maxRecDepth 20000 in
theorem mX3_seekGoal_sX11_stand : Cond.static yX11_stand ∈ wsX3_seekGoal := by decide +kernel
set_option maxRecDepth 20000 in
theorem kX3_fewestFrom : yX3_fewestFrom.cls ≠ "java/lang/invoke/MethodHandle" ∧ yX3_fewestFrom.cls ≠ "java/lang/invoke/VarHandle" ∧ (parseMethodDescriptor yX3_fewestFrom.desc).map (fun d => d.parameters.length) = some 2 := by decide +kernel
set_option maxRecDepth 20000 in
theorem mX3_seekGoal_f22 : Cond.fieldLink RX3 22 "PassStones$Hiring" "goal" "I" ∈ wsX3_seekGoal := by decide +kernel
set_option maxRecDepth 20000 in
theorem iX3_keep_X3 : ∀ w ∈ wsX30, w ∈ wsX3_keep := by decide +kernel
set_option maxRecDepth 20000 in
theorem mX3_keep_f9 : Cond.fieldLink RX3 9 "PassStones$Hiring" "fewest" "[I" ∈ wsX3_keep := by decide +kernel
set_option maxRecDepth 20000 in
theorem iX3_weigh_X5 : ∀ w ∈ wsX50, w ∈ wsX3_weigh := by decide +kernel
set_option maxRecDepth 20000 in
theorem kX3_passedAhead : yX3_passedAhead.cls ≠ "java/lang/invoke/MethodHandle" ∧ yX3_passedAhead.cls ≠ "java/lang/invoke/VarHandle" ∧ (parseMethodDescriptor yX3_passedAhead.desc).map (fun d => d.parameters.length) = some 2 := by decide +kernel
set_option maxRecDepth 20000 in
theorem kX3_seekGoal : yX3_seekGoal.cls ≠ "java/lang/invoke/MethodHandle" ∧ yX3_seekGoal.cls ≠ "java/lang/invoke/VarHandle" ∧ (parseMethodDescriptor yX3_seekGoal.desc).map (fun d => d.parameters.length) = some 3 := by decide +kernel
set_option maxRecDepth 20000 in
theorem iX3_weigh_X3 : ∀ w ∈ wsX30, w ∈ wsX3_weigh := by decide +kernel
set_option maxRecDepth 20000 in
theorem mX3_weigh_f25 : Cond.fieldLink RX3 25 "PassStones$Hiring" "goalMen" "I" ∈ wsX3_weigh := by decide +kernel
set_option maxRecDepth 20000 in
theorem kX3_keep : yX3_keep.cls ≠ "java/lang/invoke/MethodHandle" ∧ yX3_keep.cls ≠ "java/lang/invoke/VarHandle" ∧ (parseMethodDescriptor yX3_keep.desc).map (fun d => d.parameters.length) = some 3 := by decide +kernel
set_option maxRecDepth 20000 in
theorem iX3_follow_X3 : ∀ w ∈ wsX30, w ∈ wsX3_follow := by decide +kernel
set_option maxRecDepth 20000 in
theorem mX3_follow_f18 : Cond.fieldLink RX3 18 "PassStones$Hiring" "men" "I" ∈ wsX3_follow := by decide +kernel
set_option maxRecDepth 20000 in
theorem mX3_follow_f15 : Cond.fieldLink RX3 15 "PassStones$Hiring" "gains" "[I" ∈ wsX3_follow := by decide +kernel
set_option maxRecDepth 20000 in
theorem iX3_follow_X5 : ∀ w ∈ wsX50, w ∈ wsX3_follow := by decide +kernel
set_option maxRecDepth 20000 in
theorem mX3_follow_f22 : Cond.fieldLink RX3 22 "PassStones$Hiring" "goal" "I" ∈ wsX3_follow := by decide +kernel
set_option maxRecDepth 20000 in
theorem mX3_follow_iX11 : Cond.initialized RX11 ∈ wsX3_follow := by decide +kernel
set_option maxRecDepth 20000 in
theorem mX3_follow_sX11_highOf : Cond.static yX11_highOf ∈ wsX3_follow := by decide +kernel
set_option maxRecDepth 20000 in
theorem mX3_follow_c67 : Cond.methodLink RX3 67 Lib.Math.abs.name ∈ wsX3_follow := by decide +kernel
set_option maxRecDepth 20000 in
theorem mX3_follow_sabs : Cond.static Lib.Math.abs.name ∈ wsX3_follow := by decide +kernel
set_option maxRecDepth 20000 in
theorem mX3_follow_iMath : Cond.initialized "java/lang/Math" ∈ wsX3_follow := by decide +kernel
set_option maxRecDepth 20000 in
theorem mX3_follow_kabs : Cond.code Lib.Math.abs.name Lib.Math.abs.code 1 (some .int) ∈ wsX3_follow := by decide +kernel
set_option maxRecDepth 20000 in
theorem mX3_follow_sX11_didOf : Cond.static yX11_didOf ∈ wsX3_follow := by decide +kernel
set_option maxRecDepth 20000 in
theorem mX3_follow_sX11_stand : Cond.static yX11_stand ∈ wsX3_follow := by decide +kernel
set_option maxRecDepth 20000 in
theorem iX3_gainAt_X3 : ∀ w ∈ wsX30, w ∈ wsX3_gainAt := by decide +kernel
set_option maxRecDepth 20000 in
theorem mX3_gainAt_f15 : Cond.fieldLink RX3 15 "PassStones$Hiring" "gains" "[I" ∈ wsX3_gainAt := by decide +kernel
set_option maxRecDepth 20000 in
theorem iX11_hired_X11 : ∀ w ∈ wsX110, w ∈ wsX11_hired := by decide +kernel
set_option maxRecDepth 20000 in
theorem mX11_hired_f25 : Cond.fieldLink RX11 25 "PassStones" "hiring" "LPassStones$Hiring;" ∈ wsX11_hired := by decide +kernel
set_option maxRecDepth 20000 in
theorem mX11_hired_f88 : Cond.fieldLink RX11 88 "PassStones" "road" "LPassStones$Road;" ∈ wsX11_hired := by decide +kernel
set_option maxRecDepth 20000 in
theorem kX3_weigh : yX3_weigh.cls ≠ "java/lang/invoke/MethodHandle" ∧ yX3_weigh.cls ≠ "java/lang/invoke/VarHandle" ∧ (parseMethodDescriptor yX3_weigh.desc).map (fun d => d.parameters.length) = some 1 := by decide +kernel
set_option maxRecDepth 20000 in
theorem kX3_follow : yX3_follow.cls ≠ "java/lang/invoke/MethodHandle" ∧ yX3_follow.cls ≠ "java/lang/invoke/VarHandle" ∧ (parseMethodDescriptor yX3_follow.desc).map (fun d => d.parameters.length) = some 1 := by decide +kernel
set_option maxRecDepth 20000 in
theorem kX3_gainAt : yX3_gainAt.cls ≠ "java/lang/invoke/MethodHandle" ∧ yX3_gainAt.cls ≠ "java/lang/invoke/VarHandle" ∧ (parseMethodDescriptor yX3_gainAt.desc).map (fun d => d.parameters.length) = some 1 := by decide +kernel
set_option maxRecDepth 20000 in
theorem iX11_hired_X3 : ∀ w ∈ wsX30, w ∈ wsX11_hired := by decide +kernel
set_option maxRecDepth 20000 in
theorem iX11_hired_X5 : ∀ w ∈ wsX50, w ∈ wsX11_hired := by decide +kernel
set_option maxRecDepth 20000 in
theorem iX11_endFrom_X11 : ∀ w ∈ wsX110, w ∈ wsX11_endFrom := by decide +kernel
set_option maxRecDepth 20000 in
theorem mX11_endFrom_f43 : Cond.fieldLink RX11 43 "PassStones" "laterEnds" "[I" ∈ wsX11_endFrom := by decide +kernel
set_option maxRecDepth 20000 in
theorem iX11_bestDeed_X11 : ∀ w ∈ wsX110, w ∈ wsX11_bestDeed := by decide +kernel
set_option maxRecDepth 20000 in
theorem mX11_bestDeed_f88 : Cond.fieldLink RX11 88 "PassStones" "road" "LPassStones$Road;" ∈ wsX11_bestDeed := by decide +kernel
set_option maxRecDepth 20000 in
theorem iX11_bestDeed_X5 : ∀ w ∈ wsX50, w ∈ wsX11_bestDeed := by decide +kernel
set_option maxRecDepth 20000 in
theorem kX11_endFrom : yX11_endFrom.cls ≠ "java/lang/invoke/MethodHandle" ∧ yX11_endFrom.cls ≠ "java/lang/invoke/VarHandle" ∧ (parseMethodDescriptor yX11_endFrom.desc).map (fun d => d.parameters.length) = some 1 := by decide +kernel
set_option maxRecDepth 20000 in
theorem mX11_bestDeed_c207 : Cond.methodLink RX11 207 Lib.Math.abs.name ∈ wsX11_bestDeed := by decide +kernel
set_option maxRecDepth 20000 in
theorem mX11_bestDeed_sabs : Cond.static Lib.Math.abs.name ∈ wsX11_bestDeed := by decide +kernel
set_option maxRecDepth 20000 in
theorem mX11_bestDeed_iMath : Cond.initialized "java/lang/Math" ∈ wsX11_bestDeed := by decide +kernel
set_option maxRecDepth 20000 in
theorem mX11_bestDeed_kabs : Cond.code Lib.Math.abs.name Lib.Math.abs.code 1 (some .int) ∈ wsX11_bestDeed := by decide +kernel
set_option maxRecDepth 20000 in
theorem iX11_chooseFromTheLast_X11 : ∀ w ∈ wsX110, w ∈ wsX11_chooseFromTheLast := by decide +kernel
set_option maxRecDepth 20000 in
theorem mX11_chooseFromTheLast_f43 : Cond.fieldLink RX11 43 "PassStones" "laterEnds" "[I" ∈ wsX11_chooseFromTheLast := by decide +kernel
set_option maxRecDepth 20000 in
theorem mX11_chooseFromTheLast_f88 : Cond.fieldLink RX11 88 "PassStones" "road" "LPassStones$Road;" ∈ wsX11_chooseFromTheLast := by decide +kernel
set_option maxRecDepth 20000 in
theorem iX11_chooseFromTheLast_X5 : ∀ w ∈ wsX50, w ∈ wsX11_chooseFromTheLast := by decide +kernel
set_option maxRecDepth 20000 in
theorem mX11_chooseFromTheLast_c202 : Cond.methodLink RX11 202 Lib.Math.min.name ∈ wsX11_chooseFromTheLast := by decide +kernel
set_option maxRecDepth 20000 in
theorem mX11_chooseFromTheLast_smin : Cond.static Lib.Math.min.name ∈ wsX11_chooseFromTheLast := by decide +kernel
set_option maxRecDepth 20000 in
theorem mX11_chooseFromTheLast_iMath : Cond.initialized "java/lang/Math" ∈ wsX11_chooseFromTheLast := by decide +kernel
set_option maxRecDepth 20000 in
theorem mX11_chooseFromTheLast_kmin : Cond.code Lib.Math.min.name Lib.Math.min.code 2 (some .int) ∈ wsX11_chooseFromTheLast := by decide +kernel
set_option maxRecDepth 20000 in
theorem kX11_bestDeed : yX11_bestDeed.cls ≠ "java/lang/invoke/MethodHandle" ∧ yX11_bestDeed.cls ≠ "java/lang/invoke/VarHandle" ∧ (parseMethodDescriptor yX11_bestDeed.desc).map (fun d => d.parameters.length) = some 2 := by decide +kernel
set_option maxRecDepth 20000 in
theorem mX11_chooseFromTheLast_f36 : Cond.fieldLink RX11 36 "PassStones" "choices" "[I" ∈ wsX11_chooseFromTheLast := by decide +kernel
set_option maxRecDepth 20000 in
theorem mX11_chooseFromTheLast_f40 : Cond.fieldLink RX11 40 "PassStones" "ends" "[I" ∈ wsX11_chooseFromTheLast := by decide +kernel
set_option maxRecDepth 20000 in
theorem mX11_chooseFromTheLast_c301 : Cond.methodLink RX11 301 arraycopyName ∈ wsX11_chooseFromTheLast := by decide +kernel
set_option maxRecDepth 20000 in
theorem mX11_chooseFromTheLast_nac : Cond.native arraycopyName ∈ wsX11_chooseFromTheLast := by decide +kernel
set_option maxRecDepth 20000 in
theorem mX11_chooseFromTheLast_sac : Cond.static arraycopyName ∈ wsX11_chooseFromTheLast := by decide +kernel
set_option maxRecDepth 20000 in
theorem mX11_chooseFromTheLast_iSys : Cond.initialized "java/lang/System" ∈ wsX11_chooseFromTheLast := by decide +kernel
set_option maxRecDepth 20000 in
theorem iX11_choiceAt_X11 : ∀ w ∈ wsX110, w ∈ wsX11_choiceAt := by decide +kernel
set_option maxRecDepth 20000 in
theorem mX11_choiceAt_f36 : Cond.fieldLink RX11 36 "PassStones" "choices" "[I" ∈ wsX11_choiceAt := by decide +kernel
set_option maxRecDepth 20000 in
theorem kX11_chooseFromTheLast : yX11_chooseFromTheLast.cls ≠ "java/lang/invoke/MethodHandle" ∧ yX11_chooseFromTheLast.cls ≠ "java/lang/invoke/VarHandle" ∧ (parseMethodDescriptor yX11_chooseFromTheLast.desc).map (fun d => d.parameters.length) = some 0 := by decide +kernel
set_option maxRecDepth 20000 in
theorem iX11_turns_X11 : ∀ w ∈ wsX110, w ∈ wsX11_turns := by decide +kernel
set_option maxRecDepth 20000 in
theorem mX11_turns_f88 : Cond.fieldLink RX11 88 "PassStones" "road" "LPassStones$Road;" ∈ wsX11_turns := by decide +kernel
set_option maxRecDepth 20000 in
theorem iX11_turns_X5 : ∀ w ∈ wsX50, w ∈ wsX11_turns := by decide +kernel
set_option maxRecDepth 20000 in
theorem kX11_choiceAt : yX11_choiceAt.cls ≠ "java/lang/invoke/MethodHandle" ∧ yX11_choiceAt.cls ≠ "java/lang/invoke/VarHandle" ∧ (parseMethodDescriptor yX11_choiceAt.desc).map (fun d => d.parameters.length) = some 2 := by decide +kernel
set_option maxRecDepth 20000 in
theorem iX11_farFromAll_X11 : ∀ w ∈ wsX110, w ∈ wsX11_farFromAll := by decide +kernel
set_option maxRecDepth 20000 in
theorem mX11_farFromAll_f88 : Cond.fieldLink RX11 88 "PassStones" "road" "LPassStones$Road;" ∈ wsX11_farFromAll := by decide +kernel
set_option maxRecDepth 20000 in
theorem iX11_farFromAll_X5 : ∀ w ∈ wsX50, w ∈ wsX11_farFromAll := by decide +kernel
set_option maxRecDepth 20000 in
theorem mX11_farFromAll_c207 : Cond.methodLink RX11 207 Lib.Math.abs.name ∈ wsX11_farFromAll := by decide +kernel
set_option maxRecDepth 20000 in
theorem mX11_farFromAll_sabs : Cond.static Lib.Math.abs.name ∈ wsX11_farFromAll := by decide +kernel
set_option maxRecDepth 20000 in
theorem mX11_farFromAll_iMath : Cond.initialized "java/lang/Math" ∈ wsX11_farFromAll := by decide +kernel
set_option maxRecDepth 20000 in
theorem mX11_farFromAll_kabs : Cond.code Lib.Math.abs.name Lib.Math.abs.code 1 (some .int) ∈ wsX11_farFromAll := by decide +kernel
set_option maxRecDepth 20000 in
theorem iX11_treaty_X11 : ∀ w ∈ wsX110, w ∈ wsX11_treaty := by decide +kernel
set_option maxRecDepth 20000 in
theorem mX11_treaty_f88 : Cond.fieldLink RX11 88 "PassStones" "road" "LPassStones$Road;" ∈ wsX11_treaty := by decide +kernel
set_option maxRecDepth 20000 in
theorem iX11_treaty_X5 : ∀ w ∈ wsX50, w ∈ wsX11_treaty := by decide +kernel
set_option maxRecDepth 20000 in
theorem kX11_farFromAll : yX11_farFromAll.cls ≠ "java/lang/invoke/MethodHandle" ∧ yX11_farFromAll.cls ≠ "java/lang/invoke/VarHandle" ∧ (parseMethodDescriptor yX11_farFromAll.desc).map (fun d => d.parameters.length) = some 1 := by decide +kernel
set_option maxRecDepth 20000 in
theorem iX11_look_X11 : ∀ w ∈ wsX110, w ∈ wsX11_look := by decide +kernel
set_option maxRecDepth 20000 in
theorem mX11_look_f88 : Cond.fieldLink RX11 88 "PassStones" "road" "LPassStones$Road;" ∈ wsX11_look := by decide +kernel
set_option maxRecDepth 20000 in
theorem iX11_forget_X11 : ∀ w ∈ wsX110, w ∈ wsX11_forget := by decide +kernel
set_option maxRecDepth 20000 in
theorem mX11_forget_f88 : Cond.fieldLink RX11 88 "PassStones" "road" "LPassStones$Road;" ∈ wsX11_forget := by decide +kernel
set_option maxRecDepth 20000 in
theorem iX11_forget_X5 : ∀ w ∈ wsX50, w ∈ wsX11_forget := by decide +kernel
set_option maxRecDepth 20000 in
theorem iX8_startAt_X8 : ∀ w ∈ wsX80, w ∈ wsX8_startAt := by decide +kernel
set_option maxRecDepth 20000 in
theorem mX8_startAt_f9 : Cond.fieldLink RX8 9 "PassStones$Spread" "now" "[J" ∈ wsX8_startAt := by decide +kernel
set_option maxRecDepth 20000 in
theorem kJ7_fill_d0a16 : yJ7_fill_d0a16.cls ≠ "java/lang/invoke/MethodHandle" ∧ yJ7_fill_d0a16.cls ≠ "java/lang/invoke/VarHandle" ∧ (parseMethodDescriptor yJ7_fill_d0a16.desc).map (fun d => d.parameters.length) = some 2 := by decide +kernel
set_option maxRecDepth 20000 in
theorem kX8_add : yX8_add.cls ≠ "java/lang/invoke/MethodHandle" ∧ yX8_add.cls ≠ "java/lang/invoke/VarHandle" ∧ (parseMethodDescriptor yX8_add.desc).map (fun d => d.parameters.length) = some 3 := by decide +kernel
set_option maxRecDepth 20000 in
theorem iX8_keepOnly_X8 : ∀ w ∈ wsX80, w ∈ wsX8_keepOnly := by decide +kernel
set_option maxRecDepth 20000 in
theorem mX8_keepOnly_f9 : Cond.fieldLink RX8 9 "PassStones$Spread" "now" "[J" ∈ wsX8_keepOnly := by decide +kernel
set_option maxRecDepth 20000 in
theorem iX11_keepWhatWasSeen_X11 : ∀ w ∈ wsX110, w ∈ wsX11_keepWhatWasSeen := by decide +kernel
set_option maxRecDepth 20000 in
theorem mX11_keepWhatWasSeen_f88 : Cond.fieldLink RX11 88 "PassStones" "road" "LPassStones$Road;" ∈ wsX11_keepWhatWasSeen := by decide +kernel
set_option maxRecDepth 20000 in
theorem iX11_keepWhatWasSeen_X5 : ∀ w ∈ wsX50, w ∈ wsX11_keepWhatWasSeen := by decide +kernel
set_option maxRecDepth 20000 in
theorem mX11_keepWhatWasSeen_f32 : Cond.fieldLink RX11 32 "PassStones" "spread" "LPassStones$Spread;" ∈ wsX11_keepWhatWasSeen := by decide +kernel
set_option maxRecDepth 20000 in
theorem kX8_keepOnly : yX8_keepOnly.cls ≠ "java/lang/invoke/MethodHandle" ∧ yX8_keepOnly.cls ≠ "java/lang/invoke/VarHandle" ∧ (parseMethodDescriptor yX8_keepOnly.desc).map (fun d => d.parameters.length) = some 1 := by decide +kernel
set_option maxRecDepth 20000 in
theorem iX8_pass_X8 : ∀ w ∈ wsX80, w ∈ wsX8_pass := by decide +kernel
set_option maxRecDepth 20000 in
theorem mX8_pass_f15 : Cond.fieldLink RX8 15 "PassStones$Spread" "later" "[J" ∈ wsX8_pass := by decide +kernel
set_option maxRecDepth 20000 in
theorem mX8_pass_f9 : Cond.fieldLink RX8 9 "PassStones$Spread" "now" "[J" ∈ wsX8_pass := by decide +kernel
set_option maxRecDepth 20000 in
theorem mX8_pass_c28 : Cond.methodLink RX8 28 arraycopyName ∈ wsX8_pass := by decide +kernel
set_option maxRecDepth 20000 in
theorem mX8_pass_nac : Cond.native arraycopyName ∈ wsX8_pass := by decide +kernel
set_option maxRecDepth 20000 in
theorem mX8_pass_sac : Cond.static arraycopyName ∈ wsX8_pass := by decide +kernel
set_option maxRecDepth 20000 in
theorem mX8_pass_iSys : Cond.initialized "java/lang/System" ∈ wsX8_pass := by decide +kernel
set_option maxRecDepth 20000 in
theorem iX8_upTo_X8 : ∀ w ∈ wsX80, w ∈ wsX8_upTo := by decide +kernel
set_option maxRecDepth 20000 in
theorem mX8_upTo_f9 : Cond.fieldLink RX8 9 "PassStones$Spread" "now" "[J" ∈ wsX8_upTo := by decide +kernel
set_option maxRecDepth 20000 in
theorem iX11_rowsThatFit_X11 : ∀ w ∈ wsX110, w ∈ wsX11_rowsThatFit := by decide +kernel
set_option maxRecDepth 20000 in
theorem mX11_rowsThatFit_f32 : Cond.fieldLink RX11 32 "PassStones" "spread" "LPassStones$Spread;" ∈ wsX11_rowsThatFit := by decide +kernel
set_option maxRecDepth 20000 in
theorem mX11_rowsThatFit_f88 : Cond.fieldLink RX11 88 "PassStones" "road" "LPassStones$Road;" ∈ wsX11_rowsThatFit := by decide +kernel
set_option maxRecDepth 20000 in
theorem iX11_rowsThatFit_X5 : ∀ w ∈ wsX50, w ∈ wsX11_rowsThatFit := by decide +kernel
set_option maxRecDepth 20000 in
theorem kX8_startAt : yX8_startAt.cls ≠ "java/lang/invoke/MethodHandle" ∧ yX8_startAt.cls ≠ "java/lang/invoke/VarHandle" ∧ (parseMethodDescriptor yX8_startAt.desc).map (fun d => d.parameters.length) = some 1 := by decide +kernel
set_option maxRecDepth 20000 in
theorem kX11_keepWhatWasSeen : yX11_keepWhatWasSeen.cls ≠ "java/lang/invoke/MethodHandle" ∧ yX11_keepWhatWasSeen.cls ≠ "java/lang/invoke/VarHandle" ∧ (parseMethodDescriptor yX11_keepWhatWasSeen.desc).map (fun d => d.parameters.length) = some 1 := by decide +kernel
set_option maxRecDepth 20000 in
theorem kX8_pass : yX8_pass.cls ≠ "java/lang/invoke/MethodHandle" ∧ yX8_pass.cls ≠ "java/lang/invoke/VarHandle" ∧ (parseMethodDescriptor yX8_pass.desc).map (fun d => d.parameters.length) = some 4 := by decide +kernel
set_option maxRecDepth 20000 in
theorem kX8_upTo : yX8_upTo.cls ≠ "java/lang/invoke/MethodHandle" ∧ yX8_upTo.cls ≠ "java/lang/invoke/VarHandle" ∧ (parseMethodDescriptor yX8_upTo.desc).map (fun d => d.parameters.length) = some 1 := by decide +kernel
set_option maxRecDepth 20000 in
theorem kX11_rowsThatFit : yX11_rowsThatFit.cls ≠ "java/lang/invoke/MethodHandle" ∧ yX11_rowsThatFit.cls ≠ "java/lang/invoke/VarHandle" ∧ (parseMethodDescriptor yX11_rowsThatFit.desc).map (fun d => d.parameters.length) = some 2 := by decide +kernel
set_option maxRecDepth 20000 in
theorem iX11_sure_X11 : ∀ w ∈ wsX110, w ∈ wsX11_sure := by decide +kernel
set_option maxRecDepth 20000 in
theorem mX11_sure_f88 : Cond.fieldLink RX11 88 "PassStones" "road" "LPassStones$Road;" ∈ wsX11_sure := by decide +kernel
set_option maxRecDepth 20000 in
theorem iX11_sure_X5 : ∀ w ∈ wsX50, w ∈ wsX11_sure := by decide +kernel
set_option maxRecDepth 20000 in
theorem mX11_sure_f57 : Cond.fieldLink RX11 57 "PassStones" "noCalls" "I" ∈ wsX11_sure := by decide +kernel
set_option maxRecDepth 20000 in
theorem iX11_passByOdds_X11 : ∀ w ∈ wsX110, w ∈ wsX11_passByOdds := by decide +kernel
set_option maxRecDepth 20000 in
theorem mX11_passByOdds_f88 : Cond.fieldLink RX11 88 "PassStones" "road" "LPassStones$Road;" ∈ wsX11_passByOdds := by decide +kernel
set_option maxRecDepth 20000 in
theorem iX11_passByOdds_X5 : ∀ w ∈ wsX50, w ∈ wsX11_passByOdds := by decide +kernel
set_option maxRecDepth 20000 in
theorem mX11_passByOdds_f32 : Cond.fieldLink RX11 32 "PassStones" "spread" "LPassStones$Spread;" ∈ wsX11_passByOdds := by decide +kernel
set_option maxRecDepth 20000 in
theorem kX11_commonDivisor : yX11_commonDivisor.cls ≠ "java/lang/invoke/MethodHandle" ∧ yX11_commonDivisor.cls ≠ "java/lang/invoke/VarHandle" ∧ (parseMethodDescriptor yX11_commonDivisor.desc).map (fun d => d.parameters.length) = some 2 := by decide +kernel
set_option maxRecDepth 20000 in
theorem iX11_setFraction_X11 : ∀ w ∈ wsX110, w ∈ wsX11_setFraction := by decide +kernel
set_option maxRecDepth 20000 in
theorem mX11_setFraction_f46 : Cond.fieldLink RX11 46 "PassStones" "above" "J" ∈ wsX11_setFraction := by decide +kernel
set_option maxRecDepth 20000 in
theorem mX11_setFraction_f50 : Cond.fieldLink RX11 50 "PassStones" "below" "J" ∈ wsX11_setFraction := by decide +kernel
set_option maxRecDepth 20000 in
theorem iX11_chance_X11 : ∀ w ∈ wsX110, w ∈ wsX11_chance := by decide +kernel
set_option maxRecDepth 20000 in
theorem mX11_chance_f32 : Cond.fieldLink RX11 32 "PassStones" "spread" "LPassStones$Spread;" ∈ wsX11_chance := by decide +kernel
set_option maxRecDepth 20000 in
theorem mX11_chance_f88 : Cond.fieldLink RX11 88 "PassStones" "road" "LPassStones$Road;" ∈ wsX11_chance := by decide +kernel
set_option maxRecDepth 20000 in
theorem iX11_chance_X5 : ∀ w ∈ wsX50, w ∈ wsX11_chance := by decide +kernel
set_option maxRecDepth 20000 in
theorem kX11_passByOdds : yX11_passByOdds.cls ≠ "java/lang/invoke/MethodHandle" ∧ yX11_passByOdds.cls ≠ "java/lang/invoke/VarHandle" ∧ (parseMethodDescriptor yX11_passByOdds.desc).map (fun d => d.parameters.length) = some 1 := by decide +kernel
set_option maxRecDepth 20000 in
theorem mX11_chance_k265 : Cond.constantLong RX11 265 (10 : Int64) ∈ wsX11_chance := by decide +kernel
set_option maxRecDepth 20000 in
theorem kX11_setFraction : yX11_setFraction.cls ≠ "java/lang/invoke/MethodHandle" ∧ yX11_setFraction.cls ≠ "java/lang/invoke/VarHandle" ∧ (parseMethodDescriptor yX11_setFraction.desc).map (fun d => d.parameters.length) = some 2 := by decide +kernel
set_option maxRecDepth 20000 in
theorem iX8_takeOutUpTo_X8 : ∀ w ∈ wsX80, w ∈ wsX8_takeOutUpTo := by decide +kernel
set_option maxRecDepth 20000 in
theorem mX8_takeOutUpTo_f9 : Cond.fieldLink RX8 9 "PassStones$Spread" "now" "[J" ∈ wsX8_takeOutUpTo := by decide +kernel
set_option maxRecDepth 20000 in
theorem iX11_free_X11 : ∀ w ∈ wsX110, w ∈ wsX11_free := by decide +kernel
set_option maxRecDepth 20000 in
theorem mX11_free_f32 : Cond.fieldLink RX11 32 "PassStones" "spread" "LPassStones$Spread;" ∈ wsX11_free := by decide +kernel
set_option maxRecDepth 20000 in
theorem mX11_free_f88 : Cond.fieldLink RX11 88 "PassStones" "road" "LPassStones$Road;" ∈ wsX11_free := by decide +kernel
set_option maxRecDepth 20000 in
theorem iX11_free_X5 : ∀ w ∈ wsX50, w ∈ wsX11_free := by decide +kernel
set_option maxRecDepth 20000 in
theorem kX8_takeOutUpTo : yX8_takeOutUpTo.cls ≠ "java/lang/invoke/MethodHandle" ∧ yX8_takeOutUpTo.cls ≠ "java/lang/invoke/VarHandle" ∧ (parseMethodDescriptor yX8_takeOutUpTo.desc).map (fun d => d.parameters.length) = some 1 := by decide +kernel
set_option maxRecDepth 20000 in
theorem mX11_free_k265 : Cond.constantLong RX11 265 (10 : Int64) ∈ wsX11_free := by decide +kernel
set_option maxRecDepth 20000 in
theorem iX11_part_X11 : ∀ w ∈ wsX110, w ∈ wsX11_part := by decide +kernel
set_option maxRecDepth 20000 in
theorem mX11_part_f50 : Cond.fieldLink RX11 50 "PassStones" "below" "J" ∈ wsX11_part := by decide +kernel
set_option maxRecDepth 20000 in
theorem mX11_part_f46 : Cond.fieldLink RX11 46 "PassStones" "above" "J" ∈ wsX11_part := by decide +kernel
set_option maxRecDepth 20000 in
theorem iX11_status_X11 : ∀ w ∈ wsX110, w ∈ wsX11_status := by decide +kernel
set_option maxRecDepth 20000 in
theorem mX11_status_f53 : Cond.fieldLink RX11 53 "PassStones" "badCalls" "I" ∈ wsX11_status := by decide +kernel
set_option maxRecDepth 20000 in
theorem mX11_status_f57 : Cond.fieldLink RX11 57 "PassStones" "noCalls" "I" ∈ wsX11_status := by decide +kernel
set_option maxRecDepth 20000 in
theorem mX11_status_f60 : Cond.fieldLink RX11 60 "PassStones" "fullCalls" "I" ∈ wsX11_status := by decide +kernel
set_option maxRecDepth 20000 in
theorem iX11_count_X11 : ∀ w ∈ wsX110, w ∈ wsX11_count := by decide +kernel
set_option maxRecDepth 20000 in
theorem mX11_count_f88 : Cond.fieldLink RX11 88 "PassStones" "road" "LPassStones$Road;" ∈ wsX11_count := by decide +kernel
set_option maxRecDepth 20000 in
theorem iX11_count_X5 : ∀ w ∈ wsX50, w ∈ wsX11_count := by decide +kernel
set_option maxRecDepth 20000 in
theorem mX11_count_f18 : Cond.fieldLink RX11 18 "PassStones" "text" "LPassStones$RoadText;" ∈ wsX11_count := by decide +kernel
set_option maxRecDepth 20000 in
theorem iX7_mixedInto_X7 : ∀ w ∈ wsX70, w ∈ wsX7_mixedInto := by decide +kernel
set_option maxRecDepth 20000 in
theorem mX7_mixedInto_f9 : Cond.fieldLink RX7 9 "PassStones$Rows" "size" "I" ∈ wsX7_mixedInto := by decide +kernel
set_option maxRecDepth 20000 in
theorem mX7_mixedInto_f24 : Cond.fieldLink RX7 24 "PassStones$Rows" "width" "I" ∈ wsX7_mixedInto := by decide +kernel
set_option maxRecDepth 20000 in
theorem mX7_mixedInto_f27 : Cond.fieldLink RX7 27 "PassStones$Rows" "cells" "[I" ∈ wsX7_mixedInto := by decide +kernel
set_option maxRecDepth 20000 in
theorem mX7_mixedInto_c38 : Cond.methodLink RX7 38 Lib.Math.min.name ∈ wsX7_mixedInto := by decide +kernel
set_option maxRecDepth 20000 in
theorem mX7_mixedInto_smin : Cond.static Lib.Math.min.name ∈ wsX7_mixedInto := by decide +kernel
set_option maxRecDepth 20000 in
theorem mX7_mixedInto_iMath : Cond.initialized "java/lang/Math" ∈ wsX7_mixedInto := by decide +kernel
set_option maxRecDepth 20000 in
theorem mX7_mixedInto_kmin : Cond.code Lib.Math.min.name Lib.Math.min.code 2 (some .int) ∈ wsX7_mixedInto := by decide +kernel
set_option maxRecDepth 20000 in
theorem mX7_mixedInto_k41 : Cond.constantLong RX7 41 (31 : Int64) ∈ wsX7_mixedInto := by decide +kernel
set_option maxRecDepth 20000 in
theorem mX11_digest_k281 : Cond.constantLong RX11 281 (733 : Int64) ∈ wsX11_digest := by decide +kernel
set_option maxRecDepth 20000 in
theorem mX11_digest_k283 : Cond.constantLong RX11 283 (31 : Int64) ∈ wsX11_digest := by decide +kernel
set_option maxRecDepth 20000 in
theorem iX11_digest_X11 : ∀ w ∈ wsX110, w ∈ wsX11_digest := by decide +kernel
set_option maxRecDepth 20000 in
theorem mX11_digest_f88 : Cond.fieldLink RX11 88 "PassStones" "road" "LPassStones$Road;" ∈ wsX11_digest := by decide +kernel
set_option maxRecDepth 20000 in
theorem iX11_digest_X5 : ∀ w ∈ wsX50, w ∈ wsX11_digest := by decide +kernel
set_option maxRecDepth 20000 in
theorem mX11_digest_f18 : Cond.fieldLink RX11 18 "PassStones" "text" "LPassStones$RoadText;" ∈ wsX11_digest := by decide +kernel
set_option maxRecDepth 20000 in
theorem kX7_mixedInto : yX7_mixedInto.cls ≠ "java/lang/invoke/MethodHandle" ∧ yX7_mixedInto.cls ≠ "java/lang/invoke/VarHandle" ∧ (parseMethodDescriptor yX7_mixedInto.desc).map (fun d => d.parameters.length) = some 1 := by decide +kernel
set_option maxRecDepth 20000 in
theorem mX11_digest_f46 : Cond.fieldLink RX11 46 "PassStones" "above" "J" ∈ wsX11_digest := by decide +kernel
set_option maxRecDepth 20000 in
theorem mX11_digest_f50 : Cond.fieldLink RX11 50 "PassStones" "below" "J" ∈ wsX11_digest := by decide +kernel
set_option maxRecDepth 20000 in
theorem iX11_isImage_X11 : ∀ w ∈ wsX110, w ∈ wsX11_isImage := by decide +kernel
set_option maxRecDepth 20000 in
theorem mX11_isImage_f11 : Cond.fieldLink RX11 11 "PassStones" "images" "[LPassStones$Road;" ∈ wsX11_isImage := by decide +kernel
set_option maxRecDepth 20000 in
theorem iX12_anew_X12 : ∀ w ∈ wsX120, w ∈ wsX12_anew := by decide +kernel
set_option maxRecDepth 20000 in
theorem mX12_anew_f7 : Cond.fieldLink RX12 7 "PassStonesModel" "now" "[I" ∈ wsX12_anew := by decide +kernel
set_option maxRecDepth 20000 in
theorem iX12_copy_X12 : ∀ w ∈ wsX120, w ∈ wsX12_copy := by decide +kernel
set_option maxRecDepth 20000 in
theorem mX12_copy_f7 : Cond.fieldLink RX12 7 "PassStonesModel" "now" "[I" ∈ wsX12_copy := by decide +kernel
set_option maxRecDepth 20000 in
theorem iX12_bad_X12 : ∀ w ∈ wsX120, w ∈ wsX12_bad := by decide +kernel
set_option maxRecDepth 20000 in
theorem mX12_bad_f17 : Cond.fieldLink RX12 17 "PassStonesModel" "refused" "[I" ∈ wsX12_bad := by decide +kernel
set_option maxRecDepth 20000 in
theorem iX12_no_X12 : ∀ w ∈ wsX120, w ∈ wsX12_no := by decide +kernel
set_option maxRecDepth 20000 in
theorem mX12_no_f17 : Cond.fieldLink RX12 17 "PassStonesModel" "refused" "[I" ∈ wsX12_no := by decide +kernel
set_option maxRecDepth 20000 in
theorem iX12_full_X12 : ∀ w ∈ wsX120, w ∈ wsX12_full := by decide +kernel
set_option maxRecDepth 20000 in
theorem mX12_full_f17 : Cond.fieldLink RX12 17 "PassStonesModel" "refused" "[I" ∈ wsX12_full := by decide +kernel
set_option maxRecDepth 20000 in
theorem kX12_full : yX12_full.cls ≠ "java/lang/invoke/MethodHandle" ∧ yX12_full.cls ≠ "java/lang/invoke/VarHandle" ∧ (parseMethodDescriptor yX12_full.desc).map (fun d => d.parameters.length) = some 0 := by decide +kernel
set_option maxRecDepth 20000 in
theorem kX12_bad : yX12_bad.cls ≠ "java/lang/invoke/MethodHandle" ∧ yX12_bad.cls ≠ "java/lang/invoke/VarHandle" ∧ (parseMethodDescriptor yX12_bad.desc).map (fun d => d.parameters.length) = some 0 := by decide +kernel
set_option maxRecDepth 20000 in
theorem iX12_ofPasser_X12 : ∀ w ∈ wsX120, w ∈ wsX12_ofPasser := by decide +kernel
set_option maxRecDepth 20000 in
theorem mX12_ofPasser_f7 : Cond.fieldLink RX12 7 "PassStonesModel" "now" "[I" ∈ wsX12_ofPasser := by decide +kernel
set_option maxRecDepth 20000 in
theorem iX12_isPasser_X12 : ∀ w ∈ wsX120, w ∈ wsX12_isPasser := by decide +kernel
set_option maxRecDepth 20000 in
theorem mX12_isPasser_f7 : Cond.fieldLink RX12 7 "PassStonesModel" "now" "[I" ∈ wsX12_isPasser := by decide +kernel
set_option maxRecDepth 20000 in
theorem kX12_in : yX12_in.cls ≠ "java/lang/invoke/MethodHandle" ∧ yX12_in.cls ≠ "java/lang/invoke/VarHandle" ∧ (parseMethodDescriptor yX12_in.desc).map (fun d => d.parameters.length) = some 3 := by decide +kernel
set_option maxRecDepth 20000 in
theorem iX12_setWall_X12 : ∀ w ∈ wsX120, w ∈ wsX12_setWall := by decide +kernel
set_option maxRecDepth 20000 in
theorem mX12_setWall_f7 : Cond.fieldLink RX12 7 "PassStonesModel" "now" "[I" ∈ wsX12_setWall := by decide +kernel
set_option maxRecDepth 20000 in
theorem iX12_setCoach_X12 : ∀ w ∈ wsX120, w ∈ wsX12_setCoach := by decide +kernel
set_option maxRecDepth 20000 in
theorem mX12_setCoach_f7 : Cond.fieldLink RX12 7 "PassStonesModel" "now" "[I" ∈ wsX12_setCoach := by decide +kernel
set_option maxRecDepth 20000 in
theorem iX12_addPasser_X12 : ∀ w ∈ wsX120, w ∈ wsX12_addPasser := by decide +kernel
set_option maxRecDepth 20000 in
theorem mX12_addPasser_f7 : Cond.fieldLink RX12 7 "PassStonesModel" "now" "[I" ∈ wsX12_addPasser := by decide +kernel
set_option maxRecDepth 20000 in
theorem kX12_ofPasser : yX12_ofPasser.cls ≠ "java/lang/invoke/MethodHandle" ∧ yX12_ofPasser.cls ≠ "java/lang/invoke/VarHandle" ∧ (parseMethodDescriptor yX12_ofPasser.desc).map (fun d => d.parameters.length) = some 2 := by decide +kernel
set_option maxRecDepth 20000 in
theorem iX12_addBeast_X12 : ∀ w ∈ wsX120, w ∈ wsX12_addBeast := by decide +kernel
set_option maxRecDepth 20000 in
theorem mX12_addBeast_f7 : Cond.fieldLink RX12 7 "PassStonesModel" "now" "[I" ∈ wsX12_addBeast := by decide +kernel
set_option maxRecDepth 20000 in
theorem iX12_addCheck_X12 : ∀ w ∈ wsX120, w ∈ wsX12_addCheck := by decide +kernel
set_option maxRecDepth 20000 in
theorem mX12_addCheck_f7 : Cond.fieldLink RX12 7 "PassStonesModel" "now" "[I" ∈ wsX12_addCheck := by decide +kernel
set_option maxRecDepth 20000 in
theorem iX12_addLook_X12 : ∀ w ∈ wsX120, w ∈ wsX12_addLook := by decide +kernel
set_option maxRecDepth 20000 in
theorem mX12_addLook_f7 : Cond.fieldLink RX12 7 "PassStonesModel" "now" "[I" ∈ wsX12_addLook := by decide +kernel
set_option maxRecDepth 20000 in
theorem kX12_setWall : yX12_setWall.cls ≠ "java/lang/invoke/MethodHandle" ∧ yX12_setWall.cls ≠ "java/lang/invoke/VarHandle" ∧ (parseMethodDescriptor yX12_setWall.desc).map (fun d => d.parameters.length) = some 1 := by decide +kernel
set_option maxRecDepth 20000 in
theorem kX12_told : yX12_told.cls ≠ "java/lang/invoke/MethodHandle" ∧ yX12_told.cls ≠ "java/lang/invoke/VarHandle" ∧ (parseMethodDescriptor yX12_told.desc).map (fun d => d.parameters.length) = some 1 := by decide +kernel
set_option maxRecDepth 20000 in
theorem kX12_setCoach : yX12_setCoach.cls ≠ "java/lang/invoke/MethodHandle" ∧ yX12_setCoach.cls ≠ "java/lang/invoke/VarHandle" ∧ (parseMethodDescriptor yX12_setCoach.desc).map (fun d => d.parameters.length) = some 1 := by decide +kernel
set_option maxRecDepth 20000 in
theorem kX12_addPasser : yX12_addPasser.cls ≠ "java/lang/invoke/MethodHandle" ∧ yX12_addPasser.cls ≠ "java/lang/invoke/VarHandle" ∧ (parseMethodDescriptor yX12_addPasser.desc).map (fun d => d.parameters.length) = some 4 := by decide +kernel
set_option maxRecDepth 20000 in
theorem iX12_undo_X12 : ∀ w ∈ wsX120, w ∈ wsX12_undo := by decide +kernel
set_option maxRecDepth 20000 in
theorem mX12_undo_f7 : Cond.fieldLink RX12 7 "PassStonesModel" "now" "[I" ∈ wsX12_undo := by decide +kernel
set_option maxRecDepth 20000 in
theorem kX12_no : yX12_no.cls ≠ "java/lang/invoke/MethodHandle" ∧ yX12_no.cls ≠ "java/lang/invoke/VarHandle" ∧ (parseMethodDescriptor yX12_no.desc).map (fun d => d.parameters.length) = some 0 := by decide +kernel
set_option maxRecDepth 20000 in
theorem kX12_addBeast : yX12_addBeast.cls ≠ "java/lang/invoke/MethodHandle" ∧ yX12_addBeast.cls ≠ "java/lang/invoke/VarHandle" ∧ (parseMethodDescriptor yX12_addBeast.desc).map (fun d => d.parameters.length) = some 2 := by decide +kernel
set_option maxRecDepth 20000 in
theorem kX12_isPasser : yX12_isPasser.cls ≠ "java/lang/invoke/MethodHandle" ∧ yX12_isPasser.cls ≠ "java/lang/invoke/VarHandle" ∧ (parseMethodDescriptor yX12_isPasser.desc).map (fun d => d.parameters.length) = some 1 := by decide +kernel
set_option maxRecDepth 20000 in
theorem iX12_odds_X12 : ∀ w ∈ wsX120, w ∈ wsX12_odds := by decide +kernel
set_option maxRecDepth 20000 in
theorem mX12_odds_f7 : Cond.fieldLink RX12 7 "PassStonesModel" "now" "[I" ∈ wsX12_odds := by decide +kernel
set_option maxRecDepth 20000 in
theorem iX12_type_X12 : ∀ w ∈ wsX120, w ∈ wsX12_type := by decide +kernel
set_option maxRecDepth 20000 in
theorem mX12_type_f95 : Cond.fieldLink RX12 95 "PassStonesModel" "typed" "I" ∈ wsX12_type := by decide +kernel
set_option maxRecDepth 20000 in
theorem mX12_type_f20 : Cond.fieldLink RX12 20 "PassStonesModel" "text" "[B" ∈ wsX12_type := by decide +kernel
set_option maxRecDepth 20000 in
theorem mX12_type_k99 : Cond.constantLong RX12 99 (255 : Int64) ∈ wsX12_type := by decide +kernel
set_option maxRecDepth 20000 in
theorem iX12_clear_X12 : ∀ w ∈ wsX120, w ∈ wsX12_clear := by decide +kernel
set_option maxRecDepth 20000 in
theorem mX12_clear_f95 : Cond.fieldLink RX12 95 "PassStonesModel" "typed" "I" ∈ wsX12_clear := by decide +kernel
set_option maxRecDepth 20000 in
theorem iX12_here_X12 : ∀ w ∈ wsX120, w ∈ wsX12_here := by decide +kernel
set_option maxRecDepth 20000 in
theorem mX12_here_f101 : Cond.fieldLink RX12 101 "PassStonesModel" "at" "I" ∈ wsX12_here := by decide +kernel
set_option maxRecDepth 20000 in
theorem mX12_here_f95 : Cond.fieldLink RX12 95 "PassStonesModel" "typed" "I" ∈ wsX12_here := by decide +kernel
set_option maxRecDepth 20000 in
theorem mX12_here_f20 : Cond.fieldLink RX12 20 "PassStonesModel" "text" "[B" ∈ wsX12_here := by decide +kernel
set_option maxRecDepth 20000 in
theorem kX12_here : yX12_here.cls ≠ "java/lang/invoke/MethodHandle" ∧ yX12_here.cls ≠ "java/lang/invoke/VarHandle" ∧ (parseMethodDescriptor yX12_here.desc).map (fun d => d.parameters.length) = some 0 := by decide +kernel
set_option maxRecDepth 20000 in
theorem iX12_next_X12 : ∀ w ∈ wsX120, w ∈ wsX12_next := by decide +kernel
set_option maxRecDepth 20000 in
theorem mX12_next_f101 : Cond.fieldLink RX12 101 "PassStonesModel" "at" "I" ∈ wsX12_next := by decide +kernel
set_option maxRecDepth 20000 in
theorem mX12_next_f107 : Cond.fieldLink RX12 107 "PassStonesModel" "start" "I" ∈ wsX12_next := by decide +kernel
set_option maxRecDepth 20000 in
theorem mX12_next_f110 : Cond.fieldLink RX12 110 "PassStonesModel" "value" "I" ∈ wsX12_next := by decide +kernel
set_option maxRecDepth 20000 in
theorem mX12_next_f113 : Cond.fieldLink RX12 113 "PassStonesModel" "sort" "I" ∈ wsX12_next := by decide +kernel
set_option maxRecDepth 20000 in
theorem kX12_meaning : yX12_meaning.cls ≠ "java/lang/invoke/MethodHandle" ∧ yX12_meaning.cls ≠ "java/lang/invoke/VarHandle" ∧ (parseMethodDescriptor yX12_meaning.desc).map (fun d => d.parameters.length) = some 1 := by decide +kernel
set_option maxRecDepth 20000 in
theorem iX12_due_X12 : ∀ w ∈ wsX120, w ∈ wsX12_due := by decide +kernel
set_option maxRecDepth 20000 in
theorem mX12_due_f110 : Cond.fieldLink RX12 110 "PassStonesModel" "value" "I" ∈ wsX12_due := by decide +kernel
set_option maxRecDepth 20000 in
theorem mX12_due_f119 : Cond.fieldLink RX12 119 "PassStonesModel" "fault" "I" ∈ wsX12_due := by decide +kernel
set_option maxRecDepth 20000 in
theorem mX12_due_f107 : Cond.fieldLink RX12 107 "PassStonesModel" "start" "I" ∈ wsX12_due := by decide +kernel
set_option maxRecDepth 20000 in
theorem kX12_next : yX12_next.cls ≠ "java/lang/invoke/MethodHandle" ∧ yX12_next.cls ≠ "java/lang/invoke/VarHandle" ∧ (parseMethodDescriptor yX12_next.desc).map (fun d => d.parameters.length) = some 0 := by decide +kernel
set_option maxRecDepth 20000 in
theorem iX12_number_X12 : ∀ w ∈ wsX120, w ∈ wsX12_number := by decide +kernel
set_option maxRecDepth 20000 in
theorem mX12_number_f113 : Cond.fieldLink RX12 113 "PassStonesModel" "sort" "I" ∈ wsX12_number := by decide +kernel
set_option maxRecDepth 20000 in
theorem kX12_due : yX12_due.cls ≠ "java/lang/invoke/MethodHandle" ∧ yX12_due.cls ≠ "java/lang/invoke/VarHandle" ∧ (parseMethodDescriptor yX12_due.desc).map (fun d => d.parameters.length) = some 1 := by decide +kernel
set_option maxRecDepth 20000 in
theorem iX12_readItem_X12 : ∀ w ∈ wsX120, w ∈ wsX12_readItem := by decide +kernel
set_option maxRecDepth 20000 in
theorem mX12_readItem_f113 : Cond.fieldLink RX12 113 "PassStonesModel" "sort" "I" ∈ wsX12_readItem := by decide +kernel
set_option maxRecDepth 20000 in
theorem mX12_readItem_f119 : Cond.fieldLink RX12 119 "PassStonesModel" "fault" "I" ∈ wsX12_readItem := by decide +kernel
set_option maxRecDepth 20000 in
theorem mX12_readItem_f24 : Cond.fieldLink RX12 24 "PassStonesModel" "items" "[I" ∈ wsX12_readItem := by decide +kernel
set_option maxRecDepth 20000 in
theorem mX12_readItem_f129 : Cond.fieldLink RX12 129 "PassStonesModel" "itemsMany" "I" ∈ wsX12_readItem := by decide +kernel
set_option maxRecDepth 20000 in
theorem kX12_number : yX12_number.cls ≠ "java/lang/invoke/MethodHandle" ∧ yX12_number.cls ≠ "java/lang/invoke/VarHandle" ∧ (parseMethodDescriptor yX12_number.desc).map (fun d => d.parameters.length) = some 0 := by decide +kernel
set_option maxRecDepth 20000 in
theorem iX12_tellItem_X12 : ∀ w ∈ wsX120, w ∈ wsX12_tellItem := by decide +kernel
set_option maxRecDepth 20000 in
theorem mX12_tellItem_f24 : Cond.fieldLink RX12 24 "PassStonesModel" "items" "[I" ∈ wsX12_tellItem := by decide +kernel
set_option maxRecDepth 20000 in
theorem kX12_addCheck : yX12_addCheck.cls ≠ "java/lang/invoke/MethodHandle" ∧ yX12_addCheck.cls ≠ "java/lang/invoke/VarHandle" ∧ (parseMethodDescriptor yX12_addCheck.desc).map (fun d => d.parameters.length) = some 3 := by decide +kernel
set_option maxRecDepth 20000 in
theorem kX12_addLook : yX12_addLook.cls ≠ "java/lang/invoke/MethodHandle" ∧ yX12_addLook.cls ≠ "java/lang/invoke/VarHandle" ∧ (parseMethodDescriptor yX12_addLook.desc).map (fun d => d.parameters.length) = some 2 := by decide +kernel
set_option maxRecDepth 20000 in
theorem iX12_read_X12 : ∀ w ∈ wsX120, w ∈ wsX12_read := by decide +kernel
set_option maxRecDepth 20000 in
theorem mX12_read_f101 : Cond.fieldLink RX12 101 "PassStonesModel" "at" "I" ∈ wsX12_read := by decide +kernel
set_option maxRecDepth 20000 in
theorem mX12_read_f119 : Cond.fieldLink RX12 119 "PassStonesModel" "fault" "I" ∈ wsX12_read := by decide +kernel
set_option maxRecDepth 20000 in
theorem mX12_read_f129 : Cond.fieldLink RX12 129 "PassStonesModel" "itemsMany" "I" ∈ wsX12_read := by decide +kernel
set_option maxRecDepth 20000 in
theorem mX12_read_f113 : Cond.fieldLink RX12 113 "PassStonesModel" "sort" "I" ∈ wsX12_read := by decide +kernel
set_option maxRecDepth 20000 in
theorem kX12_readItem : yX12_readItem.cls ≠ "java/lang/invoke/MethodHandle" ∧ yX12_readItem.cls ≠ "java/lang/invoke/VarHandle" ∧ (parseMethodDescriptor yX12_readItem.desc).map (fun d => d.parameters.length) = some 0 := by decide +kernel
set_option maxRecDepth 20000 in
theorem kX12_copy : yX12_copy.cls ≠ "java/lang/invoke/MethodHandle" ∧ yX12_copy.cls ≠ "java/lang/invoke/VarHandle" ∧ (parseMethodDescriptor yX12_copy.desc).map (fun d => d.parameters.length) = some 2 := by decide +kernel
set_option maxRecDepth 20000 in
theorem kX12_anew : yX12_anew.cls ≠ "java/lang/invoke/MethodHandle" ∧ yX12_anew.cls ≠ "java/lang/invoke/VarHandle" ∧ (parseMethodDescriptor yX12_anew.desc).map (fun d => d.parameters.length) = some 0 := by decide +kernel
set_option maxRecDepth 20000 in
theorem kX12_tellItem : yX12_tellItem.cls ≠ "java/lang/invoke/MethodHandle" ∧ yX12_tellItem.cls ≠ "java/lang/invoke/VarHandle" ∧ (parseMethodDescriptor yX12_tellItem.desc).map (fun d => d.parameters.length) = some 1 := by decide +kernel
set_option maxRecDepth 20000 in
theorem kX12_takeOne : yX12_takeOne.cls ≠ "java/lang/invoke/MethodHandle" ∧ yX12_takeOne.cls ≠ "java/lang/invoke/VarHandle" ∧ (parseMethodDescriptor yX12_takeOne.desc).map (fun d => d.parameters.length) = some 1 := by decide +kernel
set_option maxRecDepth 20000 in
theorem kX12_layOne : yX12_layOne.cls ≠ "java/lang/invoke/MethodHandle" ∧ yX12_layOne.cls ≠ "java/lang/invoke/VarHandle" ∧ (parseMethodDescriptor yX12_layOne.desc).map (fun d => d.parameters.length) = some 1 := by decide +kernel
set_option maxRecDepth 20000 in
theorem iX12_heightIn_X12 : ∀ w ∈ wsX120, w ∈ wsX12_heightIn := by decide +kernel
set_option maxRecDepth 20000 in
theorem mX12_heightIn_f7 : Cond.fieldLink RX12 7 "PassStonesModel" "now" "[I" ∈ wsX12_heightIn := by decide +kernel
set_option maxRecDepth 20000 in
theorem mX12_heightIn_f27 : Cond.fieldLink RX12 27 "PassStonesModel" "did" "[I" ∈ wsX12_heightIn := by decide +kernel
set_option maxRecDepth 20000 in
theorem kX12_actOf : yX12_actOf.cls ≠ "java/lang/invoke/MethodHandle" ∧ yX12_actOf.cls ≠ "java/lang/invoke/VarHandle" ∧ (parseMethodDescriptor yX12_actOf.desc).map (fun d => d.parameters.length) = some 3 := by decide +kernel
set_option maxRecDepth 20000 in
theorem kX12_heightIn : yX12_heightIn.cls ≠ "java/lang/invoke/MethodHandle" ∧ yX12_heightIn.cls ≠ "java/lang/invoke/VarHandle" ∧ (parseMethodDescriptor yX12_heightIn.desc).map (fun d => d.parameters.length) = some 1 := by decide +kernel
set_option maxRecDepth 20000 in
theorem iX12_does_X12 : ∀ w ∈ wsX120, w ∈ wsX12_does := by decide +kernel
set_option maxRecDepth 20000 in
theorem mX12_does_f27 : Cond.fieldLink RX12 27 "PassStonesModel" "did" "[I" ∈ wsX12_does := by decide +kernel
set_option maxRecDepth 20000 in
theorem iX12_over_X12 : ∀ w ∈ wsX120, w ∈ wsX12_over := by decide +kernel
set_option maxRecDepth 20000 in
theorem mX12_over_f7 : Cond.fieldLink RX12 7 "PassStonesModel" "now" "[I" ∈ wsX12_over := by decide +kernel
set_option maxRecDepth 20000 in
theorem iX12_through_X12 : ∀ w ∈ wsX120, w ∈ wsX12_through := by decide +kernel
set_option maxRecDepth 20000 in
theorem mX12_through_f7 : Cond.fieldLink RX12 7 "PassStonesModel" "now" "[I" ∈ wsX12_through := by decide +kernel
set_option maxRecDepth 20000 in
theorem mX12_through_f27 : Cond.fieldLink RX12 27 "PassStonesModel" "did" "[I" ∈ wsX12_through := by decide +kernel
set_option maxRecDepth 20000 in
theorem iX12_behind_X12 : ∀ w ∈ wsX120, w ∈ wsX12_behind := by decide +kernel
set_option maxRecDepth 20000 in
theorem mX12_behind_f7 : Cond.fieldLink RX12 7 "PassStonesModel" "now" "[I" ∈ wsX12_behind := by decide +kernel
set_option maxRecDepth 20000 in
theorem iX12_may_X12 : ∀ w ∈ wsX120, w ∈ wsX12_may := by decide +kernel
set_option maxRecDepth 20000 in
theorem mX12_may_f7 : Cond.fieldLink RX12 7 "PassStonesModel" "now" "[I" ∈ wsX12_may := by decide +kernel
set_option maxRecDepth 20000 in
theorem iX12_heightBy_X12 : ∀ w ∈ wsX120, w ∈ wsX12_heightBy := by decide +kernel
set_option maxRecDepth 20000 in
theorem mX12_heightBy_f7 : Cond.fieldLink RX12 7 "PassStonesModel" "now" "[I" ∈ wsX12_heightBy := by decide +kernel
set_option maxRecDepth 20000 in
theorem kX12_heightBy : yX12_heightBy.cls ≠ "java/lang/invoke/MethodHandle" ∧ yX12_heightBy.cls ≠ "java/lang/invoke/VarHandle" ∧ (parseMethodDescriptor yX12_heightBy.desc).map (fun d => d.parameters.length) = some 3 := by decide +kernel
set_option maxRecDepth 20000 in
theorem kX12_apart : yX12_apart.cls ≠ "java/lang/invoke/MethodHandle" ∧ yX12_apart.cls ≠ "java/lang/invoke/VarHandle" ∧ (parseMethodDescriptor yX12_apart.desc).map (fun d => d.parameters.length) = some 2 := by decide +kernel
set_option maxRecDepth 20000 in
theorem iX12_goBy_X12 : ∀ w ∈ wsX120, w ∈ wsX12_goBy := by decide +kernel
set_option maxRecDepth 20000 in
theorem mX12_goBy_f7 : Cond.fieldLink RX12 7 "PassStonesModel" "now" "[I" ∈ wsX12_goBy := by decide +kernel
set_option maxRecDepth 20000 in
theorem mX12_goBy_f170 : Cond.fieldLink RX12 170 "PassStonesModel" "goneHeight" "I" ∈ wsX12_goBy := by decide +kernel
set_option maxRecDepth 20000 in
theorem mX12_goBy_f173 : Cond.fieldLink RX12 173 "PassStonesModel" "goneDid" "I" ∈ wsX12_goBy := by decide +kernel
set_option maxRecDepth 20000 in
theorem iX12_costOf_X12 : ∀ w ∈ wsX120, w ∈ wsX12_costOf := by decide +kernel
set_option maxRecDepth 20000 in
theorem mX12_costOf_f7 : Cond.fieldLink RX12 7 "PassStonesModel" "now" "[I" ∈ wsX12_costOf := by decide +kernel
set_option maxRecDepth 20000 in
theorem kX12_goBy : yX12_goBy.cls ≠ "java/lang/invoke/MethodHandle" ∧ yX12_goBy.cls ≠ "java/lang/invoke/VarHandle" ∧ (parseMethodDescriptor yX12_goBy.desc).map (fun d => d.parameters.length) = some 3 := by decide +kernel
set_option maxRecDepth 20000 in
theorem mX12_costOf_f30 : Cond.fieldLink RX12 30 "PassStonesModel" "fewest" "[I" ∈ wsX12_costOf := by decide +kernel
set_option maxRecDepth 20000 in
theorem mX12_costOf_f170 : Cond.fieldLink RX12 170 "PassStonesModel" "goneHeight" "I" ∈ wsX12_costOf := by decide +kernel
set_option maxRecDepth 20000 in
theorem mX12_costOf_f173 : Cond.fieldLink RX12 173 "PassStonesModel" "goneDid" "I" ∈ wsX12_costOf := by decide +kernel
set_option maxRecDepth 20000 in
theorem iX12_bestOf_X12 : ∀ w ∈ wsX120, w ∈ wsX12_bestOf := by decide +kernel
set_option maxRecDepth 20000 in
theorem mX12_bestOf_f7 : Cond.fieldLink RX12 7 "PassStonesModel" "now" "[I" ∈ wsX12_bestOf := by decide +kernel
set_option maxRecDepth 20000 in
theorem kX12_costOf : yX12_costOf.cls ≠ "java/lang/invoke/MethodHandle" ∧ yX12_costOf.cls ≠ "java/lang/invoke/VarHandle" ∧ (parseMethodDescriptor yX12_costOf.desc).map (fun d => d.parameters.length) = some 4 := by decide +kernel
set_option maxRecDepth 20000 in
theorem mX12_bestOf_f30 : Cond.fieldLink RX12 30 "PassStonesModel" "fewest" "[I" ∈ wsX12_bestOf := by decide +kernel
set_option maxRecDepth 20000 in
theorem iX12_hired_X12 : ∀ w ∈ wsX120, w ∈ wsX12_hired := by decide +kernel
set_option maxRecDepth 20000 in
theorem mX12_hired_f7 : Cond.fieldLink RX12 7 "PassStonesModel" "now" "[I" ∈ wsX12_hired := by decide +kernel
set_option maxRecDepth 20000 in
theorem kX12_bestOf : yX12_bestOf.cls ≠ "java/lang/invoke/MethodHandle" ∧ yX12_bestOf.cls ≠ "java/lang/invoke/VarHandle" ∧ (parseMethodDescriptor yX12_bestOf.desc).map (fun d => d.parameters.length) = some 3 := by decide +kernel
set_option maxRecDepth 20000 in
theorem mX12_hired_f170 : Cond.fieldLink RX12 170 "PassStonesModel" "goneHeight" "I" ∈ wsX12_hired := by decide +kernel
set_option maxRecDepth 20000 in
theorem mX12_hired_f173 : Cond.fieldLink RX12 173 "PassStonesModel" "goneDid" "I" ∈ wsX12_hired := by decide +kernel
set_option maxRecDepth 20000 in
theorem mX12_hired_f30 : Cond.fieldLink RX12 30 "PassStonesModel" "fewest" "[I" ∈ wsX12_hired := by decide +kernel
set_option maxRecDepth 20000 in
theorem iX12_findTurns_X12 : ∀ w ∈ wsX120, w ∈ wsX12_findTurns := by decide +kernel
set_option maxRecDepth 20000 in
theorem mX12_findTurns_f7 : Cond.fieldLink RX12 7 "PassStonesModel" "now" "[I" ∈ wsX12_findTurns := by decide +kernel
set_option maxRecDepth 20000 in
theorem mX12_findTurns_f36 : Cond.fieldLink RX12 36 "PassStonesModel" "ends" "[I" ∈ wsX12_findTurns := by decide +kernel
set_option maxRecDepth 20000 in
theorem mX12_findTurns_f33 : Cond.fieldLink RX12 33 "PassStonesModel" "chosen" "[I" ∈ wsX12_findTurns := by decide +kernel
set_option maxRecDepth 20000 in
theorem iX12_turns_X12 : ∀ w ∈ wsX120, w ∈ wsX12_turns := by decide +kernel
set_option maxRecDepth 20000 in
theorem mX12_turns_f7 : Cond.fieldLink RX12 7 "PassStonesModel" "now" "[I" ∈ wsX12_turns := by decide +kernel
set_option maxRecDepth 20000 in
theorem kX12_findTurns : yX12_findTurns.cls ≠ "java/lang/invoke/MethodHandle" ∧ yX12_findTurns.cls ≠ "java/lang/invoke/VarHandle" ∧ (parseMethodDescriptor yX12_findTurns.desc).map (fun d => d.parameters.length) = some 0 := by decide +kernel
set_option maxRecDepth 20000 in
theorem mX12_turns_f33 : Cond.fieldLink RX12 33 "PassStonesModel" "chosen" "[I" ∈ wsX12_turns := by decide +kernel
set_option maxRecDepth 20000 in
theorem mX12_turns_f36 : Cond.fieldLink RX12 36 "PassStonesModel" "ends" "[I" ∈ wsX12_turns := by decide +kernel
set_option maxRecDepth 20000 in
theorem iX12_treaty_X12 : ∀ w ∈ wsX120, w ∈ wsX12_treaty := by decide +kernel
set_option maxRecDepth 20000 in
theorem mX12_treaty_f7 : Cond.fieldLink RX12 7 "PassStonesModel" "now" "[I" ∈ wsX12_treaty := by decide +kernel
set_option maxRecDepth 20000 in
theorem iX12_forget_X12 : ∀ w ∈ wsX120, w ∈ wsX12_forget := by decide +kernel
set_option maxRecDepth 20000 in
theorem mX12_forget_f7 : Cond.fieldLink RX12 7 "PassStonesModel" "now" "[I" ∈ wsX12_forget := by decide +kernel
set_option maxRecDepth 20000 in
theorem iX12_fits_X12 : ∀ w ∈ wsX120, w ∈ wsX12_fits := by decide +kernel
set_option maxRecDepth 20000 in
theorem mX12_fits_f7 : Cond.fieldLink RX12 7 "PassStonesModel" "now" "[I" ∈ wsX12_fits := by decide +kernel
set_option maxRecDepth 20000 in
theorem iX12_rowsBy_X12 : ∀ w ∈ wsX120, w ∈ wsX12_rowsBy := by decide +kernel
set_option maxRecDepth 20000 in
theorem mX12_rowsBy_f39 : Cond.fieldLink RX12 39 "PassStonesModel" "rows" "[I" ∈ wsX12_rowsBy := by decide +kernel
set_option maxRecDepth 20000 in
theorem mX12_rowsBy_f7 : Cond.fieldLink RX12 7 "PassStonesModel" "now" "[I" ∈ wsX12_rowsBy := by decide +kernel
set_option maxRecDepth 20000 in
theorem kX12_fits : yX12_fits.cls ≠ "java/lang/invoke/MethodHandle" ∧ yX12_fits.cls ≠ "java/lang/invoke/VarHandle" ∧ (parseMethodDescriptor yX12_fits.desc).map (fun d => d.parameters.length) = some 2 := by decide +kernel
set_option maxRecDepth 20000 in
theorem kX12_rowsBy : yX12_rowsBy.cls ≠ "java/lang/invoke/MethodHandle" ∧ yX12_rowsBy.cls ≠ "java/lang/invoke/VarHandle" ∧ (parseMethodDescriptor yX12_rowsBy.desc).map (fun d => d.parameters.length) = some 2 := by decide +kernel
set_option maxRecDepth 20000 in
theorem iX12_goOdds_X12 : ∀ w ∈ wsX120, w ∈ wsX12_goOdds := by decide +kernel
set_option maxRecDepth 20000 in
theorem mX12_goOdds_f46 : Cond.fieldLink RX12 46 "PassStonesModel" "then" "[J" ∈ wsX12_goOdds := by decide +kernel
set_option maxRecDepth 20000 in
theorem mX12_goOdds_f42 : Cond.fieldLink RX12 42 "PassStonesModel" "ways" "[J" ∈ wsX12_goOdds := by decide +kernel
set_option maxRecDepth 20000 in
theorem iX12_begin_X12 : ∀ w ∈ wsX120, w ∈ wsX12_begin := by decide +kernel
set_option maxRecDepth 20000 in
theorem mX12_begin_f42 : Cond.fieldLink RX12 42 "PassStonesModel" "ways" "[J" ∈ wsX12_begin := by decide +kernel
set_option maxRecDepth 20000 in
theorem mX12_begin_f7 : Cond.fieldLink RX12 7 "PassStonesModel" "now" "[I" ∈ wsX12_begin := by decide +kernel
set_option maxRecDepth 20000 in
theorem iX12_waysTo_X12 : ∀ w ∈ wsX120, w ∈ wsX12_waysTo := by decide +kernel
set_option maxRecDepth 20000 in
theorem mX12_waysTo_f42 : Cond.fieldLink RX12 42 "PassStonesModel" "ways" "[J" ∈ wsX12_waysTo := by decide +kernel
set_option maxRecDepth 20000 in
theorem iX12_tell_X12 : ∀ w ∈ wsX120, w ∈ wsX12_tell := by decide +kernel
set_option maxRecDepth 20000 in
theorem mX12_tell_f196 : Cond.fieldLink RX12 196 "PassStonesModel" "above" "J" ∈ wsX12_tell := by decide +kernel
set_option maxRecDepth 20000 in
theorem mX12_tell_f52 : Cond.fieldLink RX12 52 "PassStonesModel" "below" "J" ∈ wsX12_tell := by decide +kernel
set_option maxRecDepth 20000 in
theorem kX12_begin : yX12_begin.cls ≠ "java/lang/invoke/MethodHandle" ∧ yX12_begin.cls ≠ "java/lang/invoke/VarHandle" ∧ (parseMethodDescriptor yX12_begin.desc).map (fun d => d.parameters.length) = some 0 := by decide +kernel
set_option maxRecDepth 20000 in
theorem iX12_chance_X12 : ∀ w ∈ wsX120, w ∈ wsX12_chance := by decide +kernel
set_option maxRecDepth 20000 in
theorem mX12_chance_f7 : Cond.fieldLink RX12 7 "PassStonesModel" "now" "[I" ∈ wsX12_chance := by decide +kernel
set_option maxRecDepth 20000 in
theorem kX12_goOdds : yX12_goOdds.cls ≠ "java/lang/invoke/MethodHandle" ∧ yX12_goOdds.cls ≠ "java/lang/invoke/VarHandle" ∧ (parseMethodDescriptor yX12_goOdds.desc).map (fun d => d.parameters.length) = some 1 := by decide +kernel
set_option maxRecDepth 20000 in
theorem mX12_chance_k206 : Cond.constantLong RX12 206 (10 : Int64) ∈ wsX12_chance := by decide +kernel
set_option maxRecDepth 20000 in
theorem kX12_waysTo : yX12_waysTo.cls ≠ "java/lang/invoke/MethodHandle" ∧ yX12_waysTo.cls ≠ "java/lang/invoke/VarHandle" ∧ (parseMethodDescriptor yX12_waysTo.desc).map (fun d => d.parameters.length) = some 1 := by decide +kernel
set_option maxRecDepth 20000 in
theorem kX12_tell : yX12_tell.cls ≠ "java/lang/invoke/MethodHandle" ∧ yX12_tell.cls ≠ "java/lang/invoke/VarHandle" ∧ (parseMethodDescriptor yX12_tell.desc).map (fun d => d.parameters.length) = some 2 := by decide +kernel
set_option maxRecDepth 20000 in
theorem iX12_free_X12 : ∀ w ∈ wsX120, w ∈ wsX12_free := by decide +kernel
set_option maxRecDepth 20000 in
theorem mX12_free_f7 : Cond.fieldLink RX12 7 "PassStonesModel" "now" "[I" ∈ wsX12_free := by decide +kernel
set_option maxRecDepth 20000 in
theorem mX12_free_f42 : Cond.fieldLink RX12 42 "PassStonesModel" "ways" "[J" ∈ wsX12_free := by decide +kernel
set_option maxRecDepth 20000 in
theorem mX12_free_k206 : Cond.constantLong RX12 206 (10 : Int64) ∈ wsX12_free := by decide +kernel
set_option maxRecDepth 20000 in
theorem iX12_part_X12 : ∀ w ∈ wsX120, w ∈ wsX12_part := by decide +kernel
set_option maxRecDepth 20000 in
theorem mX12_part_f52 : Cond.fieldLink RX12 52 "PassStonesModel" "below" "J" ∈ wsX12_part := by decide +kernel
set_option maxRecDepth 20000 in
theorem mX12_part_f196 : Cond.fieldLink RX12 196 "PassStonesModel" "above" "J" ∈ wsX12_part := by decide +kernel
set_option maxRecDepth 20000 in
theorem iX12_image_X12 : ∀ w ∈ wsX120, w ∈ wsX12_image := by decide +kernel
set_option maxRecDepth 20000 in
theorem mX12_image_f13 : Cond.fieldLink RX12 13 "PassStonesModel" "isKept" "[Z" ∈ wsX12_image := by decide +kernel
set_option maxRecDepth 20000 in
theorem iX12_from_X12 : ∀ w ∈ wsX120, w ∈ wsX12_from := by decide +kernel
set_option maxRecDepth 20000 in
theorem mX12_from_f13 : Cond.fieldLink RX12 13 "PassStonesModel" "isKept" "[Z" ∈ wsX12_from := by decide +kernel
set_option maxRecDepth 20000 in
theorem iX12_status_X12 : ∀ w ∈ wsX120, w ∈ wsX12_status := by decide +kernel
set_option maxRecDepth 20000 in
theorem mX12_status_f17 : Cond.fieldLink RX12 17 "PassStonesModel" "refused" "[I" ∈ wsX12_status := by decide +kernel
set_option maxRecDepth 20000 in
theorem iX12_count_X12 : ∀ w ∈ wsX120, w ∈ wsX12_count := by decide +kernel
set_option maxRecDepth 20000 in
theorem mX12_count_f7 : Cond.fieldLink RX12 7 "PassStonesModel" "now" "[I" ∈ wsX12_count := by decide +kernel
set_option maxRecDepth 20000 in
theorem mX12_count_f95 : Cond.fieldLink RX12 95 "PassStonesModel" "typed" "I" ∈ wsX12_count := by decide +kernel
set_option maxRecDepth 20000 in
theorem mX12_digest_k216 : Cond.constantLong RX12 216 (733 : Int64) ∈ wsX12_digest := by decide +kernel
set_option maxRecDepth 20000 in
theorem mX12_digest_k218 : Cond.constantLong RX12 218 (31 : Int64) ∈ wsX12_digest := by decide +kernel
set_option maxRecDepth 20000 in
theorem iX12_digest_X12 : ∀ w ∈ wsX120, w ∈ wsX12_digest := by decide +kernel
set_option maxRecDepth 20000 in
theorem mX12_digest_f7 : Cond.fieldLink RX12 7 "PassStonesModel" "now" "[I" ∈ wsX12_digest := by decide +kernel
set_option maxRecDepth 20000 in
theorem mX12_digest_f95 : Cond.fieldLink RX12 95 "PassStonesModel" "typed" "I" ∈ wsX12_digest := by decide +kernel
set_option maxRecDepth 20000 in
theorem mX12_digest_f196 : Cond.fieldLink RX12 196 "PassStonesModel" "above" "J" ∈ wsX12_digest := by decide +kernel
set_option maxRecDepth 20000 in
theorem mX12_digest_f52 : Cond.fieldLink RX12 52 "PassStonesModel" "below" "J" ∈ wsX12_digest := by decide +kernel
set_option maxRecDepth 20000 in
theorem iX6_isAtHand_X6 : ∀ w ∈ wsX60, w ∈ wsX6_isAtHand := by decide +kernel
set_option maxRecDepth 20000 in
theorem mX6_isAtHand_f28 : Cond.fieldLink RX6 28 "PassStones$RoadText" "place" "I" ∈ wsX6_isAtHand := by decide +kernel
set_option maxRecDepth 20000 in
theorem mX6_isAtHand_f31 : Cond.fieldLink RX6 31 "PassStones$RoadText" "next" "I" ∈ wsX6_isAtHand := by decide +kernel
