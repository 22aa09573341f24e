/-! ===== BEGIN words of one list among another's, by their places ===== -/
theorem goodIn_r {big : List Cond} (ws : List Cond) (ps : List Nat) (hp : ws = ps.filterMap (fun i => big[i]?)) (h : ws.all goodWord = true) : GoodIn big ws := by
  intro w hw
  have h1 := List.all_eq_true.mp h w hw
  rw [hp] at hw
  obtain ⟨i, -, hi⟩ := List.mem_filterMap.mp hw
  have hm : w ∈ big := by first | exact List.mem_of_getElem? hi | exact List.getElem?_mem hi
  exact ⟨hm, good_of_word h1⟩
theorem goodIn_app {big a b : List Cond} (ha : GoodIn big a) (hb : GoodIn big b) : GoodIn big (a ++ b) := fun w h => (List.mem_append.mp h).elim (ha w) (hb w)
theorem goodIn_ca {big a b : List Cond} {c : Cond} (ha : GoodIn big (c :: a)) (hb : GoodIn big b) : GoodIn big (c :: (a ++ b)) := fun w h => (List.mem_cons.mp h).elim (fun e => ha w (List.mem_cons.mpr (Or.inl e))) (fun h => (List.mem_append.mp h).elim (fun h => ha w (List.mem_cons.mpr (Or.inr h))) (hb w))
theorem goodIn_sub {big ws : List Cond} (hm : ∀ w ∈ ws, w ∈ big) (h : ws.all goodWord = true) : GoodIn big ws := fun w hw => ⟨hm w hw, good_of_word (List.all_eq_true.mp h w hw)⟩
/-! ===== END ===== -/

/-! ===== BEGIN printed: names, fields, word lists, decode rows ===== -/
def RX0 : String := "LosingLeague$Games"
def TX0 : u_T := fun k => match k with
  | 0 => ("LosingLeague$Games", "first", "[I", true)
  | 1 => ("LosingLeague$Games", "second", "[I", true)
  | 2 => ("LosingLeague$Games", "ending", "[I", true)
  | _ => ("LosingLeague$Games", "size", "I", false)
def tyX0 : Nat → FieldType := fun k => match k with
  | 0 => .array .int
  | 1 => .array .int
  | 2 => .array .int
  | _ => .int
abbrev wsX00 : List Cond := u_ws RX0 TX0 4
theorem nmX0 : ∀ a, a < 4 → ∀ b, b < 4 → a ≠ b → (TX0 a).2.1 ≠ (TX0 b).2.1 := by decide +kernel
theorem tyX0_ok : ∀ k, k < 4 → parseFieldDescriptor (TX0 k).2.2.1 = some (tyX0 k) := by decide +kernel
abbrev cX0_init : ByteArray := prog_2_method_1_code
def yX0_init : MethodName := ⟨RX0, "<init>", "()V"⟩
abbrev cX0_add : ByteArray := prog_2_method_2_code
def yX0_add : MethodName := ⟨RX0, "add", "(II)I"⟩
abbrev cX0_addRound : ByteArray := prog_2_method_3_code
def yX0_addRound : MethodName := ⟨RX0, "addRound", "(I)V"⟩
abbrev cX0_copyFrom : ByteArray := prog_2_method_4_code
def yX0_copyFrom : MethodName := ⟨RX0, "copyFrom", "(LLosingLeague$Games;)V"⟩
abbrev cX0_has : ByteArray := prog_2_method_5_code
def yX0_has : MethodName := ⟨RX0, "has", "(I)Z"⟩
abbrev cX0_isOpen : ByteArray := prog_2_method_6_code
def yX0_isOpen : MethodName := ⟨RX0, "isOpen", "(I)Z"⟩
abbrev cX0_isOf : ByteArray := prog_2_method_7_code
def yX0_isOf : MethodName := ⟨RX0, "isOf", "(II)Z"⟩
abbrev cX0_openOnes : ByteArray := prog_2_method_8_code
def yX0_openOnes : MethodName := ⟨RX0, "openOnes", "()I"⟩
abbrev cX0_openOf : ByteArray := prog_2_method_9_code
def yX0_openOf : MethodName := ⟨RX0, "openOf", "(I)I"⟩
abbrev cX0_winner : ByteArray := prog_2_method_10_code
def yX0_winner : MethodName := ⟨RX0, "winner", "(I)I"⟩
def RX1 : String := "LosingLeague$Reader"
def TX1 : u_T := fun k => match k with
  | 0 => ("LosingLeague$Reader", "tape", "LLosingLeague$Tape;", true)
  | 1 => ("LosingLeague$Reader", "draft", "LLosingLeague$Rules;", true)
  | 2 => ("LosingLeague$Reader", "lines", "I", false)
  | 3 => ("LosingLeague$Reader", "flaw", "I", false)
  | 4 => ("LosingLeague$Reader", "flawPlace", "I", false)
  | 5 => ("LosingLeague$Reader", "told", "[I", true)
  | _ => ("LosingLeague$Reader", "at", "I", false)
def tyX1 : Nat → FieldType := fun k => match k with
  | 0 => .object "LosingLeague$Tape"
  | 1 => .object "LosingLeague$Rules"
  | 2 => .int
  | 3 => .int
  | 4 => .int
  | 5 => .array .int
  | _ => .int
abbrev wsX10 : List Cond := u_ws RX1 TX1 7
theorem nmX1 : ∀ a, a < 7 → ∀ b, b < 7 → a ≠ b → (TX1 a).2.1 ≠ (TX1 b).2.1 := by decide +kernel
theorem tyX1_ok : ∀ k, k < 7 → parseFieldDescriptor (TX1 k).2.2.1 = some (tyX1 k) := by decide +kernel
abbrev cX1_init : ByteArray := prog_3_method_1_code
def yX1_init : MethodName := ⟨RX1, "<init>", "()V"⟩
abbrev cX1_takeAll : ByteArray := prog_3_method_2_code
def yX1_takeAll : MethodName := ⟨RX1, "takeAll", "()Z"⟩
abbrev cX1_fitsTogether : ByteArray := prog_3_method_3_code
def yX1_fitsTogether : MethodName := ⟨RX1, "fitsTogether", "()Z"⟩
abbrev cX1_fail : ByteArray := prog_3_method_4_code
def yX1_fail : MethodName := ⟨RX1, "fail", "(I)Z"⟩
abbrev cX1_takeLine : ByteArray := prog_3_method_5_code
def yX1_takeLine : MethodName := ⟨RX1, "takeLine", "()Z"⟩
abbrev cX1_takeSides : ByteArray := prog_3_method_6_code
def yX1_takeSides : MethodName := ⟨RX1, "takeSides", "()Z"⟩
abbrev cX1_takeRule : ByteArray := prog_3_method_7_code
def yX1_takeRule : MethodName := ⟨RX1, "takeRule", "()Z"⟩
abbrev cX1_takeRound : ByteArray := prog_3_method_8_code
def yX1_takeRound : MethodName := ⟨RX1, "takeRound", "()Z"⟩
abbrev cX1_takePair : ByteArray := prog_3_method_9_code
def yX1_takePair : MethodName := ⟨RX1, "takePair", "(I[III)Z"⟩
abbrev cX1_takeNumber : ByteArray := prog_3_method_10_code
def yX1_takeNumber : MethodName := ⟨RX1, "takeNumber", "(II)Z"⟩
abbrev cX1_step : ByteArray := prog_3_method_11_code
def yX1_step : MethodName := ⟨RX1, "step", "()V"⟩
abbrev cX1_isDue : ByteArray := prog_3_method_12_code
def yX1_isDue : MethodName := ⟨RX1, "isDue", "(I)Z"⟩
def RX2 : String := "LosingLeague$Rules"
def TX2 : u_T := fun k => match k with
  | 0 => ("LosingLeague$Rules", "strength", "[I", true)
  | 1 => ("LosingLeague$Rules", "placeWorth", "[I", true)
  | 2 => ("LosingLeague$Rules", "choiceWorth", "[I", true)
  | 3 => ("LosingLeague$Rules", "balls", "[I", true)
  | 4 => ("LosingLeague$Rules", "wheel", "[I", true)
  | 5 => ("LosingLeague$Rules", "sides", "I", false)
  | 6 => ("LosingLeague$Rules", "kind", "I", false)
  | _ => ("LosingLeague$Rules", "rounds", "I", false)
def tyX2 : Nat → FieldType := fun k => match k with
  | 0 => .array .int
  | 1 => .array .int
  | 2 => .array .int
  | 3 => .array .int
  | 4 => .array .int
  | 5 => .int
  | 6 => .int
  | _ => .int
abbrev wsX20 : List Cond := u_ws RX2 TX2 8
theorem nmX2 : ∀ a, a < 8 → ∀ b, b < 8 → a ≠ b → (TX2 a).2.1 ≠ (TX2 b).2.1 := by decide +kernel
theorem tyX2_ok : ∀ k, k < 8 → parseFieldDescriptor (TX2 k).2.2.1 = some (tyX2 k) := by decide +kernel
abbrev cX2_init : ByteArray := prog_4_method_1_code
def yX2_init : MethodName := ⟨RX2, "<init>", "()V"⟩
abbrev cX2_reset : ByteArray := prog_4_method_2_code
def yX2_reset : MethodName := ⟨RX2, "reset", "()V"⟩
abbrev cX2_copyFrom : ByteArray := prog_4_method_3_code
def yX2_copyFrom : MethodName := ⟨RX2, "copyFrom", "(LLosingLeague$Rules;)V"⟩
abbrev cX2_gamesOfRound : ByteArray := prog_4_method_4_code
def yX2_gamesOfRound : MethodName := ⟨RX2, "gamesOfRound", "()I"⟩
abbrev cX2_allBalls : ByteArray := prog_4_method_5_code
def yX2_allBalls : MethodName := ⟨RX2, "allBalls", "()I"⟩
abbrev cX2_allChoices : ByteArray := prog_4_method_6_code
def yX2_allChoices : MethodName := ⟨RX2, "allChoices", "()I"⟩
abbrev cX2_wheelHasTwice : ByteArray := prog_4_method_7_code
def yX2_wheelHasTwice : MethodName := ⟨RX2, "wheelHasTwice", "()Z"⟩
abbrev cX2_payUnit : ByteArray := prog_4_method_8_code
def yX2_payUnit : MethodName := ⟨RX2, "payUnit", "()I"⟩
def RX3 : String := "LosingLeague$Sheet"
def TX3 : u_T := fun k => match k with
  | 0 => ("LosingLeague$Sheet", "cells", "[I", true)
  | 1 => ("LosingLeague$Sheet", "exists", "Z", false)
  | 2 => ("LosingLeague$Sheet", "lane", "I", false)
  | _ => ("LosingLeague$Sheet", "length", "I", false)
def tyX3 : Nat → FieldType := fun k => match k with
  | 0 => .array .int
  | 1 => .boolean
  | 2 => .int
  | _ => .int
abbrev wsX30 : List Cond := u_ws RX3 TX3 4
theorem nmX3 : ∀ a, a < 4 → ∀ b, b < 4 → a ≠ b → (TX3 a).2.1 ≠ (TX3 b).2.1 := by decide +kernel
theorem tyX3_ok : ∀ k, k < 4 → parseFieldDescriptor (TX3 k).2.2.1 = some (tyX3 k) := by decide +kernel
abbrev cX3_init : ByteArray := prog_5_method_1_code
def yX3_init : MethodName := ⟨RX3, "<init>", "()V"⟩
abbrev cX3_renew : ByteArray := prog_5_method_2_code
def yX3_renew : MethodName := ⟨RX3, "renew", "(II)V"⟩
abbrev cX3_has : ByteArray := prog_5_method_3_code
def yX3_has : MethodName := ⟨RX3, "has", "(I)Z"⟩
abbrev cX3_put : ByteArray := prog_5_method_4_code
def yX3_put : MethodName := ⟨RX3, "put", "(II)V"⟩
abbrev cX3_readable : ByteArray := prog_5_method_5_code
def yX3_readable : MethodName := ⟨RX3, "readable", "(III)I"⟩
abbrev cX3_machineFault : ByteArray := prog_5_method_6_code
def yX3_machineFault : MethodName := ⟨RX3, "machineFault", "(III)I"⟩
def RX4 : String := "LosingLeague$Standing"
def TX4 : u_T := fun k => match k with
  | 0 => ("LosingLeague$Standing", "won", "[I", true)
  | 1 => ("LosingLeague$Standing", "order", "[I", true)
  | 2 => ("LosingLeague$Standing", "seat", "[I", true)
  | 3 => ("LosingLeague$Standing", "outAt", "[I", true)
  | 4 => ("LosingLeague$Standing", "merit", "[I", true)
  | 5 => ("LosingLeague$Standing", "toCome", "[I", true)
  | 6 => ("LosingLeague$Standing", "turn", "[I", true)
  | _ => ("LosingLeague$Standing", "sides", "I", false)
def tyX4 : Nat → FieldType := fun k => match k with
  | 0 => .array .int
  | 1 => .array .int
  | 2 => .array .int
  | 3 => .array .int
  | 4 => .array .int
  | 5 => .array .int
  | 6 => .array .int
  | _ => .int
abbrev wsX40 : List Cond := u_ws RX4 TX4 8
theorem nmX4 : ∀ a, a < 8 → ∀ b, b < 8 → a ≠ b → (TX4 a).2.1 ≠ (TX4 b).2.1 := by decide +kernel
theorem tyX4_ok : ∀ k, k < 8 → parseFieldDescriptor (TX4 k).2.2.1 = some (tyX4 k) := by decide +kernel
abbrev cX4_init : ByteArray := prog_6_method_1_code
def yX4_init : MethodName := ⟨RX4, "<init>", "()V"⟩
abbrev cX4_settle : ByteArray := prog_6_method_2_code
def yX4_settle : MethodName := ⟨RX4, "settle", "(LLosingLeague$Games;I)V"⟩
abbrev cX4_fromLast : ByteArray := prog_6_method_3_code
def yX4_fromLast : MethodName := ⟨RX4, "fromLast", "(I)I"⟩
abbrev cX4_ballsOf : ByteArray := prog_6_method_4_code
def yX4_ballsOf : MethodName := ⟨RX4, "ballsOf", "(LLosingLeague$Rules;I)I"⟩
abbrev cX4_findOut : ByteArray := prog_6_method_5_code
def yX4_findOut : MethodName := ⟨RX4, "findOut", "(LLosingLeague$Games;)V"⟩
abbrev cX4_countWin : ByteArray := prog_6_method_6_code
def yX4_countWin : MethodName := ⟨RX4, "countWin", "(I)I"⟩
abbrev cX4_markOut : ByteArray := prog_6_method_7_code
def yX4_markOut : MethodName := ⟨RX4, "markOut", "(II)V"⟩
abbrev cX4_arrange : ByteArray := prog_6_method_8_code
def yX4_arrange : MethodName := ⟨RX4, "arrange", "(LLosingLeague$Rules;I)V"⟩
abbrev cX4_chooseWorstFirst : ByteArray := prog_6_method_9_code
def yX4_chooseWorstFirst : MethodName := ⟨RX4, "chooseWorstFirst", "()V"⟩
abbrev cX4_turnWheel : ByteArray := prog_6_method_10_code
def yX4_turnWheel : MethodName := ⟨RX4, "turnWheel", "(LLosingLeague$Rules;)V"⟩
abbrev cX4_chooseByBall : ByteArray := prog_6_method_11_code
def yX4_chooseByBall : MethodName := ⟨RX4, "chooseByBall", "(I)V"⟩
abbrev cX4_chooseByDay : ByteArray := prog_6_method_12_code
def yX4_chooseByDay : MethodName := ⟨RX4, "chooseByDay", "()V"⟩
abbrev cX4_payAll : ByteArray := prog_6_method_13_code
def yX4_payAll : MethodName := ⟨RX4, "payAll", "(LLosingLeague$Rules;LLosingLeague$Games;[JI)V"⟩
abbrev cX4_payChoices : ByteArray := prog_6_method_14_code
def yX4_payChoices : MethodName := ⟨RX4, "payChoices", "(LLosingLeague$Rules;II[JI)V"⟩
def RX5 : String := "LosingLeague$Tape"
def TX5 : u_T := fun k => match k with
  | 0 => ("LosingLeague$Tape", "token", "[I", true)
  | 1 => ("LosingLeague$Tape", "start", "[I", true)
  | 2 => ("LosingLeague$Tape", "meaning", "[I", true)
  | 3 => ("LosingLeague$Tape", "length", "I", false)
  | 4 => ("LosingLeague$Tape", "bytes", "[B", true)
  | _ => ("LosingLeague$Tape", "next", "I", false)
def tyX5 : Nat → FieldType := fun k => match k with
  | 0 => .array .int
  | 1 => .array .int
  | 2 => .array .int
  | 3 => .int
  | 4 => .array .byte
  | _ => .int
abbrev wsX50 : List Cond := u_ws RX5 TX5 6
theorem nmX5 : ∀ a, a < 6 → ∀ b, b < 6 → a ≠ b → (TX5 a).2.1 ≠ (TX5 b).2.1 := by decide +kernel
theorem tyX5_ok : ∀ k, k < 6 → parseFieldDescriptor (TX5 k).2.2.1 = some (tyX5 k) := by decide +kernel
abbrev cX5_init : ByteArray := prog_7_method_1_code
def yX5_init : MethodName := ⟨RX5, "<init>", "()V"⟩
abbrev cX5_put : ByteArray := prog_7_method_2_code
def yX5_put : MethodName := ⟨RX5, "put", "(J)V"⟩
abbrev cX5_split : ByteArray := prog_7_method_3_code
def yX5_split : MethodName := ⟨RX5, "split", "()V"⟩
abbrev cX5_kindOfNext : ByteArray := prog_7_method_4_code
def yX5_kindOfNext : MethodName := ⟨RX5, "kindOfNext", "()I"⟩
abbrev cX5_takeNext : ByteArray := prog_7_method_5_code
def yX5_takeNext : MethodName := ⟨RX5, "takeNext", "(I)V"⟩
abbrev cX5_isLetter : ByteArray := prog_7_method_6_code
def yX5_isLetter : MethodName := ⟨RX5, "isLetter", "(B)Z"⟩
abbrev cX5_isFigure : ByteArray := prog_7_method_7_code
def yX5_isFigure : MethodName := ⟨RX5, "isFigure", "(B)Z"⟩
abbrev cX5_takeName : ByteArray := prog_7_method_8_code
def yX5_takeName : MethodName := ⟨RX5, "takeName", "(I)V"⟩
abbrev cX5_takeFigures : ByteArray := prog_7_method_9_code
def yX5_takeFigures : MethodName := ⟨RX5, "takeFigures", "(I)V"⟩
abbrev cX5_isWord : ByteArray := prog_7_method_10_code
def yX5_isWord : MethodName := ⟨RX5, "isWord", "(ILjava/lang/String;)Z"⟩
abbrev cX5_word : ByteArray := prog_7_method_11_code
def yX5_word : MethodName := ⟨RX5, "word", "(I)Ljava/lang/String;"⟩
def RX6 : String := "LosingLeague$Tree"
def TX6 : u_T := fun k => match k with
  | 0 => ("LosingLeague$Tree", "leaf", "[J", true)
  | 1 => ("LosingLeague$Tree", "column", "[J", true)
  | 2 => ("LosingLeague$Tree", "value", "[J", true)
  | 3 => ("LosingLeague$Tree", "open", "[I", true)
  | 4 => ("LosingLeague$Tree", "ofFirst", "[I", true)
  | 5 => ("LosingLeague$Tree", "ofPair", "[I", true)
  | 6 => ("LosingLeague$Tree", "trial", "LLosingLeague$Games;", true)
  | 7 => ("LosingLeague$Tree", "standing", "LLosingLeague$Standing;", true)
  | 8 => ("LosingLeague$Tree", "rules", "LLosingLeague$Rules;", true)
  | 9 => ("LosingLeague$Tree", "depth", "I", false)
  | 10 => ("LosingLeague$Tree", "pair", "I", false)
  | 11 => ("LosingLeague$Tree", "settled", "Z", false)
  | 12 => ("LosingLeague$Tree", "unwanted", "I", false)
  | _ => ("LosingLeague$Tree", "firstPaying", "I", false)
def tyX6 : Nat → FieldType := fun k => match k with
  | 0 => .array .long
  | 1 => .array .long
  | 2 => .array .long
  | 3 => .array .int
  | 4 => .array .int
  | 5 => .array .int
  | 6 => .object "LosingLeague$Games"
  | 7 => .object "LosingLeague$Standing"
  | 8 => .object "LosingLeague$Rules"
  | 9 => .int
  | 10 => .int
  | 11 => .boolean
  | 12 => .int
  | _ => .int
abbrev wsX60 : List Cond := u_ws RX6 TX6 14
theorem nmX6 : ∀ a, a < 14 → ∀ b, b < 14 → a ≠ b → (TX6 a).2.1 ≠ (TX6 b).2.1 := by decide +kernel
theorem tyX6_ok : ∀ k, k < 14 → parseFieldDescriptor (TX6 k).2.2.1 = some (tyX6 k) := by decide +kernel
abbrev cX6_init : ByteArray := prog_8_method_1_code
def yX6_init : MethodName := ⟨RX6, "<init>", "()V"⟩
abbrev cX6_begin : ByteArray := prog_8_method_2_code
def yX6_begin : MethodName := ⟨RX6, "begin", "(LLosingLeague$Rules;LLosingLeague$Games;)V"⟩
abbrev cX6_lookAt : ByteArray := prog_8_method_3_code
def yX6_lookAt : MethodName := ⟨RX6, "lookAt", "(I)V"⟩
abbrev cX6_growPays : ByteArray := prog_8_method_4_code
def yX6_growPays : MethodName := ⟨RX6, "growPays", "(LLosingLeague$Rules;LLosingLeague$Games;)V"⟩
abbrev cX6_growPlace : ByteArray := prog_8_method_5_code
def yX6_growPlace : MethodName := ⟨RX6, "growPlace", "(LLosingLeague$Rules;LLosingLeague$Games;II)V"⟩
abbrev cX6_reaches : ByteArray := prog_8_method_6_code
def yX6_reaches : MethodName := ⟨RX6, "reaches", "(LLosingLeague$Rules;LLosingLeague$Games;II)Z"⟩
abbrev cX6_winsAllOpen : ByteArray := prog_8_method_7_code
def yX6_winsAllOpen : MethodName := ⟨RX6, "winsAllOpen", "(I)Z"⟩
abbrev cX6_allChances : ByteArray := prog_8_method_8_code
def yX6_allChances : MethodName := ⟨RX6, "allChances", "()J"⟩
abbrev cX6_scale : ByteArray := prog_8_method_9_code
def yX6_scale : MethodName := ⟨RX6, "scale", "()J"⟩
abbrev cX6_mixed : ByteArray := prog_8_method_10_code
def yX6_mixed : MethodName := ⟨RX6, "mixed", "(IJJ)J"⟩
abbrev cX6_expected : ByteArray := prog_8_method_11_code
def yX6_expected : MethodName := ⟨RX6, "expected", "(I)J"⟩
abbrev cX6_expectedIf : ByteArray := prog_8_method_12_code
def yX6_expectedIf : MethodName := ⟨RX6, "expectedIf", "(IIZ)J"⟩
abbrev cX6_fold : ByteArray := prog_8_method_13_code
def yX6_fold : MethodName := ⟨RX6, "fold", "(III)J"⟩
abbrev cX6_wantsToLose : ByteArray := prog_8_method_14_code
def yX6_wantsToLose : MethodName := ⟨RX6, "wantsToLose", "(II)Z"⟩
abbrev cX6_losers : ByteArray := prog_8_method_15_code
def yX6_losers : MethodName := ⟨RX6, "losers", "(I)I"⟩
abbrev cX6_firstUnwanted : ByteArray := prog_8_method_16_code
def yX6_firstUnwanted : MethodName := ⟨RX6, "firstUnwanted", "(I)I"⟩
abbrev cX6_firstUnwantedByBoth : ByteArray := prog_8_method_17_code
def yX6_firstUnwantedByBoth : MethodName := ⟨RX6, "firstUnwantedByBoth", "()I"⟩
abbrev cX6_howManyUnwanted : ByteArray := prog_8_method_18_code
def yX6_howManyUnwanted : MethodName := ⟨RX6, "howManyUnwanted", "(I)I"⟩
abbrev cX6_join : ByteArray := prog_8_method_19_code
def yX6_join : MethodName := ⟨RX6, "join", "(II)V"⟩
abbrev cX6_countBack : ByteArray := prog_8_method_20_code
def yX6_countBack : MethodName := ⟨RX6, "countBack", "()V"⟩
abbrev cX6_losersAt : ByteArray := prog_8_method_21_code
def yX6_losersAt : MethodName := ⟨RX6, "losersAt", "(II)I"⟩
abbrev cX6_playBack : ByteArray := prog_8_method_22_code
def yX6_playBack : MethodName := ⟨RX6, "playBack", "()V"⟩
abbrev cX6_weighPairs : ByteArray := prog_8_method_23_code
def yX6_weighPairs : MethodName := ⟨RX6, "weighPairs", "(I)V"⟩
abbrev cX6_choosePair : ByteArray := prog_8_method_24_code
def yX6_choosePair : MethodName := ⟨RX6, "choosePair", "(II)V"⟩
abbrev cX6_gains : ByteArray := prog_8_method_25_code
def yX6_gains : MethodName := ⟨RX6, "gains", "(IIII)Z"⟩
def RX7 : String := "LosingLeague$Years"
def TX7 : u_T := fun k => match k with
  | 0 => ("LosingLeague$Years", "strength", "[I", true)
  | 1 => ("LosingLeague$Years", "wasLast", "[I", true)
  | 2 => ("LosingLeague$Years", "season", "LLosingLeague$Games;", true)
  | 3 => ("LosingLeague$Years", "standing", "LLosingLeague$Standing;", true)
  | 4 => ("LosingLeague$Years", "seed", "I", false)
  | 5 => ("LosingLeague$Years", "champion", "I", false)
  | 6 => ("LosingLeague$Years", "champions", "I", false)
  | 7 => ("LosingLeague$Years", "gap", "I", false)
  | 8 => ("LosingLeague$Years", "widestGap", "I", false)
  | _ => ("LosingLeague$Years", "fewest", "I", false)
def tyX7 : Nat → FieldType := fun k => match k with
  | 0 => .array .int
  | 1 => .array .int
  | 2 => .object "LosingLeague$Games"
  | 3 => .object "LosingLeague$Standing"
  | 4 => .int
  | 5 => .int
  | 6 => .int
  | 7 => .int
  | 8 => .int
  | _ => .int
abbrev wsX70 : List Cond := u_ws RX7 TX7 10
theorem nmX7 : ∀ a, a < 10 → ∀ b, b < 10 → a ≠ b → (TX7 a).2.1 ≠ (TX7 b).2.1 := by decide +kernel
theorem tyX7_ok : ∀ k, k < 10 → parseFieldDescriptor (TX7 k).2.2.1 = some (tyX7 k) := by decide +kernel
abbrev cX7_init : ByteArray := prog_9_method_1_code
def yX7_init : MethodName := ⟨RX7, "<init>", "()V"⟩
abbrev cX7_pass : ByteArray := prog_9_method_2_code
def yX7_pass : MethodName := ⟨RX7, "pass", "(LLosingLeague$Rules;II)V"⟩
abbrev cX7_draw : ByteArray := prog_9_method_3_code
def yX7_draw : MethodName := ⟨RX7, "draw", "(I)I"⟩
abbrev cX7_playSeason : ByteArray := prog_9_method_4_code
def yX7_playSeason : MethodName := ⟨RX7, "playSeason", "(I)V"⟩
abbrev cX7_noteEnds : ByteArray := prog_9_method_5_code
def yX7_noteEnds : MethodName := ⟨RX7, "noteEnds", "(I)V"⟩
abbrev cX7_shareBoys : ByteArray := prog_9_method_6_code
def yX7_shareBoys : MethodName := ⟨RX7, "shareBoys", "(LLosingLeague$Rules;)V"⟩
abbrev cX7_drawBall : ByteArray := prog_9_method_7_code
def yX7_drawBall : MethodName := ⟨RX7, "drawBall", "(LLosingLeague$Rules;)I"⟩
abbrev cX7_gapOf : ByteArray := prog_9_method_8_code
def yX7_gapOf : MethodName := ⟨RX7, "gapOf", "(I)I"⟩
def RX8 : String := "LosingLeague"
def TX8 : u_T := fun k => match k with
  | 0 => ("LosingLeague", "rules", "LLosingLeague$Rules;", true)
  | 1 => ("LosingLeague", "games", "LLosingLeague$Games;", true)
  | 2 => ("LosingLeague", "standing", "LLosingLeague$Standing;", true)
  | 3 => ("LosingLeague", "reader", "LLosingLeague$Reader;", true)
  | 4 => ("LosingLeague", "tree", "LLosingLeague$Tree;", true)
  | 5 => ("LosingLeague", "course", "LLosingLeague$Years;", true)
  | 6 => ("LosingLeague", "sheets", "[LLosingLeague$Sheet;", true)
  | 7 => ("LosingLeague", "textFault", "I", false)
  | _ => ("LosingLeague", "readFault", "I", false)
def tyX8 : Nat → FieldType := fun k => match k with
  | 0 => .object "LosingLeague$Rules"
  | 1 => .object "LosingLeague$Games"
  | 2 => .object "LosingLeague$Standing"
  | 3 => .object "LosingLeague$Reader"
  | 4 => .object "LosingLeague$Tree"
  | 5 => .object "LosingLeague$Years"
  | 6 => .array (.object "LosingLeague$Sheet")
  | 7 => .int
  | _ => .int
abbrev wsX80 : List Cond := u_ws RX8 TX8 9
theorem nmX8 : ∀ a, a < 9 → ∀ b, b < 9 → a ≠ b → (TX8 a).2.1 ≠ (TX8 b).2.1 := by decide +kernel
theorem tyX8_ok : ∀ k, k < 9 → parseFieldDescriptor (TX8 k).2.2.1 = some (tyX8 k) := by decide +kernel
abbrev cX8_init : ByteArray := prog_1_method_1_code
def yX8_init : MethodName := ⟨RX8, "<init>", "()V"⟩
abbrev cX8_feed : ByteArray := prog_1_method_2_code
def yX8_feed : MethodName := ⟨RX8, "feed", "(J)I"⟩
abbrev cX8_end : ByteArray := prog_1_method_3_code
def yX8_end : MethodName := ⟨RX8, "end", "(I)I"⟩
abbrev cX8_text : ByteArray := prog_1_method_4_code
def yX8_text : MethodName := ⟨RX8, "text", "()I"⟩
abbrev cX8_fault : ByteArray := prog_1_method_5_code
def yX8_fault : MethodName := ⟨RX8, "fault", "()I"⟩
abbrev cX8_rule : ByteArray := prog_1_method_6_code
def yX8_rule : MethodName := ⟨RX8, "rule", "(I)I"⟩
abbrev cX8_game : ByteArray := prog_1_method_7_code
def yX8_game : MethodName := ⟨RX8, "game", "(II)I"⟩
abbrev cX8_of : ByteArray := prog_1_method_8_code
def yX8_of : MethodName := ⟨RX8, "of", "(II)I"⟩
abbrev cX8_ends : ByteArray := prog_1_method_9_code
def yX8_ends : MethodName := ⟨RX8, "ends", "(II)I"⟩
abbrev cX8_table : ByteArray := prog_1_method_10_code
def yX8_table : MethodName := ⟨RX8, "table", "(II)I"⟩
abbrev cX8_may : ByteArray := prog_1_method_11_code
def yX8_may : MethodName := ⟨RX8, "may", "(II)I"⟩
abbrev cX8_out : ByteArray := prog_1_method_12_code
def yX8_out : MethodName := ⟨RX8, "out", "(I)I"⟩
abbrev cX8_chooses : ByteArray := prog_1_method_13_code
def yX8_chooses : MethodName := ⟨RX8, "chooses", "(II)I"⟩
abbrev cX8_pay : ByteArray := prog_1_method_14_code
def yX8_pay : MethodName := ⟨RX8, "pay", "(II)I"⟩
abbrev cX8_worth : ByteArray := prog_1_method_15_code
def yX8_worth : MethodName := ⟨RX8, "worth", "(II)J"⟩
abbrev cX8_worthIf : ByteArray := prog_1_method_16_code
def yX8_worthIf : MethodName := ⟨RX8, "worthIf", "(IIZI)J"⟩
abbrev cX8_wants : ByteArray := prog_1_method_17_code
def yX8_wants : MethodName := ⟨RX8, "wants", "(I)I"⟩
abbrev cX8_lose : ByteArray := prog_1_method_18_code
def yX8_lose : MethodName := ⟨RX8, "lose", "(II)I"⟩
abbrev cX8_odds : ByteArray := prog_1_method_19_code
def yX8_odds : MethodName := ⟨RX8, "odds", "(III)J"⟩
abbrev cX8_play : ByteArray := prog_1_method_20_code
def yX8_play : MethodName := ⟨RX8, "play", "(I)I"⟩
abbrev cX8_played : ByteArray := prog_1_method_21_code
def yX8_played : MethodName := ⟨RX8, "played", "(II)J"⟩
abbrev cX8_pays : ByteArray := prog_1_method_22_code
def yX8_pays : MethodName := ⟨RX8, "pays", "(I)I"⟩
abbrev cX8_years : ByteArray := prog_1_method_23_code
def yX8_years : MethodName := ⟨RX8, "years", "(III)I"⟩
abbrev cX8_thumbs : ByteArray := prog_1_method_24_code
def yX8_thumbs : MethodName := ⟨RX8, "thumbs", "(III)J"⟩
abbrev cX8_fine : ByteArray := prog_1_method_25_code
def yX8_fine : MethodName := ⟨RX8, "fine", "(II)I"⟩
abbrev cX8_sheet : ByteArray := prog_1_method_26_code
def yX8_sheet : MethodName := ⟨RX8, "sheet", "(III)I"⟩
abbrev cX8_lay : ByteArray := prog_1_method_27_code
def yX8_lay : MethodName := ⟨RX8, "lay", "(III)I"⟩
abbrev cX8_read : ByteArray := prog_1_method_28_code
def yX8_read : MethodName := ⟨RX8, "read", "(IIIII)I"⟩
abbrev cX8_torn : ByteArray := prog_1_method_29_code
def yX8_torn : MethodName := ⟨RX8, "torn", "()I"⟩
abbrev cX8_count : ByteArray := prog_1_method_30_code
def yX8_count : MethodName := ⟨RX8, "count", "(I)I"⟩
abbrev cX8_isSide : ByteArray := prog_1_method_31_code
def yX8_isSide : MethodName := ⟨RX8, "isSide", "(I)Z"⟩
abbrev cX8_isPart : ByteArray := prog_1_method_32_code
def yX8_isPart : MethodName := ⟨RX8, "isPart", "(I)Z"⟩
abbrev cX8_isSheet : ByteArray := prog_1_method_33_code
def yX8_isSheet : MethodName := ⟨RX8, "isSheet", "(I)Z"⟩
abbrev cX8_isLane : ByteArray := prog_1_method_34_code
def yX8_isLane : MethodName := ⟨RX8, "isLane", "(I)Z"⟩
abbrev cX8_takeEnds : ByteArray := prog_1_method_35_code
def yX8_takeEnds : MethodName := ⟨RX8, "takeEnds", "(LLosingLeague$Sheet;III)I"⟩
abbrev cX8_chance : ByteArray := prog_1_method_36_code
def yX8_chance : MethodName := ⟨RX8, "chance", "(II)I"⟩
abbrev cX8_rested : ByteArray := prog_1_method_37_code
def yX8_rested : MethodName := ⟨RX8, "rested", "(I)I"⟩
abbrev cX8_part : ByteArray := prog_1_method_38_code
def yX8_part : MethodName := ⟨RX8, "part", "(JJI)J"⟩
abbrev cX8_divisor : ByteArray := prog_1_method_39_code
def yX8_divisor : MethodName := ⟨RX8, "divisor", "(JJ)J"⟩
abbrev cX8_power : ByteArray := prog_1_method_40_code
def yX8_power : MethodName := ⟨RX8, "power", "(II)J"⟩
abbrev cX8_restedOrMore : ByteArray := prog_1_method_41_code
def yX8_restedOrMore : MethodName := ⟨RX8, "restedOrMore", "(II)J"⟩
def RX9 : String := "LosingLeagueModel"
def TX9 : u_T := fun k => match k with
  | 0 => ("LosingLeagueModel", "tape", "[I", true)
  | 1 => ("LosingLeagueModel", "taped", "I", false)
  | 2 => ("LosingLeagueModel", "fault", "I", false)
  | 3 => ("LosingLeagueModel", "wrong", "I", false)
  | 4 => ("LosingLeagueModel", "wrongAt", "I", false)
  | 5 => ("LosingLeagueModel", "spot", "I", false)
  | 6 => ("LosingLeagueModel", "place", "I", false)
  | 7 => ("LosingLeagueModel", "token", "I", false)
  | 8 => ("LosingLeagueModel", "value", "I", false)
  | 9 => ("LosingLeagueModel", "cuts", "[I", true)
  | 10 => ("LosingLeagueModel", "letters", "[I", true)
  | 11 => ("LosingLeagueModel", "kinds", "[I", true)
  | 12 => ("LosingLeagueModel", "holds", "[I", true)
  | 13 => ("LosingLeagueModel", "reads", "[I", true)
  | 14 => ("LosingLeagueModel", "toldOnes", "I", false)
  | 15 => ("LosingLeagueModel", "isBehind", "Z", false)
  | 16 => ("LosingLeagueModel", "readGames", "I", false)
  | 17 => ("LosingLeagueModel", "readFirst", "[I", true)
  | 18 => ("LosingLeagueModel", "readSecond", "[I", true)
  | 19 => ("LosingLeagueModel", "firsts", "[I", true)
  | 20 => ("LosingLeagueModel", "seconds", "[I", true)
  | 21 => ("LosingLeagueModel", "goes", "[I", true)
  | 22 => ("LosingLeagueModel", "many", "[I", true)
  | 23 => ("LosingLeagueModel", "hasRule", "Z", false)
  | 24 => ("LosingLeagueModel", "hasSides", "Z", false)
  | 25 => ("LosingLeagueModel", "force", "[I", true)
  | 26 => ("LosingLeagueModel", "won", "[I", true)
  | 27 => ("LosingLeagueModel", "sideAt", "[I", true)
  | 28 => ("LosingLeagueModel", "placeOf", "[I", true)
  | 29 => ("LosingLeagueModel", "chooser", "[I", true)
  | 30 => ("LosingLeagueModel", "outs", "[I", true)
  | 31 => ("LosingLeagueModel", "later", "[I", true)
  | 32 => ("LosingLeagueModel", "payOf", "[I", true)
  | 33 => ("LosingLeagueModel", "opens", "[I", true)
  | 34 => ("LosingLeagueModel", "open", "I", false)
  | 35 => ("LosingLeagueModel", "sumUp", "J", false)
  | 36 => ("LosingLeagueModel", "sumDown", "J", false)
  | 37 => ("LosingLeagueModel", "tree", "[J", true)
  | 38 => ("LosingLeagueModel", "pair", "I", false)
  | 39 => ("LosingLeagueModel", "isPair", "Z", false)
  | 40 => ("LosingLeagueModel", "leaves", "J", false)
  | 41 => ("LosingLeagueModel", "looked", "I", false)
  | 42 => ("LosingLeagueModel", "wantedMany", "I", false)
  | 43 => ("LosingLeagueModel", "wantedFirst", "I", false)
  | 44 => ("LosingLeagueModel", "seed", "I", false)
  | 45 => ("LosingLeagueModel", "lastOnes", "[I", true)
  | 46 => ("LosingLeagueModel", "firstOnes", "[I", true)
  | 47 => ("LosingLeagueModel", "widest", "I", false)
  | 48 => ("LosingLeagueModel", "lanes", "[I", true)
  | 49 => ("LosingLeagueModel", "lengths", "[I", true)
  | 50 => ("LosingLeagueModel", "cells", "[I", true)
  | _ => ("LosingLeagueModel", "torn", "I", false)
def tyX9 : Nat → FieldType := fun k => match k with
  | 0 => .array .int
  | 1 => .int
  | 2 => .int
  | 3 => .int
  | 4 => .int
  | 5 => .int
  | 6 => .int
  | 7 => .int
  | 8 => .int
  | 9 => .array .int
  | 10 => .array .int
  | 11 => .array .int
  | 12 => .array .int
  | 13 => .array .int
  | 14 => .int
  | 15 => .boolean
  | 16 => .int
  | 17 => .array .int
  | 18 => .array .int
  | 19 => .array .int
  | 20 => .array .int
  | 21 => .array .int
  | 22 => .array .int
  | 23 => .boolean
  | 24 => .boolean
  | 25 => .array .int
  | 26 => .array .int
  | 27 => .array .int
  | 28 => .array .int
  | 29 => .array .int
  | 30 => .array .int
  | 31 => .array .int
  | 32 => .array .int
  | 33 => .array .int
  | 34 => .int
  | 35 => .long
  | 36 => .long
  | 37 => .array .long
  | 38 => .int
  | 39 => .boolean
  | 40 => .long
  | 41 => .int
  | 42 => .int
  | 43 => .int
  | 44 => .int
  | 45 => .array .int
  | 46 => .array .int
  | 47 => .int
  | 48 => .array .int
  | 49 => .array .int
  | 50 => .array .int
  | _ => .int
abbrev wsX90 : List Cond := u_ws RX9 TX9 52
theorem nmX9 : ∀ a, a < 52 → ∀ b, b < 52 → a ≠ b → (TX9 a).2.1 ≠ (TX9 b).2.1 := by decide +kernel
theorem tyX9_ok : ∀ k, k < 52 → parseFieldDescriptor (TX9 k).2.2.1 = some (tyX9 k) := by decide +kernel
abbrev cX9_init : ByteArray := prog_11_method_1_code
def yX9_init : MethodName := ⟨RX9, "<init>", "()V"⟩
abbrev cX9_in : ByteArray := prog_11_method_3_code
def yX9_in : MethodName := ⟨RX9, "in", "(JJJ)Z"⟩
abbrev cX9_feed : ByteArray := prog_11_method_4_code
def yX9_feed : MethodName := ⟨RX9, "feed", "(J)I"⟩
abbrev cX9_end : ByteArray := prog_11_method_5_code
def yX9_end : MethodName := ⟨RX9, "end", "(I)I"⟩
abbrev cX9_byteAt : ByteArray := prog_11_method_6_code
def yX9_byteAt : MethodName := ⟨RX9, "byteAt", "(I)I"⟩
abbrev cX9_fails : ByteArray := prog_11_method_7_code
def yX9_fails : MethodName := ⟨RX9, "fails", "(I)V"⟩
abbrev cX9_nameAt : ByteArray := prog_11_method_8_code
def yX9_nameAt : MethodName := ⟨RX9, "nameAt", "(II)I"⟩
abbrev cX9_next : ByteArray := prog_11_method_9_code
def yX9_next : MethodName := ⟨RX9, "next", "()V"⟩
abbrev cX9_number : ByteArray := prog_11_method_10_code
def yX9_number : MethodName := ⟨RX9, "number", "(II)I"⟩
abbrev cX9_readPair : ByteArray := prog_11_method_11_code
def yX9_readPair : MethodName := ⟨RX9, "readPair", "(I)V"⟩
abbrev cX9_readRound : ByteArray := prog_11_method_12_code
def yX9_readRound : MethodName := ⟨RX9, "readRound", "()V"⟩
abbrev cX9_readLine : ByteArray := prog_11_method_13_code
def yX9_readLine : MethodName := ⟨RX9, "readLine", "()V"⟩
abbrev cX9_isWhole : ByteArray := prog_11_method_14_code
def yX9_isWhole : MethodName := ⟨RX9, "isWhole", "()Z"⟩
abbrev cX9_text : ByteArray := prog_11_method_15_code
def yX9_text : MethodName := ⟨RX9, "text", "()I"⟩
abbrev cX9_fault : ByteArray := prog_11_method_16_code
def yX9_fault : MethodName := ⟨RX9, "fault", "()I"⟩
abbrev cX9_sides : ByteArray := prog_11_method_17_code
def yX9_sides : MethodName := ⟨RX9, "sides", "()I"⟩
abbrev cX9_isSide : ByteArray := prog_11_method_18_code
def yX9_isSide : MethodName := ⟨RX9, "isSide", "(I)Z"⟩
abbrev cX9_rule : ByteArray := prog_11_method_19_code
def yX9_rule : MethodName := ⟨RX9, "rule", "(I)I"⟩
abbrev cX9_game : ByteArray := prog_11_method_20_code
def yX9_game : MethodName := ⟨RX9, "game", "(II)I"⟩
abbrev cX9_half : ByteArray := prog_11_method_21_code
def yX9_half : MethodName := ⟨RX9, "half", "(I)I"⟩
abbrev cX9_oddsOf : ByteArray := prog_11_method_22_code
def yX9_oddsOf : MethodName := ⟨RX9, "oddsOf", "(II)I"⟩
abbrev cX9_oddsBy : ByteArray := prog_11_method_23_code
def yX9_oddsBy : MethodName := ⟨RX9, "oddsBy", "(II)I"⟩
abbrev cX9_isGame : ByteArray := prog_11_method_24_code
def yX9_isGame : MethodName := ⟨RX9, "isGame", "(I)Z"⟩
abbrev cX9_of : ByteArray := prog_11_method_25_code
def yX9_of : MethodName := ⟨RX9, "of", "(II)I"⟩
abbrev cX9_ends : ByteArray := prog_11_method_26_code
def yX9_ends : MethodName := ⟨RX9, "ends", "(II)I"⟩
abbrev cX9_from : ByteArray := prog_11_method_27_code
def yX9_from : MethodName := ⟨RX9, "from", "(I)I"⟩
abbrev cX9_winner : ByteArray := prog_11_method_28_code
def yX9_winner : MethodName := ⟨RX9, "winner", "(I)I"⟩
abbrev cX9_layTable : ByteArray := prog_11_method_29_code
def yX9_layTable : MethodName := ⟨RX9, "layTable", "(I)V"⟩
abbrev cX9_openMany : ByteArray := prog_11_method_30_code
def yX9_openMany : MethodName := ⟨RX9, "openMany", "()I"⟩
abbrev cX9_table : ByteArray := prog_11_method_31_code
def yX9_table : MethodName := ⟨RX9, "table", "(II)I"⟩
abbrev cX9_wonUpTo : ByteArray := prog_11_method_32_code
def yX9_wonUpTo : MethodName := ⟨RX9, "wonUpTo", "(III)I"⟩
abbrev cX9_toCome : ByteArray := prog_11_method_33_code
def yX9_toCome : MethodName := ⟨RX9, "toCome", "(III)I"⟩
abbrev cX9_outOf : ByteArray := prog_11_method_34_code
def yX9_outOf : MethodName := ⟨RX9, "outOf", "(II)I"⟩
abbrev cX9_out : ByteArray := prog_11_method_35_code
def yX9_out : MethodName := ⟨RX9, "out", "(I)I"⟩
abbrev cX9_isAhead : ByteArray := prog_11_method_36_code
def yX9_isAhead : MethodName := ⟨RX9, "isAhead", "(II)Z"⟩
abbrev cX9_layChoices : ByteArray := prog_11_method_37_code
def yX9_layChoices : MethodName := ⟨RX9, "layChoices", "(II)V"⟩
abbrev cX9_balls : ByteArray := prog_11_method_38_code
def yX9_balls : MethodName := ⟨RX9, "balls", "()I"⟩
abbrev cX9_unit : ByteArray := prog_11_method_39_code
def yX9_unit : MethodName := ⟨RX9, "unit", "()I"⟩
abbrev cX9_layPays : ByteArray := prog_11_method_40_code
def yX9_layPays : MethodName := ⟨RX9, "layPays", "()V"⟩
abbrev cX9_chooses : ByteArray := prog_11_method_41_code
def yX9_chooses : MethodName := ⟨RX9, "chooses", "(II)I"⟩
abbrev cX9_lowest : ByteArray := prog_11_method_42_code
def yX9_lowest : MethodName := ⟨RX9, "lowest", "(JJI)J"⟩
abbrev cX9_pay : ByteArray := prog_11_method_43_code
def yX9_pay : MethodName := ⟨RX9, "pay", "(II)I"⟩
abbrev cX9_layOpens : ByteArray := prog_11_method_44_code
def yX9_layOpens : MethodName := ⟨RX9, "layOpens", "()V"⟩
abbrev cX9_setEnds : ByteArray := prog_11_method_45_code
def yX9_setEnds : MethodName := ⟨RX9, "setEnds", "(I)V"⟩
abbrev cX9_setOpen : ByteArray := prog_11_method_46_code
def yX9_setOpen : MethodName := ⟨RX9, "setOpen", "()V"⟩
abbrev cX9_may : ByteArray := prog_11_method_47_code
def yX9_may : MethodName := ⟨RX9, "may", "(II)I"⟩
abbrev cX9_likely : ByteArray := prog_11_method_48_code
def yX9_likely : MethodName := ⟨RX9, "likely", "(II)J"⟩
abbrev cX9_layWorth : ByteArray := prog_11_method_49_code
def yX9_layWorth : MethodName := ⟨RX9, "layWorth", "(III)V"⟩
abbrev cX9_worth : ByteArray := prog_11_method_50_code
def yX9_worth : MethodName := ⟨RX9, "worth", "(II)J"⟩
abbrev cX9_isOpen : ByteArray := prog_11_method_51_code
def yX9_isOpen : MethodName := ⟨RX9, "isOpen", "(I)Z"⟩
abbrev cX9_worthIf : ByteArray := prog_11_method_52_code
def yX9_worthIf : MethodName := ⟨RX9, "worthIf", "(IIZI)J"⟩
abbrev cX9_doesWant : ByteArray := prog_11_method_53_code
def yX9_doesWant : MethodName := ⟨RX9, "doesWant", "(II)Z"⟩
abbrev cX9_wanted : ByteArray := prog_11_method_54_code
def yX9_wanted : MethodName := ⟨RX9, "wanted", "(I)I"⟩
abbrev cX9_wants : ByteArray := prog_11_method_55_code
def yX9_wants : MethodName := ⟨RX9, "wants", "(I)I"⟩
abbrev cX9_lose : ByteArray := prog_11_method_56_code
def yX9_lose : MethodName := ⟨RX9, "lose", "(II)I"⟩
abbrev cX9_odds : ByteArray := prog_11_method_57_code
def yX9_odds : MethodName := ⟨RX9, "odds", "(III)J"⟩
abbrev cX9_layLeaves : ByteArray := prog_11_method_58_code
def yX9_layLeaves : MethodName := ⟨RX9, "layLeaves", "()V"⟩
abbrev cX9_mean : ByteArray := prog_11_method_59_code
def yX9_mean : MethodName := ⟨RX9, "mean", "(III)J"⟩
abbrev cX9_findPair : ByteArray := prog_11_method_60_code
def yX9_findPair : MethodName := ⟨RX9, "findPair", "(II)V"⟩
abbrev cX9_layBack : ByteArray := prog_11_method_61_code
def yX9_layBack : MethodName := ⟨RX9, "layBack", "(Z)V"⟩
abbrev cX9_lookAt : ByteArray := prog_11_method_62_code
def yX9_lookAt : MethodName := ⟨RX9, "lookAt", "(II)V"⟩
abbrev cX9_play : ByteArray := prog_11_method_63_code
def yX9_play : MethodName := ⟨RX9, "play", "(I)I"⟩
abbrev cX9_played : ByteArray := prog_11_method_64_code
def yX9_played : MethodName := ⟨RX9, "played", "(II)J"⟩
abbrev cX9_pays : ByteArray := prog_11_method_65_code
def yX9_pays : MethodName := ⟨RX9, "pays", "(I)I"⟩
abbrev cX9_drawOf : ByteArray := prog_11_method_66_code
def yX9_drawOf : MethodName := ⟨RX9, "drawOf", "(I)I"⟩
abbrev cX9_apart : ByteArray := prog_11_method_67_code
def yX9_apart : MethodName := ⟨RX9, "apart", "()I"⟩
abbrev cX9_oneYear : ByteArray := prog_11_method_68_code
def yX9_oneYear : MethodName := ⟨RX9, "oneYear", "(I)V"⟩
abbrev cX9_years : ByteArray := prog_11_method_69_code
def yX9_years : MethodName := ⟨RX9, "years", "(III)I"⟩
abbrev cX9_thumbUp : ByteArray := prog_11_method_70_code
def yX9_thumbUp : MethodName := ⟨RX9, "thumbUp", "(II)J"⟩
abbrev cX9_sixes : ByteArray := prog_11_method_71_code
def yX9_sixes : MethodName := ⟨RX9, "sixes", "(I)J"⟩
abbrev cX9_thumbs : ByteArray := prog_11_method_72_code
def yX9_thumbs : MethodName := ⟨RX9, "thumbs", "(III)J"⟩
abbrev cX9_fine : ByteArray := prog_11_method_73_code
def yX9_fine : MethodName := ⟨RX9, "fine", "(II)I"⟩
abbrev cX9_sheet : ByteArray := prog_11_method_74_code
def yX9_sheet : MethodName := ⟨RX9, "sheet", "(III)I"⟩
abbrev cX9_lay : ByteArray := prog_11_method_75_code
def yX9_lay : MethodName := ⟨RX9, "lay", "(III)I"⟩
abbrev cX9_read : ByteArray := prog_11_method_76_code
def yX9_read : MethodName := ⟨RX9, "read", "(IIIII)I"⟩
abbrev cX9_torn : ByteArray := prog_11_method_77_code
def yX9_torn : MethodName := ⟨RX9, "torn", "()I"⟩
abbrev cX9_count : ByteArray := prog_11_method_78_code
def yX9_count : MethodName := ⟨RX9, "count", "(I)I"⟩
def RJ6 : String := "java/lang/Integer"
def TJ6 : u_T := fun k => match k with
  | _ => ("", "", "", false)
def tyJ6 : Nat → FieldType := fun k => match k with
  | _ => .int
abbrev wsJ60 : List Cond := u_ws RJ6 TJ6 0
theorem nmJ6 : ∀ a, a < 0 → ∀ b, b < 0 → a ≠ b → (TJ6 a).2.1 ≠ (TJ6 b).2.1 := by decide +kernel
theorem tyJ6_ok : ∀ k, k < 0 → parseFieldDescriptor (TJ6 k).2.2.1 = some (tyJ6 k) := by decide +kernel
abbrev cJ6_bitCount_0f7a4 : ByteArray := prog_12_method_49_code
def yJ6_bitCount_0f7a4 : MethodName := ⟨RJ6, "bitCount", "(I)I"⟩
def RJ9 : String := "java/lang/Math"
def TJ9 : u_T := fun k => match k with
  | _ => ("", "", "", false)
def tyJ9 : Nat → FieldType := fun k => match k with
  | _ => .int
abbrev wsJ90 : List Cond := u_ws RJ9 TJ9 0
theorem nmJ9 : ∀ a, a < 0 → ∀ b, b < 0 → a ≠ b → (TJ9 a).2.1 ≠ (TJ9 b).2.1 := by decide +kernel
theorem tyJ9_ok : ∀ k, k < 0 → parseFieldDescriptor (TJ9 k).2.2.1 = some (tyJ9 k) := by decide +kernel
abbrev cJ9_max_7cf53 : ByteArray := prog_13_method_65_code
def yJ9_max_7cf53 : MethodName := ⟨RJ9, "max", "(II)I"⟩
abbrev cJ9_min_7cf53 : ByteArray := prog_13_method_69_code
def yJ9_min_7cf53 : MethodName := ⟨RJ9, "min", "(II)I"⟩
def RJ0 : String := "java/lang/String"
def TJ0 : u_T := fun k => match k with
  | _ => ("", "", "", false)
def tyJ0 : Nat → FieldType := fun k => match k with
  | _ => .int
abbrev wsJ00 : List Cond := u_ws RJ0 TJ0 0
theorem nmJ0 : ∀ a, a < 0 → ∀ b, b < 0 → a ≠ b → (TJ0 a).2.1 ≠ (TJ0 b).2.1 := by decide +kernel
theorem tyJ0_ok : ∀ k, k < 0 → parseFieldDescriptor (TJ0 k).2.2.1 = some (tyJ0 k) := by decide +kernel
abbrev cJ0_length_8abf5 : ByteArray := prog_14_method_54_code
def yJ0_length_8abf5 : MethodName := ⟨RJ0, "length", "()I"⟩
abbrev cJ0_charAt_5068e : ByteArray := prog_14_method_56_code
def yJ0_charAt_5068e : MethodName := ⟨RJ0, "charAt", "(I)C"⟩
abbrev cJ0_coder_7d493 : ByteArray := prog_14_method_152_code
def yJ0_coder_7d493 : MethodName := ⟨RJ0, "coder", "()B"⟩
abbrev cJ0_isLatin1_aae02 : ByteArray := prog_14_method_154_code
def yJ0_isLatin1_aae02 : MethodName := ⟨RJ0, "isLatin1", "()Z"⟩
abbrev cJ0_checkIndex_df160 : ByteArray := prog_14_method_155_code
def yJ0_checkIndex_df160 : MethodName := ⟨RJ0, "checkIndex", "(II)V"⟩
def RJ1 : String := "java/lang/StringLatin1"
def TJ1 : u_T := fun k => match k with
  | _ => ("", "", "", false)
def tyJ1 : Nat → FieldType := fun k => match k with
  | _ => .int
abbrev wsJ10 : List Cond := u_ws RJ1 TJ1 0
theorem nmJ1 : ∀ a, a < 0 → ∀ b, b < 0 → a ≠ b → (TJ1 a).2.1 ≠ (TJ1 b).2.1 := by decide +kernel
theorem tyJ1_ok : ∀ k, k < 0 → parseFieldDescriptor (TJ1 k).2.2.1 = some (tyJ1 k) := by decide +kernel
abbrev cJ1_charAt_3b067 : ByteArray := prog_15_method_2_code
def yJ1_charAt_3b067 : MethodName := ⟨RJ1, "charAt", "([BI)C"⟩
def RJ2 : String := "java/lang/StringUTF16"
def TJ2 : u_T := fun k => match k with
  | _ => ("", "", "", false)
def tyJ2 : Nat → FieldType := fun k => match k with
  | _ => .int
abbrev wsJ20 : List Cond := u_ws RJ2 TJ2 0
theorem nmJ2 : ∀ a, a < 0 → ∀ b, b < 0 → a ≠ b → (TJ2 a).2.1 ≠ (TJ2 b).2.1 := by decide +kernel
theorem tyJ2_ok : ∀ k, k < 0 → parseFieldDescriptor (TJ2 k).2.2.1 = some (tyJ2 k) := by decide +kernel
abbrev cJ2_getChar_3b067 : ByteArray := prog_16_method_5_code
def yJ2_getChar_3b067 : MethodName := ⟨RJ2, "getChar", "([BI)C"⟩
abbrev cJ2_length_9d52b : ByteArray := prog_16_method_6_code
def yJ2_length_9d52b : MethodName := ⟨RJ2, "length", "([B)I"⟩
abbrev cJ2_charAt_3b067 : ByteArray := prog_16_method_83_code
def yJ2_charAt_3b067 : MethodName := ⟨RJ2, "charAt", "([BI)C"⟩
abbrev cJ2_checkIndex_2214a : ByteArray := prog_16_method_91_code
def yJ2_checkIndex_2214a : MethodName := ⟨RJ2, "checkIndex", "(I[B)V"⟩
def RJ3 : String := "jdk/internal/util/Preconditions"
def TJ3 : u_T := fun k => match k with
  | _ => ("", "", "", false)
def tyJ3 : Nat → FieldType := fun k => match k with
  | _ => .int
abbrev wsJ30 : List Cond := u_ws RJ3 TJ3 0
theorem nmJ3 : ∀ a, a < 0 → ∀ b, b < 0 → a ≠ b → (TJ3 a).2.1 ≠ (TJ3 b).2.1 := by decide +kernel
theorem tyJ3_ok : ∀ k, k < 0 → parseFieldDescriptor (TJ3 k).2.2.1 = some (tyJ3 k) := by decide +kernel
abbrev cJ3_checkIndex_8e157 : ByteArray := prog_17_method_11_code
def yJ3_checkIndex_8e157 : MethodName := ⟨RJ3, "checkIndex", "(IILjava/util/function/BiFunction;)I"⟩
abbrev vwCl : List vw_C := [(RX0, TX0, 4), (RX1, TX1, 7), (RX2, TX2, 8), (RX3, TX3, 4), (RX4, TX4, 8), (RX5, TX5, 6), (RX6, TX6, 14), (RX7, TX7, 10), (RX8, TX8, 9), (RX9, TX9, 52)]
def RL : String := "LosingLeagueLaw"
abbrev cL_law : ByteArray := code
def yL_law : MethodName := ⟨RL, "law", "([I)Z"⟩
def wsL_law_r1 : List Cond := [Cond.classLink RL 7 RX8, Cond.instantiable RX8 9, Cond.initialized RX8, Cond.classLink RL 10 RX9, Cond.instantiable RX9 52, Cond.initialized RX9, Cond.constantLong RL 13 (4294967295), Cond.methodLink RL 9 yX8_init, Cond.instanceMethod yX8_init, Cond.code yX8_init cX8_init 2 none, Cond.methodLink RX8 1 objectInit, Cond.instanceMethod objectInit, Cond.code objectInit ⟨#[0xb1]⟩ 1 none, Cond.classLink RX8 7 RX2, Cond.instantiable RX2 8, Cond.initialized RX2, Cond.fieldLink RX8 10 "LosingLeague" "rules" "LLosingLeague$Rules;", Cond.classLink RX8 16 RX0, Cond.instantiable RX0 4, Cond.initialized RX0, Cond.fieldLink RX8 19 "LosingLeague" "games" "LLosingLeague$Games;", Cond.classLink RX8 23 RX4, Cond.instantiable RX4 8, Cond.initialized RX4]
def wsL_law_r2 : List Cond := [Cond.fieldLink RX8 26 "LosingLeague" "standing" "LLosingLeague$Standing;", Cond.classLink RX8 30 RX1, Cond.instantiable RX1 7, Cond.initialized RX1, Cond.fieldLink RX8 33 "LosingLeague" "reader" "LLosingLeague$Reader;", Cond.classLink RX8 37 RX6, Cond.instantiable RX6 14, Cond.initialized RX6, Cond.fieldLink RX8 40 "LosingLeague" "tree" "LLosingLeague$Tree;", Cond.classLink RX8 44 RX7, Cond.instantiable RX7 10, Cond.initialized RX7, Cond.fieldLink RX8 47 "LosingLeague" "course" "LLosingLeague$Years;", Cond.classLink RX8 51 RX3, Cond.fieldLink RX8 53 "LosingLeague" "sheets" "[LLosingLeague$Sheet;", Cond.instantiable RX3 4, Cond.initialized RX3, Cond.instanceMethod yX2_init, Cond.code yX2_init cX2_init 1 none, Cond.methodLink RX2 3 objectInit, Cond.arrayClass .int, Cond.fieldLink RX2 9 "LosingLeague$Rules" "strength" "[I", Cond.fieldLink RX2 15 "LosingLeague$Rules" "placeWorth" "[I", Cond.fieldLink RX2 18 "LosingLeague$Rules" "choiceWorth" "[I"]
def wsL_law_r3 : List Cond := [Cond.fieldLink RX2 21 "LosingLeague$Rules" "balls" "[I", Cond.fieldLink RX2 24 "LosingLeague$Rules" "wheel" "[I", Cond.instanceMethod yX0_init, Cond.code yX0_init cX0_init 1 none, Cond.methodLink RX0 3 objectInit, Cond.fieldLink RX0 9 "LosingLeague$Games" "first" "[I", Cond.fieldLink RX0 15 "LosingLeague$Games" "second" "[I", Cond.fieldLink RX0 18 "LosingLeague$Games" "ending" "[I", Cond.instanceMethod yX4_init, Cond.code yX4_init cX4_init 1 none, Cond.methodLink RX4 3 objectInit, Cond.fieldLink RX4 9 "LosingLeague$Standing" "won" "[I", Cond.fieldLink RX4 15 "LosingLeague$Standing" "order" "[I", Cond.fieldLink RX4 18 "LosingLeague$Standing" "seat" "[I", Cond.fieldLink RX4 21 "LosingLeague$Standing" "outAt" "[I", Cond.fieldLink RX4 24 "LosingLeague$Standing" "merit" "[I", Cond.fieldLink RX4 27 "LosingLeague$Standing" "toCome" "[I", Cond.fieldLink RX4 30 "LosingLeague$Standing" "turn" "[I", Cond.instanceMethod yX1_init, Cond.code yX1_init cX1_init 1 none, Cond.methodLink RX1 3 objectInit, Cond.classLink RX1 9 RX5, Cond.instantiable RX5 6, Cond.initialized RX5]
def wsL_law_r4 : List Cond := [Cond.fieldLink RX1 12 "LosingLeague$Reader" "tape" "LLosingLeague$Tape;", Cond.classLink RX1 18 RX2, Cond.fieldLink RX1 21 "LosingLeague$Reader" "draft" "LLosingLeague$Rules;", Cond.fieldLink RX1 25 "LosingLeague$Reader" "told" "[I", Cond.instanceMethod yX5_init, Cond.code yX5_init cX5_init 1 none, Cond.methodLink RX5 3 objectInit, Cond.fieldLink RX5 9 "LosingLeague$Tape" "token" "[I", Cond.fieldLink RX5 15 "LosingLeague$Tape" "start" "[I", Cond.fieldLink RX5 18 "LosingLeague$Tape" "meaning" "[I", Cond.arrayClass .byte, Cond.fieldLink RX5 21 "LosingLeague$Tape" "bytes" "[B", Cond.instanceMethod yX6_init, Cond.code yX6_init cX6_init 1 none, Cond.methodLink RX6 3 objectInit, Cond.arrayClass .long, Cond.fieldLink RX6 9 "LosingLeague$Tree" "leaf" "[J", Cond.fieldLink RX6 15 "LosingLeague$Tree" "column" "[J", Cond.fieldLink RX6 18 "LosingLeague$Tree" "value" "[J", Cond.fieldLink RX6 21 "LosingLeague$Tree" "open" "[I", Cond.fieldLink RX6 25 "LosingLeague$Tree" "ofFirst" "[I", Cond.fieldLink RX6 28 "LosingLeague$Tree" "ofPair" "[I", Cond.classLink RX6 31 RX0, Cond.fieldLink RX6 34 "LosingLeague$Tree" "trial" "LLosingLeague$Games;"]
def wsL_law_r5 : List Cond := [Cond.classLink RX6 38 RX4, Cond.fieldLink RX6 41 "LosingLeague$Tree" "standing" "LLosingLeague$Standing;", Cond.classLink RX6 45 RX2, Cond.fieldLink RX6 48 "LosingLeague$Tree" "rules" "LLosingLeague$Rules;", Cond.instanceMethod yX7_init, Cond.code yX7_init cX7_init 1 none, Cond.methodLink RX7 3 objectInit, Cond.fieldLink RX7 9 "LosingLeague$Years" "strength" "[I", Cond.fieldLink RX7 15 "LosingLeague$Years" "wasLast" "[I", Cond.classLink RX7 18 RX0, Cond.fieldLink RX7 21 "LosingLeague$Years" "season" "LLosingLeague$Games;", Cond.classLink RX7 25 RX4, Cond.fieldLink RX7 28 "LosingLeague$Years" "standing" "LLosingLeague$Standing;", Cond.methodLink RX8 57 yX2_reset, Cond.instanceMethod yX2_reset, Cond.selects RX2 yX2_reset yX2_reset, Cond.code yX2_reset cX2_reset 2 none, Cond.fieldLink RX2 27 "LosingLeague$Rules" "sides" "I", Cond.fieldLink RX2 31 "LosingLeague$Rules" "kind" "I", Cond.fieldLink RX2 34 "LosingLeague$Rules" "rounds" "I", Cond.instanceMethod yX3_init, Cond.code yX3_init cX3_init 1 none, Cond.methodLink RX3 3 objectInit, Cond.fieldLink RX3 9 "LosingLeague$Sheet" "cells" "[I"]
def wsL_law_r6 : List Cond := [Cond.methodLink RL 12 yX9_init, Cond.instanceMethod yX9_init, Cond.code yX9_init cX9_init 1 none, Cond.methodLink RX9 1 objectInit, Cond.fieldLink RX9 7 "LosingLeagueModel" "tape" "[I", Cond.fieldLink RX9 13 "LosingLeagueModel" "cuts" "[I", Cond.fieldLink RX9 16 "LosingLeagueModel" "letters" "[I", Cond.fieldLink RX9 19 "LosingLeagueModel" "kinds" "[I", Cond.fieldLink RX9 22 "LosingLeagueModel" "holds" "[I", Cond.fieldLink RX9 25 "LosingLeagueModel" "reads" "[I", Cond.fieldLink RX9 28 "LosingLeagueModel" "readFirst" "[I", Cond.fieldLink RX9 31 "LosingLeagueModel" "readSecond" "[I", Cond.fieldLink RX9 34 "LosingLeagueModel" "firsts" "[I", Cond.fieldLink RX9 37 "LosingLeagueModel" "seconds" "[I", Cond.fieldLink RX9 40 "LosingLeagueModel" "goes" "[I", Cond.fieldLink RX9 43 "LosingLeagueModel" "many" "[I", Cond.fieldLink RX9 46 "LosingLeagueModel" "force" "[I", Cond.fieldLink RX9 49 "LosingLeagueModel" "won" "[I", Cond.fieldLink RX9 52 "LosingLeagueModel" "sideAt" "[I", Cond.fieldLink RX9 55 "LosingLeagueModel" "placeOf" "[I", Cond.fieldLink RX9 58 "LosingLeagueModel" "chooser" "[I", Cond.fieldLink RX9 61 "LosingLeagueModel" "outs" "[I", Cond.fieldLink RX9 64 "LosingLeagueModel" "later" "[I", Cond.fieldLink RX9 67 "LosingLeagueModel" "payOf" "[I"]
def wsL_law_r7 : List Cond := [Cond.fieldLink RX9 70 "LosingLeagueModel" "opens" "[I", Cond.fieldLink RX9 73 "LosingLeagueModel" "tree" "[J", Cond.fieldLink RX9 77 "LosingLeagueModel" "lastOnes" "[I", Cond.fieldLink RX9 80 "LosingLeagueModel" "firstOnes" "[I", Cond.fieldLink RX9 83 "LosingLeagueModel" "lanes" "[I", Cond.fieldLink RX9 86 "LosingLeagueModel" "lengths" "[I", Cond.fieldLink RX9 89 "LosingLeagueModel" "cells" "[I", Cond.methodLink RL 15 yX8_feed, Cond.instanceMethod yX8_feed, Cond.selects RX8 yX8_feed yX8_feed, Cond.code yX8_feed cX8_feed 4 (some .int), Cond.fieldLink RX8 61 "LosingLeague$Reader" "tape" "LLosingLeague$Tape;", Cond.fieldLink RX8 65 "LosingLeague$Tape" "length" "I", Cond.methodLink RX8 71 yX5_put, Cond.instanceMethod yX5_put, Cond.selects RX5 yX5_put yX5_put, Cond.code yX5_put cX5_put 4 none, Cond.fieldLink RX5 25 "LosingLeague$Tape" "length" "I", Cond.methodLink RL 19 yX9_feed, Cond.instanceMethod yX9_feed, Cond.selects RX9 yX9_feed yX9_feed, Cond.code yX9_feed cX9_feed 4 (some .int), Cond.fieldLink RX9 92 "LosingLeagueModel" "taped" "I", Cond.methodLink RL 20 yX8_end]
def wsL_law_r8 : List Cond := [Cond.instanceMethod yX8_end, Cond.selects RX8 yX8_end yX8_end, Cond.code yX8_end cX8_end 3 (some .int), Cond.methodLink RL 24 yX9_end, Cond.instanceMethod yX9_end, Cond.selects RX9 yX9_end yX9_end, Cond.code yX9_end cX9_end 3 (some .int), Cond.methodLink RX9 96 yX9_in, Cond.static yX9_in, Cond.code yX9_in cX9_in 6 (some .boolean), Cond.methodLink RL 25 yX8_text, Cond.instanceMethod yX8_text, Cond.selects RX8 yX8_text yX8_text, Cond.code yX8_text cX8_text 3 (some .int), Cond.fieldLink RX8 79 "LosingLeague$Reader" "flaw" "I", Cond.fieldLink RX8 82 "LosingLeague" "textFault" "I", Cond.fieldLink RX8 85 "LosingLeague$Reader" "flawPlace" "I", Cond.fieldLink RX8 88 "LosingLeague$Reader" "draft" "LLosingLeague$Rules;", Cond.fieldLink RX8 95 "LosingLeague$Games" "size" "I", Cond.fieldLink RX8 98 "LosingLeague$Rules" "rounds" "I", Cond.fieldLink RX8 101 "LosingLeague$Rules" "sides" "I", Cond.fieldLink RX8 108 "LosingLeague$Reader" "lines" "I", Cond.methodLink RX8 75 yX1_takeAll, Cond.instanceMethod yX1_takeAll]
def wsL_law_r9 : List Cond := [Cond.selects RX1 yX1_takeAll yX1_takeAll, Cond.code yX1_takeAll cX1_takeAll 2 (some .boolean), Cond.fieldLink RX1 29 "LosingLeague$Reader" "lines" "I", Cond.fieldLink RX1 33 "LosingLeague$Reader" "flaw" "I", Cond.fieldLink RX1 36 "LosingLeague$Reader" "flawPlace" "I", Cond.fieldLink RX1 39 "LosingLeague$Reader" "at" "I", Cond.fieldLink RX1 48 "LosingLeague$Tape" "token" "[I", Cond.methodLink RX1 42 yX2_reset, Cond.methodLink RX1 45 yX5_split, Cond.instanceMethod yX5_split, Cond.selects RX5 yX5_split yX5_split, Cond.code yX5_split cX5_split 2 none, Cond.fieldLink RX5 29 "LosingLeague$Tape" "next" "I", Cond.methodLink RX5 32 yX5_kindOfNext, Cond.instanceMethod yX5_kindOfNext, Cond.selects RX5 yX5_kindOfNext yX5_kindOfNext, Cond.code yX5_kindOfNext cX5_kindOfNext 1 (some .int), Cond.methodLink RX5 40 yX5_isLetter, Cond.static yX5_isLetter, Cond.code yX5_isLetter cX5_isLetter 1 (some .boolean), Cond.methodLink RX5 44 yX5_isFigure, Cond.static yX5_isFigure, Cond.code yX5_isFigure cX5_isFigure 1 (some .boolean), Cond.methodLink RX5 36 yX5_takeNext]
def wsL_law_r10 : List Cond := [Cond.instanceMethod yX5_takeNext, Cond.selects RX5 yX5_takeNext yX5_takeNext, Cond.code yX5_takeNext cX5_takeNext 2 none, Cond.methodLink RX5 47 yX5_takeName, Cond.instanceMethod yX5_takeName, Cond.selects RX5 yX5_takeName yX5_takeName, Cond.code yX5_takeName cX5_takeName 3 none, Cond.methodLink RX5 53 yX5_word, Cond.static yX5_word, Cond.code yX5_word cX5_word 1 (some (.object "java/lang/String")), Cond.methodLink RX5 57 yX5_isWord, Cond.instanceMethod yX5_isWord, Cond.selects RX5 yX5_isWord yX5_isWord, Cond.code yX5_isWord cX5_isWord 4 (some .boolean), Cond.methodLink RX5 61 yJ0_length_8abf5, Cond.instanceMethod yJ0_length_8abf5, Cond.selects RJ0 yJ0_length_8abf5 yJ0_length_8abf5, Cond.initialized RJ0, Cond.code yJ0_length_8abf5 cJ0_length_8abf5 1 (some .int), Cond.fieldLink RJ0 9 "java/lang/String" "value" "[B", Cond.methodLink RJ0 335 yJ0_coder_7d493, Cond.instanceMethod yJ0_coder_7d493, Cond.selects RJ0 yJ0_coder_7d493 yJ0_coder_7d493, Cond.code yJ0_coder_7d493 cJ0_coder_7d493 1 (some .byte)]
def wsL_law_r11 : List Cond := [Cond.fieldLink RJ0 38 "java/lang/String" "COMPACT_STRINGS" "Z", Cond.fieldLink RJ0 15 "java/lang/String" "coder" "B", Cond.methodLink RX5 65 yJ0_charAt_5068e, Cond.instanceMethod yJ0_charAt_5068e, Cond.selects RJ0 yJ0_charAt_5068e yJ0_charAt_5068e, Cond.code yJ0_charAt_5068e cJ0_charAt_5068e 2 (some .char), Cond.methodLink RJ0 492 yJ0_isLatin1_aae02, Cond.instanceMethod yJ0_isLatin1_aae02, Cond.selects RJ0 yJ0_isLatin1_aae02 yJ0_isLatin1_aae02, Cond.code yJ0_isLatin1_aae02 cJ0_isLatin1_aae02 1 (some .boolean), Cond.methodLink RJ0 495 yJ1_charAt_3b067, Cond.static yJ1_charAt_3b067, Cond.initialized RJ1, Cond.code yJ1_charAt_3b067 cJ1_charAt_3b067 2 (some .char), Cond.methodLink RJ1 9 yJ0_checkIndex_df160, Cond.static yJ0_checkIndex_df160, Cond.code yJ0_checkIndex_df160 cJ0_checkIndex_df160 2 none, Cond.fieldLink RJ0 1053 "jdk/internal/util/Preconditions" "SIOOBE_FORMATTER" "Ljava/util/function/BiFunction;", Cond.methodLink RJ0 1059 yJ3_checkIndex_8e157, Cond.static yJ3_checkIndex_8e157, Cond.initialized RJ3, Cond.code yJ3_checkIndex_8e157 cJ3_checkIndex_8e157 3 (some .int), Cond.methodLink RJ0 498 yJ2_charAt_3b067, Cond.static yJ2_charAt_3b067]
def wsL_law_r12 : List Cond := [Cond.initialized RJ2, Cond.code yJ2_charAt_3b067 cJ2_charAt_3b067 2 (some .char), Cond.methodLink RJ2 67 yJ2_checkIndex_2214a, Cond.static yJ2_checkIndex_2214a, Cond.code yJ2_checkIndex_2214a cJ2_checkIndex_2214a 2 none, Cond.methodLink RJ2 48 yJ2_length_9d52b, Cond.static yJ2_length_9d52b, Cond.code yJ2_length_9d52b cJ2_length_9d52b 1 (some .int), Cond.methodLink RJ2 414 yJ0_checkIndex_df160, Cond.methodLink RJ2 71 yJ2_getChar_3b067, Cond.static yJ2_getChar_3b067, Cond.code yJ2_getChar_3b067 cJ2_getChar_3b067 2 (some .char), Cond.fieldLink RJ2 44 "java/lang/StringUTF16" "$assertionsDisabled" "Z", Cond.fieldLink RJ2 59 "java/lang/StringUTF16" "HI_BYTE_SHIFT" "I", Cond.fieldLink RJ2 63 "java/lang/StringUTF16" "LO_BYTE_SHIFT" "I", Cond.methodLink RX5 50 yX5_takeFigures, Cond.instanceMethod yX5_takeFigures, Cond.selects RX5 yX5_takeFigures yX5_takeFigures, Cond.code yX5_takeFigures cX5_takeFigures 4 none, Cond.methodLink RX1 51 yX1_takeLine, Cond.instanceMethod yX1_takeLine, Cond.selects RX1 yX1_takeLine yX1_takeLine, Cond.code yX1_takeLine cX1_takeLine 2 (some .boolean), Cond.fieldLink RX1 81 "LosingLeague$Tape" "meaning" "[I"]
def wsL_law_r13 : List Cond := [Cond.fieldLink RX1 93 "LosingLeague$Rules" "strength" "[I", Cond.fieldLink RX1 100 "LosingLeague$Rules" "placeWorth" "[I", Cond.fieldLink RX1 103 "LosingLeague$Rules" "choiceWorth" "[I", Cond.fieldLink RX1 106 "LosingLeague$Rules" "balls" "[I", Cond.fieldLink RX1 109 "LosingLeague$Rules" "wheel" "[I", Cond.fieldLink RX1 112 "LosingLeague$Rules" "sides" "I", Cond.methodLink RX1 78 yX1_isDue, Cond.instanceMethod yX1_isDue, Cond.selects RX1 yX1_isDue yX1_isDue, Cond.code yX1_isDue cX1_isDue 2 (some .boolean), Cond.methodLink RX1 71 yX1_fail, Cond.instanceMethod yX1_fail, Cond.selects RX1 yX1_fail yX1_fail, Cond.code yX1_fail cX1_fail 2 (some .boolean), Cond.fieldLink RX1 75 "LosingLeague$Tape" "start" "[I", Cond.methodLink RX1 84 yX1_takeSides, Cond.instanceMethod yX1_takeSides, Cond.selects RX1 yX1_takeSides yX1_takeSides, Cond.code yX1_takeSides cX1_takeSides 2 (some .boolean), Cond.methodLink RX1 115 yX1_takeNumber, Cond.instanceMethod yX1_takeNumber, Cond.selects RX1 yX1_takeNumber yX1_takeNumber, Cond.code yX1_takeNumber cX1_takeNumber 4 (some .boolean), Cond.methodLink RX1 55 yX1_step]
def wsL_law_r14 : List Cond := [Cond.instanceMethod yX1_step, Cond.selects RX1 yX1_step yX1_step, Cond.code yX1_step cX1_step 1 none, Cond.methodLink RX1 87 yX1_takeRule, Cond.instanceMethod yX1_takeRule, Cond.selects RX1 yX1_takeRule yX1_takeRule, Cond.code yX1_takeRule cX1_takeRule 1 (some .boolean), Cond.fieldLink RX1 61 "LosingLeague$Rules" "kind" "I", Cond.methodLink RX1 90 yX1_takeRound, Cond.instanceMethod yX1_takeRound, Cond.selects RX1 yX1_takeRound yX1_takeRound, Cond.code yX1_takeRound cX1_takeRound 1 (some .boolean), Cond.fieldLink RX1 119 "LosingLeague$Rules" "rounds" "I", Cond.methodLink RX1 122 yX2_gamesOfRound, Cond.instanceMethod yX2_gamesOfRound, Cond.selects RX2 yX2_gamesOfRound yX2_gamesOfRound, Cond.code yX2_gamesOfRound cX2_gamesOfRound 1 (some .int), Cond.methodLink RX1 96 yX1_takePair, Cond.instanceMethod yX1_takePair, Cond.selects RX1 yX1_takePair yX1_takePair, Cond.code yX1_takePair cX1_takePair 6 (some .boolean), Cond.methodLink RX1 58 yX1_fitsTogether, Cond.instanceMethod yX1_fitsTogether, Cond.selects RX1 yX1_fitsTogether yX1_fitsTogether]
def wsL_law_r15 : List Cond := [Cond.code yX1_fitsTogether cX1_fitsTogether 3 (some .boolean), Cond.methodLink RX1 64 yX2_allBalls, Cond.instanceMethod yX2_allBalls, Cond.selects RX2 yX2_allBalls yX2_allBalls, Cond.code yX2_allBalls cX2_allBalls 3 (some .int), Cond.methodLink RX1 68 yX2_wheelHasTwice, Cond.instanceMethod yX2_wheelHasTwice, Cond.selects RX2 yX2_wheelHasTwice yX2_wheelHasTwice, Cond.code yX2_wheelHasTwice cX2_wheelHasTwice 3 (some .boolean), Cond.methodLink RX2 37 yJ6_bitCount_0f7a4, Cond.static yJ6_bitCount_0f7a4, Cond.initialized RJ6, Cond.code yJ6_bitCount_0f7a4 cJ6_bitCount_0f7a4 1 (some .int), Cond.constant RJ6 265 (1431655765), Cond.constant RJ6 266 (858993459), Cond.constant RJ6 267 (252645135), Cond.methodLink RX8 91 yX2_copyFrom, Cond.instanceMethod yX2_copyFrom, Cond.selects RX2 yX2_copyFrom yX2_copyFrom, Cond.code yX2_copyFrom cX2_copyFrom 3 none, Cond.methodLink RX8 104 yX0_addRound, Cond.instanceMethod yX0_addRound, Cond.selects RX0 yX0_addRound yX0_addRound, Cond.code yX0_addRound cX0_addRound 4 none]
def wsL_law_r16 : List Cond := [Cond.methodLink RX0 25 yX0_add, Cond.instanceMethod yX0_add, Cond.selects RX0 yX0_add yX0_add, Cond.code yX0_add cX0_add 3 (some .int), Cond.fieldLink RX0 21 "LosingLeague$Games" "size" "I", Cond.methodLink RL 29 yX9_text, Cond.instanceMethod yX9_text, Cond.selects RX9 yX9_text yX9_text, Cond.code yX9_text cX9_text 3 (some .int), Cond.fieldLink RX9 100 "LosingLeagueModel" "wrong" "I", Cond.fieldLink RX9 113 "LosingLeagueModel" "spot" "I", Cond.fieldLink RX9 144 "LosingLeagueModel" "toldOnes" "I", Cond.fieldLink RX9 154 "LosingLeagueModel" "isBehind" "Z", Cond.fieldLink RX9 157 "LosingLeagueModel" "hasRule" "Z", Cond.fieldLink RX9 150 "LosingLeagueModel" "hasSides" "Z", Cond.fieldLink RX9 147 "LosingLeagueModel" "readGames" "I", Cond.fieldLink RX9 119 "LosingLeagueModel" "token" "I", Cond.fieldLink RX9 103 "LosingLeagueModel" "place" "I", Cond.fieldLink RX9 173 "LosingLeagueModel" "fault" "I", Cond.fieldLink RX9 106 "LosingLeagueModel" "wrongAt" "I", Cond.methodLink RX9 138 yX9_next, Cond.instanceMethod yX9_next, Cond.selects RX9 yX9_next yX9_next, Cond.code yX9_next cX9_next 2 none]
def wsL_law_r17 : List Cond := [Cond.fieldLink RX9 116 "LosingLeagueModel" "value" "I", Cond.constantLong RX9 122 (97), Cond.constantLong RX9 124 (122), Cond.constantLong RX9 134 (48), Cond.constantLong RX9 136 (57), Cond.methodLink RX9 109 yX9_byteAt, Cond.instanceMethod yX9_byteAt, Cond.selects RX9 yX9_byteAt yX9_byteAt, Cond.code yX9_byteAt cX9_byteAt 2 (some .int), Cond.methodLink RX9 126 yX9_nameAt, Cond.instanceMethod yX9_nameAt, Cond.selects RX9 yX9_nameAt yX9_nameAt, Cond.code yX9_nameAt cX9_nameAt 6 (some .int), Cond.methodLink RX9 130 yX9_fails, Cond.instanceMethod yX9_fails, Cond.selects RX9 yX9_fails yX9_fails, Cond.code yX9_fails cX9_fails 2 none, Cond.methodLink RX9 166 yX9_readLine, Cond.instanceMethod yX9_readLine, Cond.selects RX9 yX9_readLine yX9_readLine, Cond.code yX9_readLine cX9_readLine 2 none, Cond.methodLink RX9 141 yX9_number, Cond.instanceMethod yX9_number, Cond.selects RX9 yX9_number yX9_number]
def wsL_law_r18 : List Cond := [Cond.code yX9_number cX9_number 3 (some .int), Cond.methodLink RX9 160 yX9_readRound, Cond.instanceMethod yX9_readRound, Cond.selects RX9 yX9_readRound yX9_readRound, Cond.code yX9_readRound cX9_readRound 4 none, Cond.methodLink RX9 163 yX9_readPair, Cond.instanceMethod yX9_readPair, Cond.selects RX9 yX9_readPair yX9_readPair, Cond.code yX9_readPair cX9_readPair 5 none, Cond.methodLink RX9 169 yX9_isWhole, Cond.instanceMethod yX9_isWhole, Cond.selects RX9 yX9_isWhole yX9_isWhole, Cond.code yX9_isWhole cX9_isWhole 4 (some .boolean), Cond.methodLink RL 30 yX8_fault, Cond.instanceMethod yX8_fault, Cond.selects RX8 yX8_fault yX8_fault, Cond.code yX8_fault cX8_fault 1 (some .int), Cond.methodLink RL 33 yX9_fault, Cond.instanceMethod yX9_fault, Cond.selects RX9 yX9_fault yX9_fault, Cond.code yX9_fault cX9_fault 1 (some .int), Cond.methodLink RL 34 yX8_rule, Cond.instanceMethod yX8_rule, Cond.selects RX8 yX8_rule yX8_rule]
def wsL_law_r19 : List Cond := [Cond.code yX8_rule cX8_rule 3 (some .int), Cond.fieldLink RX8 111 "LosingLeague$Rules" "kind" "I", Cond.fieldLink RX8 114 "LosingLeague$Rules" "strength" "[I", Cond.fieldLink RX8 118 "LosingLeague$Rules" "placeWorth" "[I", Cond.fieldLink RX8 121 "LosingLeague$Rules" "choiceWorth" "[I", Cond.fieldLink RX8 124 "LosingLeague$Rules" "balls" "[I", Cond.fieldLink RX8 127 "LosingLeague$Rules" "wheel" "[I", Cond.methodLink RL 37 yX9_rule, Cond.instanceMethod yX9_rule, Cond.selects RX9 yX9_rule yX9_rule, Cond.code yX9_rule cX9_rule 2 (some .int), Cond.methodLink RX9 180 yX9_isSide, Cond.instanceMethod yX9_isSide, Cond.selects RX9 yX9_isSide yX9_isSide, Cond.code yX9_isSide cX9_isSide 2 (some .boolean), Cond.methodLink RX9 176 yX9_sides, Cond.instanceMethod yX9_sides, Cond.selects RX9 yX9_sides yX9_sides, Cond.code yX9_sides cX9_sides 1 (some .int), Cond.methodLink RL 38 yX8_game, Cond.instanceMethod yX8_game, Cond.selects RX8 yX8_game yX8_game, Cond.code yX8_game cX8_game 3 (some .int), Cond.methodLink RX8 130 yX8_isSide]
def wsL_law_r20 : List Cond := [Cond.instanceMethod yX8_isSide, Cond.selects RX8 yX8_isSide yX8_isSide, Cond.code yX8_isSide cX8_isSide 2 (some .boolean), Cond.methodLink RX8 134 yX0_add, Cond.methodLink RL 42 yX9_game, Cond.instanceMethod yX9_game, Cond.selects RX9 yX9_game yX9_game, Cond.code yX9_game cX9_game 3 (some .int), Cond.methodLink RL 43 yX8_of, Cond.instanceMethod yX8_of, Cond.selects RX8 yX8_of yX8_of, Cond.code yX8_of cX8_of 5 (some .int), Cond.fieldLink RX8 141 "LosingLeague$Games" "first" "[I", Cond.fieldLink RX8 144 "LosingLeague$Games" "second" "[I", Cond.fieldLink RX8 147 "LosingLeague$Games" "ending" "[I", Cond.methodLink RX8 138 yX0_has, Cond.instanceMethod yX0_has, Cond.selects RX0 yX0_has yX0_has, Cond.code yX0_has cX0_has 2 (some .boolean), Cond.methodLink RX8 150 yX8_chance, Cond.static yX8_chance, Cond.code yX8_chance cX8_chance 3 (some .int), Cond.methodLink RX8 347 Lib.Math.min.name, Cond.static Lib.Math.min.name]
def wsL_law_r21 : List Cond := [Cond.initialized "java/lang/Math", Cond.code Lib.Math.min.name Lib.Math.min.code 2 (some .int), Cond.methodLink RX8 352 Lib.Math.max.name, Cond.static Lib.Math.max.name, Cond.code Lib.Math.max.name Lib.Math.max.code 2 (some .int), Cond.methodLink RX8 153 yX8_rested, Cond.static yX8_rested, Cond.code yX8_rested cX8_rested 1 (some .int), Cond.methodLink RL 46 yX9_of, Cond.instanceMethod yX9_of, Cond.selects RX9 yX9_of yX9_of, Cond.code yX9_of cX9_of 3 (some .int), Cond.methodLink RX9 190 yX9_isGame, Cond.instanceMethod yX9_isGame, Cond.selects RX9 yX9_isGame yX9_isGame, Cond.code yX9_isGame cX9_isGame 2 (some .boolean), Cond.methodLink RX9 193 yX9_oddsBy, Cond.instanceMethod yX9_oddsBy, Cond.selects RX9 yX9_oddsBy yX9_oddsBy, Cond.code yX9_oddsBy cX9_oddsBy 5 (some .int), Cond.methodLink RX9 184 yX9_half, Cond.static yX9_half, Cond.code yX9_half cX9_half 1 (some .int), Cond.methodLink RX9 187 yX9_oddsOf]
def wsL_law_r22 : List Cond := [Cond.static yX9_oddsOf, Cond.code yX9_oddsOf cX9_oddsOf 3 (some .int), Cond.methodLink RL 47 yX8_ends, Cond.instanceMethod yX8_ends, Cond.selects RX8 yX8_ends yX8_ends, Cond.code yX8_ends cX8_ends 4 (some .int), Cond.methodLink RL 50 yX9_ends, Cond.instanceMethod yX9_ends, Cond.selects RX9 yX9_ends yX9_ends, Cond.code yX9_ends cX9_ends 4 (some .int), Cond.constantLong RX9 196 (2), Cond.methodLink RL 51 yX8_table, Cond.instanceMethod yX8_table, Cond.selects RX8 yX8_table yX8_table, Cond.code yX8_table cX8_table 4 (some .int), Cond.fieldLink RX8 161 "LosingLeague$Standing" "order" "[I", Cond.fieldLink RX8 164 "LosingLeague$Standing" "won" "[I", Cond.methodLink RX8 157 yX4_settle, Cond.instanceMethod yX4_settle, Cond.selects RX4 yX4_settle yX4_settle, Cond.code yX4_settle cX4_settle 5 none, Cond.fieldLink RX4 33 "LosingLeague$Standing" "sides" "I", Cond.fieldLink RX4 37 "LosingLeague$Games" "size" "I", Cond.fieldLink RX4 42 "LosingLeague$Games" "ending" "[I"]
def wsL_law_r23 : List Cond := [Cond.methodLink RX4 45 yX0_winner, Cond.instanceMethod yX0_winner, Cond.selects RX0 yX0_winner yX0_winner, Cond.code yX0_winner cX0_winner 2 (some .int), Cond.methodLink RX8 167 yX0_openOf, Cond.instanceMethod yX0_openOf, Cond.selects RX0 yX0_openOf yX0_openOf, Cond.code yX0_openOf cX0_openOf 4 (some .int), Cond.methodLink RX0 33 yX0_isOf, Cond.instanceMethod yX0_isOf, Cond.selects RX0 yX0_isOf yX0_isOf, Cond.code yX0_isOf cX0_isOf 3 (some .boolean), Cond.methodLink RX0 29 yX0_has, Cond.methodLink RL 54 yX9_table, Cond.instanceMethod yX9_table, Cond.selects RX9 yX9_table yX9_table, Cond.code yX9_table cX9_table 6 (some .int), Cond.methodLink RX9 204 yX9_layTable, Cond.instanceMethod yX9_layTable, Cond.selects RX9 yX9_layTable yX9_layTable, Cond.code yX9_layTable cX9_layTable 5 none, Cond.methodLink RX9 198 yX9_from, Cond.static yX9_from, Cond.code yX9_from cX9_from 1 (some .int)]
def wsL_law_r24 : List Cond := [Cond.methodLink RX9 201 yX9_winner, Cond.instanceMethod yX9_winner, Cond.selects RX9 yX9_winner yX9_winner, Cond.code yX9_winner cX9_winner 2 (some .int), Cond.methodLink RL 55 yX8_may, Cond.instanceMethod yX8_may, Cond.selects RX8 yX8_may yX8_may, Cond.code yX8_may cX8_may 3 (some .int), Cond.methodLink RX8 170 yX0_openOnes, Cond.instanceMethod yX0_openOnes, Cond.selects RX0 yX0_openOnes yX0_openOnes, Cond.code yX0_openOnes cX0_openOnes 3 (some .int), Cond.methodLink RX8 174 yX6_reaches, Cond.instanceMethod yX6_reaches, Cond.selects RX6 yX6_reaches yX6_reaches, Cond.code yX6_reaches cX6_reaches 6 (some .boolean), Cond.fieldLink RX6 59 "LosingLeague$Tree" "depth" "I", Cond.fieldLink RX6 101 "LosingLeague$Standing" "seat" "[I", Cond.methodLink RX6 89 yX6_begin, Cond.instanceMethod yX6_begin, Cond.selects RX6 yX6_begin yX6_begin, Cond.code yX6_begin cX6_begin 4 none, Cond.fieldLink RX6 63 "LosingLeague$Games" "size" "I", Cond.fieldLink RX6 66 "LosingLeague$Games" "ending" "[I"]
def wsL_law_r25 : List Cond := [Cond.fieldLink RX6 69 "LosingLeague$Rules" "strength" "[I", Cond.fieldLink RX6 72 "LosingLeague$Games" "first" "[I", Cond.fieldLink RX6 75 "LosingLeague$Games" "second" "[I", Cond.methodLink RX6 52 yX2_copyFrom, Cond.methodLink RX6 56 yX0_copyFrom, Cond.instanceMethod yX0_copyFrom, Cond.selects RX0 yX0_copyFrom yX0_copyFrom, Cond.code yX0_copyFrom cX0_copyFrom 3 none, Cond.methodLink RX6 93 yX6_lookAt, Cond.instanceMethod yX6_lookAt, Cond.selects RX6 yX6_lookAt yX6_lookAt, Cond.code yX6_lookAt cX6_lookAt 3 none, Cond.fieldLink RX6 82 "LosingLeague$Rules" "sides" "I", Cond.methodLink RX6 85 yX4_settle, Cond.methodLink RX6 104 yX6_winsAllOpen, Cond.instanceMethod yX6_winsAllOpen, Cond.selects RX6 yX6_winsAllOpen yX6_winsAllOpen, Cond.code yX6_winsAllOpen cX6_winsAllOpen 3 (some .boolean), Cond.methodLink RX6 108 yX0_isOf, Cond.methodLink RX6 112 yX0_winner, Cond.methodLink RL 58 yX9_may, Cond.instanceMethod yX9_may, Cond.selects RX9 yX9_may yX9_may, Cond.code yX9_may cX9_may 8 (some .int)]
def wsL_law_r26 : List Cond := [Cond.fieldLink RX9 241 "LosingLeagueModel" "open" "I", Cond.methodLink RX9 231 yX9_openMany, Cond.instanceMethod yX9_openMany, Cond.selects RX9 yX9_openMany yX9_openMany, Cond.code yX9_openMany cX9_openMany 3 (some .int), Cond.methodLink RX9 244 yX9_layOpens, Cond.instanceMethod yX9_layOpens, Cond.selects RX9 yX9_layOpens yX9_layOpens, Cond.code yX9_layOpens cX9_layOpens 2 none, Cond.methodLink RX9 247 yX9_setEnds, Cond.instanceMethod yX9_setEnds, Cond.selects RX9 yX9_setEnds yX9_setEnds, Cond.code yX9_setEnds cX9_setEnds 3 none, Cond.methodLink RX9 250 yX9_setOpen, Cond.instanceMethod yX9_setOpen, Cond.selects RX9 yX9_setOpen yX9_setOpen, Cond.code yX9_setOpen cX9_setOpen 2 none, Cond.methodLink RL 59 yX8_out, Cond.instanceMethod yX8_out, Cond.selects RX8 yX8_out yX8_out, Cond.code yX8_out cX8_out 2 (some .int), Cond.fieldLink RX8 182 "LosingLeague$Standing" "outAt" "[I", Cond.methodLink RX8 178 yX4_findOut, Cond.instanceMethod yX4_findOut]
def wsL_law_r27 : List Cond := [Cond.selects RX4 yX4_findOut yX4_findOut, Cond.code yX4_findOut cX4_findOut 4 none, Cond.fieldLink RX4 54 "LosingLeague$Games" "first" "[I", Cond.fieldLink RX4 57 "LosingLeague$Games" "second" "[I", Cond.methodLink RX4 63 Lib.Math.max.name, Cond.methodLink RX4 60 yX4_countWin, Cond.instanceMethod yX4_countWin, Cond.selects RX4 yX4_countWin yX4_countWin, Cond.code yX4_countWin cX4_countWin 2 (some .int), Cond.methodLink RX4 69 yX4_markOut, Cond.instanceMethod yX4_markOut, Cond.selects RX4 yX4_markOut yX4_markOut, Cond.code yX4_markOut cX4_markOut 4 none, Cond.methodLink RL 62 yX9_out, Cond.instanceMethod yX9_out, Cond.selects RX9 yX9_out yX9_out, Cond.code yX9_out cX9_out 2 (some .int), Cond.methodLink RX9 214 yX9_outOf, Cond.instanceMethod yX9_outOf, Cond.selects RX9 yX9_outOf yX9_outOf, Cond.code yX9_outOf cX9_outOf 6 (some .int), Cond.methodLink RX9 207 yX9_wonUpTo, Cond.instanceMethod yX9_wonUpTo, Cond.selects RX9 yX9_wonUpTo yX9_wonUpTo]
def wsL_law_r28 : List Cond := [Cond.code yX9_wonUpTo cX9_wonUpTo 6 (some .int), Cond.methodLink RX9 211 yX9_toCome, Cond.instanceMethod yX9_toCome, Cond.selects RX9 yX9_toCome yX9_toCome, Cond.code yX9_toCome cX9_toCome 8 (some .int), Cond.methodLink RL 63 yX8_chooses, Cond.instanceMethod yX8_chooses, Cond.selects RX8 yX8_chooses yX8_chooses, Cond.code yX8_chooses cX8_chooses 3 (some .int), Cond.fieldLink RX8 193 "LosingLeague$Standing" "turn" "[I", Cond.methodLink RX8 185 yX4_ballsOf, Cond.instanceMethod yX4_ballsOf, Cond.selects RX4 yX4_ballsOf yX4_ballsOf, Cond.code yX4_ballsOf cX4_ballsOf 3 (some .int), Cond.fieldLink RX4 49 "LosingLeague$Rules" "balls" "[I", Cond.methodLink RX8 189 yX4_arrange, Cond.instanceMethod yX4_arrange, Cond.selects RX4 yX4_arrange yX4_arrange, Cond.code yX4_arrange cX4_arrange 3 none, Cond.fieldLink RX4 73 "LosingLeague$Rules" "kind" "I", Cond.methodLink RX4 76 yX4_turnWheel, Cond.instanceMethod yX4_turnWheel, Cond.selects RX4 yX4_turnWheel yX4_turnWheel, Cond.code yX4_turnWheel cX4_turnWheel 3 none]
def wsL_law_r29 : List Cond := [Cond.fieldLink RX4 93 "LosingLeague$Rules" "wheel" "[I", Cond.methodLink RX4 80 yX4_chooseByDay, Cond.instanceMethod yX4_chooseByDay, Cond.selects RX4 yX4_chooseByDay yX4_chooseByDay, Cond.code yX4_chooseByDay cX4_chooseByDay 4 none, Cond.methodLink RX4 90 yX4_fromLast, Cond.instanceMethod yX4_fromLast, Cond.selects RX4 yX4_fromLast yX4_fromLast, Cond.code yX4_fromLast cX4_fromLast 2 (some .int), Cond.methodLink RX4 83 yX4_chooseByBall, Cond.instanceMethod yX4_chooseByBall, Cond.selects RX4 yX4_chooseByBall yX4_chooseByBall, Cond.code yX4_chooseByBall cX4_chooseByBall 5 none, Cond.methodLink RX4 87 yX4_chooseWorstFirst, Cond.instanceMethod yX4_chooseWorstFirst, Cond.selects RX4 yX4_chooseWorstFirst yX4_chooseWorstFirst, Cond.code yX4_chooseWorstFirst cX4_chooseWorstFirst 2 none, Cond.methodLink RL 66 yX9_chooses, Cond.instanceMethod yX9_chooses, Cond.selects RX9 yX9_chooses yX9_chooses, Cond.code yX9_chooses cX9_chooses 4 (some .int), Cond.methodLink RX9 227 yX9_layChoices, Cond.instanceMethod yX9_layChoices, Cond.selects RX9 yX9_layChoices yX9_layChoices]
def wsL_law_r30 : List Cond := [Cond.code yX9_layChoices cX9_layChoices 7 none, Cond.methodLink RX9 217 yX9_isAhead, Cond.instanceMethod yX9_isAhead, Cond.selects RX9 yX9_isAhead yX9_isAhead, Cond.code yX9_isAhead cX9_isAhead 5 (some .boolean), Cond.methodLink RL 67 yX8_pay, Cond.instanceMethod yX8_pay, Cond.selects RX8 yX8_pay yX8_pay, Cond.code yX8_pay cX8_pay 3 (some .int), Cond.methodLink RX8 196 yX8_isPart, Cond.static yX8_isPart, Cond.code yX8_isPart cX8_isPart 1 (some .boolean), Cond.methodLink RX8 199 yX6_growPays, Cond.instanceMethod yX6_growPays, Cond.selects RX6 yX6_growPays yX6_growPays, Cond.code yX6_growPays cX6_growPays 4 none, Cond.methodLink RX6 97 yX4_payAll, Cond.instanceMethod yX4_payAll, Cond.selects RX4 yX4_payAll yX4_payAll, Cond.code yX4_payAll cX4_payAll 8 none, Cond.fieldLink RX4 103 "LosingLeague$Rules" "placeWorth" "[I", Cond.methodLink RX4 96 yX2_payUnit, Cond.instanceMethod yX2_payUnit, Cond.selects RX2 yX2_payUnit yX2_payUnit]
def wsL_law_r31 : List Cond := [Cond.code yX2_payUnit cX2_payUnit 1 (some .int), Cond.methodLink RX2 47 Lib.Math.max.name, Cond.methodLink RX2 43 yX2_allBalls, Cond.methodLink RX4 100 yX2_allChoices, Cond.instanceMethod yX2_allChoices, Cond.selects RX2 yX2_allChoices yX2_allChoices, Cond.code yX2_allChoices cX2_allChoices 3 (some .int), Cond.methodLink RX4 106 yX4_payChoices, Cond.instanceMethod yX4_payChoices, Cond.selects RX4 yX4_payChoices yX4_payChoices, Cond.code yX4_payChoices cX4_payChoices 7 none, Cond.fieldLink RX4 118 "LosingLeague$Rules" "choiceWorth" "[I", Cond.methodLink RX4 114 yX4_arrange, Cond.methodLink RX4 110 yX4_findOut, Cond.methodLink RX8 203 yX6_expected, Cond.instanceMethod yX6_expected, Cond.selects RX6 yX6_expected yX6_expected, Cond.code yX6_expected cX6_expected 2 (some .long), Cond.methodLink RX6 124 yX6_fold, Cond.instanceMethod yX6_fold, Cond.selects RX6 yX6_fold yX6_fold, Cond.code yX6_fold cX6_fold 7 (some .long), Cond.methodLink RX6 128 yX6_mixed, Cond.static yX6_mixed]
def wsL_law_r32 : List Cond := [Cond.code yX6_mixed cX6_mixed 5 (some .long), Cond.methodLink RX8 207 yX6_scale, Cond.instanceMethod yX6_scale, Cond.selects RX6 yX6_scale yX6_scale, Cond.code yX6_scale cX6_scale 1 (some .long), Cond.methodLink RX6 116 yX6_allChances, Cond.instanceMethod yX6_allChances, Cond.selects RX6 yX6_allChances yX6_allChances, Cond.code yX6_allChances cX6_allChances 1 (some .long), Cond.methodLink RX6 120 yX2_payUnit, Cond.methodLink RX8 211 yX8_part, Cond.static yX8_part, Cond.code yX8_part cX8_part 7 (some .long), Cond.methodLink RX8 355 yX8_divisor, Cond.static yX8_divisor, Cond.code yX8_divisor cX8_divisor 7 (some .long), Cond.methodLink RL 70 yX9_pay, Cond.instanceMethod yX9_pay, Cond.selects RX9 yX9_pay yX9_pay, Cond.code yX9_pay cX9_pay 3 (some .int), Cond.methodLink RX9 234 yX9_layPays, Cond.instanceMethod yX9_layPays, Cond.selects RX9 yX9_layPays yX9_layPays, Cond.code yX9_layPays cX9_layPays 4 none]
def wsL_law_r33 : List Cond := [Cond.methodLink RX9 224 yX9_unit, Cond.instanceMethod yX9_unit, Cond.selects RX9 yX9_unit yX9_unit, Cond.code yX9_unit cX9_unit 1 (some .int), Cond.methodLink RX9 221 yX9_balls, Cond.instanceMethod yX9_balls, Cond.selects RX9 yX9_balls yX9_balls, Cond.code yX9_balls cX9_balls 3 (some .int), Cond.methodLink RX9 237 yX9_lowest, Cond.static yX9_lowest, Cond.code yX9_lowest cX9_lowest 11 (some .long), Cond.methodLink RL 71 yX8_worth, Cond.instanceMethod yX8_worth, Cond.selects RX8 yX8_worth yX8_worth, Cond.code yX8_worth cX8_worth 3 (some .long), Cond.constantLong RX8 215 (-1), Cond.constantLong RX8 217 (-2), Cond.methodLink RL 75 yX9_worth, Cond.instanceMethod yX9_worth, Cond.selects RX9 yX9_worth yX9_worth, Cond.code yX9_worth cX9_worth 3 (some .long), Cond.constantLong RX9 266 (-1), Cond.constantLong RX9 268 (-2), Cond.fieldLink RX9 255 "LosingLeagueModel" "sumUp" "J"]
def wsL_law_r34 : List Cond := [Cond.fieldLink RX9 259 "LosingLeagueModel" "sumDown" "J", Cond.methodLink RX9 270 yX9_layWorth, Cond.instanceMethod yX9_layWorth, Cond.selects RX9 yX9_layWorth yX9_layWorth, Cond.code yX9_layWorth cX9_layWorth 5 none, Cond.constantLong RX9 253 (16), Cond.methodLink RX9 262 yX9_likely, Cond.instanceMethod yX9_likely, Cond.selects RX9 yX9_likely yX9_likely, Cond.code yX9_likely cX9_likely 8 (some .long), Cond.methodLink RL 76 yX8_worthIf, Cond.instanceMethod yX8_worthIf, Cond.selects RX8 yX8_worthIf yX8_worthIf, Cond.code yX8_worthIf cX8_worthIf 5 (some .long), Cond.methodLink RX8 219 yX0_isOpen, Cond.instanceMethod yX0_isOpen, Cond.selects RX0 yX0_isOpen yX0_isOpen, Cond.code yX0_isOpen cX0_isOpen 2 (some .boolean), Cond.methodLink RX8 222 yX0_isOf, Cond.methodLink RX8 226 yX6_expectedIf, Cond.instanceMethod yX6_expectedIf, Cond.selects RX6 yX6_expectedIf yX6_expectedIf, Cond.code yX6_expectedIf cX6_expectedIf 5 (some .long), Cond.methodLink RL 80 yX9_worthIf]
def wsL_law_r35 : List Cond := [Cond.instanceMethod yX9_worthIf, Cond.selects RX9 yX9_worthIf yX9_worthIf, Cond.code yX9_worthIf cX9_worthIf 5 (some .long), Cond.methodLink RX9 274 yX9_isOpen, Cond.instanceMethod yX9_isOpen, Cond.selects RX9 yX9_isOpen yX9_isOpen, Cond.code yX9_isOpen cX9_isOpen 2 (some .boolean), Cond.methodLink RL 81 yX8_wants, Cond.instanceMethod yX8_wants, Cond.selects RX8 yX8_wants yX8_wants, Cond.code yX8_wants cX8_wants 2 (some .int), Cond.methodLink RX8 230 yX6_losers, Cond.instanceMethod yX6_losers, Cond.selects RX6 yX6_losers yX6_losers, Cond.code yX6_losers cX6_losers 4 (some .int), Cond.methodLink RX6 136 yX6_wantsToLose, Cond.instanceMethod yX6_wantsToLose, Cond.selects RX6 yX6_wantsToLose yX6_wantsToLose, Cond.code yX6_wantsToLose cX6_wantsToLose 3 (some .boolean), Cond.methodLink RX6 132 yX6_expectedIf, Cond.methodLink RL 84 yX9_wants, Cond.instanceMethod yX9_wants, Cond.selects RX9 yX9_wants yX9_wants, Cond.code yX9_wants cX9_wants 2 (some .int)]
def wsL_law_r36 : List Cond := [Cond.methodLink RX9 280 yX9_wanted, Cond.instanceMethod yX9_wanted, Cond.selects RX9 yX9_wanted yX9_wanted, Cond.code yX9_wanted cX9_wanted 2 (some .int), Cond.methodLink RX9 277 yX9_doesWant, Cond.instanceMethod yX9_doesWant, Cond.selects RX9 yX9_doesWant yX9_doesWant, Cond.code yX9_doesWant cX9_doesWant 6 (some .boolean), Cond.methodLink RL 85 yX8_lose, Cond.instanceMethod yX8_lose, Cond.selects RX8 yX8_lose yX8_lose, Cond.code yX8_lose cX8_lose 3 (some .int), Cond.methodLink RX8 233 yX6_firstUnwanted, Cond.instanceMethod yX6_firstUnwanted, Cond.selects RX6 yX6_firstUnwanted yX6_firstUnwanted, Cond.code yX6_firstUnwanted cX6_firstUnwanted 3 (some .int), Cond.methodLink RX8 236 yX6_firstUnwantedByBoth, Cond.instanceMethod yX6_firstUnwantedByBoth, Cond.selects RX6 yX6_firstUnwantedByBoth yX6_firstUnwantedByBoth, Cond.code yX6_firstUnwantedByBoth cX6_firstUnwantedByBoth 2 (some .int), Cond.methodLink RX6 139 yX6_losers, Cond.methodLink RX8 239 yX6_howManyUnwanted, Cond.instanceMethod yX6_howManyUnwanted, Cond.selects RX6 yX6_howManyUnwanted yX6_howManyUnwanted]
def wsL_law_r37 : List Cond := [Cond.code yX6_howManyUnwanted cX6_howManyUnwanted 4 (some .int), Cond.methodLink RL 88 yX9_lose, Cond.instanceMethod yX9_lose, Cond.selects RX9 yX9_lose yX9_lose, Cond.code yX9_lose cX9_lose 8 (some .int), Cond.methodLink RL 89 yX8_odds, Cond.instanceMethod yX8_odds, Cond.selects RX8 yX8_odds yX8_odds, Cond.code yX8_odds cX8_odds 4 (some .long), Cond.methodLink RX8 242 yX6_growPlace, Cond.instanceMethod yX6_growPlace, Cond.selects RX6 yX6_growPlace yX6_growPlace, Cond.code yX6_growPlace cX6_growPlace 6 none, Cond.methodLink RX8 246 yX6_allChances, Cond.methodLink RL 93 yX9_odds, Cond.instanceMethod yX9_odds, Cond.selects RX9 yX9_odds yX9_odds, Cond.code yX9_odds cX9_odds 7 (some .long), Cond.methodLink RL 94 yX8_play, Cond.instanceMethod yX8_play, Cond.selects RX8 yX8_play yX8_play, Cond.code yX8_play cX8_play 3 (some .int), Cond.fieldLink RX8 252 "LosingLeague$Tree" "pair" "I", Cond.fieldLink RX8 255 "LosingLeague$Tree" "settled" "Z"]
def wsL_law_r38 : List Cond := [Cond.fieldLink RX8 259 "LosingLeague$Tree" "open" "[I", Cond.methodLink RX8 249 yX6_playBack, Cond.instanceMethod yX6_playBack, Cond.selects RX6 yX6_playBack yX6_playBack, Cond.code yX6_playBack cX6_playBack 3 none, Cond.fieldLink RX6 161 "LosingLeague$Tree" "pair" "I", Cond.methodLink RX6 155 yX6_weighPairs, Cond.instanceMethod yX6_weighPairs, Cond.selects RX6 yX6_weighPairs yX6_weighPairs, Cond.code yX6_weighPairs cX6_weighPairs 5 none, Cond.methodLink RX6 158 yX6_choosePair, Cond.instanceMethod yX6_choosePair, Cond.selects RX6 yX6_choosePair yX6_choosePair, Cond.code yX6_choosePair cX6_choosePair 4 none, Cond.fieldLink RX6 167 "LosingLeague$Tree" "settled" "Z", Cond.methodLink RX6 171 yX6_gains, Cond.instanceMethod yX6_gains, Cond.selects RX6 yX6_gains yX6_gains, Cond.code yX6_gains cX6_gains 9 (some .boolean), Cond.methodLink RX6 151 yX6_join, Cond.instanceMethod yX6_join, Cond.selects RX6 yX6_join yX6_join, Cond.code yX6_join cX6_join 5 none, Cond.methodLink RL 97 yX9_play]
def wsL_law_r39 : List Cond := [Cond.instanceMethod yX9_play, Cond.selects RX9 yX9_play yX9_play, Cond.code yX9_play cX9_play 3 (some .int), Cond.fieldLink RX9 289 "LosingLeagueModel" "pair" "I", Cond.fieldLink RX9 286 "LosingLeagueModel" "isPair" "Z", Cond.methodLink RX9 314 yX9_layBack, Cond.instanceMethod yX9_layBack, Cond.selects RX9 yX9_layBack yX9_layBack, Cond.code yX9_layBack cX9_layBack 6 none, Cond.fieldLink RX9 283 "LosingLeagueModel" "leaves" "J", Cond.methodLink RX9 296 yX9_layLeaves, Cond.instanceMethod yX9_layLeaves, Cond.selects RX9 yX9_layLeaves yX9_layLeaves, Cond.code yX9_layLeaves cX9_layLeaves 3 none, Cond.methodLink RX9 299 yX9_findPair, Cond.instanceMethod yX9_findPair, Cond.selects RX9 yX9_findPair yX9_findPair, Cond.code yX9_findPair cX9_findPair 12 none, Cond.methodLink RX9 292 yX9_mean, Cond.instanceMethod yX9_mean, Cond.selects RX9 yX9_mean yX9_mean, Cond.code yX9_mean cX9_mean 4 (some .long), Cond.methodLink RX9 302 yX9_lookAt, Cond.instanceMethod yX9_lookAt]
def wsL_law_r40 : List Cond := [Cond.selects RX9 yX9_lookAt yX9_lookAt, Cond.code yX9_lookAt cX9_lookAt 6 none, Cond.fieldLink RX9 305 "LosingLeagueModel" "looked" "I", Cond.fieldLink RX9 308 "LosingLeagueModel" "wantedMany" "I", Cond.fieldLink RX9 311 "LosingLeagueModel" "wantedFirst" "I", Cond.methodLink RL 98 yX8_played, Cond.instanceMethod yX8_played, Cond.selects RX8 yX8_played yX8_played, Cond.code yX8_played cX8_played 3 (some .long), Cond.fieldLink RX8 262 "LosingLeague$Tree" "value" "[J", Cond.methodLink RL 101 yX9_played, Cond.instanceMethod yX9_played, Cond.selects RX9 yX9_played yX9_played, Cond.code yX9_played cX9_played 3 (some .long), Cond.methodLink RL 102 yX8_pays, Cond.instanceMethod yX8_pays, Cond.selects RX8 yX8_pays yX8_pays, Cond.code yX8_pays cX8_pays 2 (some .int), Cond.fieldLink RX8 269 "LosingLeague$Tree" "unwanted" "I", Cond.fieldLink RX8 272 "LosingLeague$Tree" "firstPaying" "I", Cond.fieldLink RX8 275 "LosingLeague$Tree" "depth" "I", Cond.methodLink RX8 266 yX6_countBack, Cond.instanceMethod yX6_countBack, Cond.selects RX6 yX6_countBack yX6_countBack]
def wsL_law_r41 : List Cond := [Cond.code yX6_countBack cX6_countBack 4 none, Cond.fieldLink RX6 142 "LosingLeague$Tree" "unwanted" "I", Cond.fieldLink RX6 145 "LosingLeague$Tree" "firstPaying" "I", Cond.methodLink RX6 148 yX6_losersAt, Cond.instanceMethod yX6_losersAt, Cond.selects RX6 yX6_losersAt yX6_losersAt, Cond.code yX6_losersAt cX6_losersAt 8 (some .int), Cond.methodLink RL 105 yX9_pays, Cond.instanceMethod yX9_pays, Cond.selects RX9 yX9_pays yX9_pays, Cond.code yX9_pays cX9_pays 2 (some .int), Cond.methodLink RL 106 yX8_years, Cond.instanceMethod yX8_years, Cond.selects RX8 yX8_years yX8_years, Cond.code yX8_years cX8_years 5 (some .int), Cond.fieldLink RX8 282 "LosingLeague$Years" "champion" "I", Cond.fieldLink RX8 285 "LosingLeague$Years" "champions" "I", Cond.fieldLink RX8 293 "LosingLeague$Years" "gap" "I", Cond.fieldLink RX8 296 "LosingLeague$Years" "widestGap" "I", Cond.fieldLink RX8 299 "LosingLeague$Years" "fewest" "I", Cond.fieldLink RX8 302 "LosingLeague$Years" "strength" "[I", Cond.methodLink RX8 278 yX7_pass, Cond.instanceMethod yX7_pass, Cond.selects RX7 yX7_pass yX7_pass]
def wsL_law_r42 : List Cond := [Cond.code yX7_pass cX7_pass 5 none, Cond.fieldLink RX7 32 "LosingLeague$Years" "seed" "I", Cond.fieldLink RX7 36 "LosingLeague$Years" "champions" "I", Cond.fieldLink RX7 39 "LosingLeague$Years" "widestGap" "I", Cond.fieldLink RX7 42 "LosingLeague$Years" "fewest" "I", Cond.fieldLink RX7 45 "LosingLeague$Rules" "strength" "[I", Cond.fieldLink RX7 48 "LosingLeague$Games" "size" "I", Cond.fieldLink RX7 51 "LosingLeague$Rules" "sides" "I", Cond.fieldLink RX7 72 "LosingLeague$Years" "gap" "I", Cond.methodLink RX7 75 Lib.Math.max.name, Cond.methodLink RX7 54 yX0_addRound, Cond.methodLink RX7 58 yX7_playSeason, Cond.instanceMethod yX7_playSeason, Cond.selects RX7 yX7_playSeason yX7_playSeason, Cond.code yX7_playSeason cX7_playSeason 4 none, Cond.fieldLink RX7 82 "LosingLeague$Games" "first" "[I", Cond.fieldLink RX7 85 "LosingLeague$Games" "second" "[I", Cond.fieldLink RX7 91 "LosingLeague$Games" "ending" "[I", Cond.methodLink RX7 94 yX7_draw, Cond.instanceMethod yX7_draw, Cond.selects RX7 yX7_draw yX7_draw, Cond.code yX7_draw cX7_draw 3 (some .int), Cond.constant RX7 81 (1103515245), Cond.methodLink RX7 97 yX4_settle]
def wsL_law_r43 : List Cond := [Cond.methodLink RX7 61 yX7_noteEnds, Cond.instanceMethod yX7_noteEnds, Cond.selects RX7 yX7_noteEnds yX7_noteEnds, Cond.code yX7_noteEnds cX7_noteEnds 3 none, Cond.fieldLink RX7 101 "LosingLeague$Standing" "order" "[I", Cond.fieldLink RX7 104 "LosingLeague$Years" "champion" "I", Cond.methodLink RX7 107 Lib.Math.min.name, Cond.methodLink RX7 110 yX4_fromLast, Cond.methodLink RX7 64 yX7_shareBoys, Cond.instanceMethod yX7_shareBoys, Cond.selects RX7 yX7_shareBoys yX7_shareBoys, Cond.code yX7_shareBoys cX7_shareBoys 5 none, Cond.fieldLink RX7 117 "LosingLeague$Rules" "kind" "I", Cond.fieldLink RX7 128 "LosingLeague$Standing" "turn" "[I", Cond.fieldLink RX7 131 "LosingLeague$Rules" "choiceWorth" "[I", Cond.methodLink RX7 113 yX4_findOut, Cond.methodLink RX7 120 yX7_drawBall, Cond.instanceMethod yX7_drawBall, Cond.selects RX7 yX7_drawBall yX7_drawBall, Cond.code yX7_drawBall cX7_drawBall 4 (some .int), Cond.fieldLink RX7 138 "LosingLeague$Rules" "balls" "[I", Cond.methodLink RX7 134 yX2_allBalls, Cond.methodLink RX7 124 yX4_arrange, Cond.methodLink RX7 68 yX7_gapOf]
def wsL_law_r44 : List Cond := [Cond.instanceMethod yX7_gapOf, Cond.selects RX7 yX7_gapOf yX7_gapOf, Cond.code yX7_gapOf cX7_gapOf 5 (some .int), Cond.methodLink RX8 288 yJ6_bitCount_0f7a4, Cond.methodLink RL 110 yX9_years, Cond.instanceMethod yX9_years, Cond.selects RX9 yX9_years yX9_years, Cond.code yX9_years cX9_years 8 (some .int), Cond.constantLong RX9 331 (40), Cond.constantLong RX9 333 (4), Cond.fieldLink RX9 318 "LosingLeagueModel" "seed" "I", Cond.fieldLink RX9 328 "LosingLeagueModel" "widest" "I", Cond.methodLink RX9 335 yX9_oneYear, Cond.instanceMethod yX9_oneYear, Cond.selects RX9 yX9_oneYear yX9_oneYear, Cond.code yX9_oneYear cX9_oneYear 6 none, Cond.methodLink RX9 322 yX9_drawOf, Cond.instanceMethod yX9_drawOf, Cond.selects RX9 yX9_drawOf yX9_drawOf, Cond.code yX9_drawOf cX9_drawOf 2 (some .int), Cond.constant RX9 321 (1103515245), Cond.methodLink RX9 325 yX9_apart, Cond.instanceMethod yX9_apart, Cond.selects RX9 yX9_apart yX9_apart]
def wsL_law_r45 : List Cond := [Cond.code yX9_apart cX9_apart 4 (some .int), Cond.methodLink RL 111 yX8_thumbs, Cond.instanceMethod yX8_thumbs, Cond.selects RX8 yX8_thumbs yX8_thumbs, Cond.code yX8_thumbs cX8_thumbs 4 (some .long), Cond.methodLink RX8 303 yX8_restedOrMore, Cond.static yX8_restedOrMore, Cond.code yX8_restedOrMore cX8_restedOrMore 7 (some .long), Cond.methodLink RX8 307 yX8_power, Cond.static yX8_power, Cond.code yX8_power cX8_power 5 (some .long), Cond.methodLink RL 114 yX9_thumbs, Cond.instanceMethod yX9_thumbs, Cond.selects RX9 yX9_thumbs yX9_thumbs, Cond.code yX9_thumbs cX9_thumbs 4 (some .long), Cond.constantLong RX9 342 (20), Cond.methodLink RX9 344 yX9_thumbUp, Cond.static yX9_thumbUp, Cond.code yX9_thumbUp cX9_thumbUp 8 (some .long), Cond.constantLong RX9 338 (5), Cond.methodLink RX9 347 yX9_sixes, Cond.static yX9_sixes, Cond.code yX9_sixes cX9_sixes 4 (some .long), Cond.constantLong RX9 340 (6)]
def wsL_law_r46 : List Cond := [Cond.methodLink RL 115 yX8_fine, Cond.instanceMethod yX8_fine, Cond.selects RX8 yX8_fine yX8_fine, Cond.code yX8_fine cX8_fine 6 (some .int), Cond.methodLink RL 118 yX9_fine, Cond.instanceMethod yX9_fine, Cond.selects RX9 yX9_fine yX9_fine, Cond.code yX9_fine cX9_fine 4 (some .int), Cond.constantLong RX9 351 (1000), Cond.methodLink RL 119 yX8_sheet, Cond.instanceMethod yX8_sheet, Cond.selects RX8 yX8_sheet yX8_sheet, Cond.code yX8_sheet cX8_sheet 4 (some .int), Cond.methodLink RX8 310 yX8_isSheet, Cond.static yX8_isSheet, Cond.code yX8_isSheet cX8_isSheet 1 (some .boolean), Cond.methodLink RX8 313 yX8_isLane, Cond.static yX8_isLane, Cond.code yX8_isLane cX8_isLane 1 (some .boolean), Cond.methodLink RX8 316 yX3_renew, Cond.instanceMethod yX3_renew, Cond.selects RX3 yX3_renew yX3_renew, Cond.code yX3_renew cX3_renew 4 none, Cond.fieldLink RX3 15 "LosingLeague$Sheet" "exists" "Z"]
def wsL_law_r47 : List Cond := [Cond.fieldLink RX3 19 "LosingLeague$Sheet" "lane" "I", Cond.fieldLink RX3 23 "LosingLeague$Sheet" "length" "I", Cond.methodLink RL 122 yX9_sheet, Cond.instanceMethod yX9_sheet, Cond.selects RX9 yX9_sheet yX9_sheet, Cond.code yX9_sheet cX9_sheet 5 (some .int), Cond.constantLong RX9 353 (3), Cond.methodLink RL 123 yX8_lay, Cond.instanceMethod yX8_lay, Cond.selects RX8 yX8_lay yX8_lay, Cond.code yX8_lay cX8_lay 5 (some .int), Cond.fieldLink RX8 320 "LosingLeague$Sheet" "exists" "Z", Cond.methodLink RX8 323 yX3_has, Cond.instanceMethod yX3_has, Cond.selects RX3 yX3_has yX3_has, Cond.code yX3_has cX3_has 2 (some .boolean), Cond.methodLink RX8 324 yX3_put, Cond.instanceMethod yX3_put, Cond.selects RX3 yX3_put yX3_put, Cond.code yX3_put cX3_put 3 none, Cond.methodLink RL 126 yX9_lay, Cond.instanceMethod yX9_lay, Cond.selects RX9 yX9_lay yX9_lay, Cond.code yX9_lay cX9_lay 4 (some .int)]
def wsL_law_r48 : List Cond := [Cond.methodLink RL 127 yX8_read, Cond.instanceMethod yX8_read, Cond.selects RX8 yX8_read yX8_read, Cond.code yX8_read cX8_read 10 (some .int), Cond.fieldLink RX8 330 "LosingLeague$Sheet" "cells" "[I", Cond.fieldLink RX8 336 "LosingLeague" "readFault" "I", Cond.methodLink RX8 326 yX3_readable, Cond.instanceMethod yX3_readable, Cond.selects RX3 yX3_readable yX3_readable, Cond.code yX3_readable cX3_readable 4 (some .int), Cond.methodLink RX3 30 Lib.Math.min.name, Cond.methodLink RX3 26 yX3_has, Cond.methodLink RX8 333 yX3_machineFault, Cond.instanceMethod yX3_machineFault, Cond.selects RX3 yX3_machineFault yX3_machineFault, Cond.code yX3_machineFault cX3_machineFault 4 (some .int), Cond.methodLink RX8 339 yX8_takeEnds, Cond.instanceMethod yX8_takeEnds, Cond.selects RX8 yX8_takeEnds yX8_takeEnds, Cond.code yX8_takeEnds cX8_takeEnds 8 (some .int), Cond.methodLink RL 131 yX9_read, Cond.instanceMethod yX9_read, Cond.selects RX9 yX9_read yX9_read, Cond.code yX9_read cX9_read 11 (some .int)]
def wsL_law_r49 : List Cond := [Cond.constantLong RX9 355 (30), Cond.fieldLink RX9 357 "LosingLeagueModel" "torn" "I", Cond.methodLink RL 132 yX8_torn, Cond.instanceMethod yX8_torn, Cond.selects RX8 yX8_torn yX8_torn, Cond.code yX8_torn cX8_torn 1 (some .int), Cond.methodLink RL 135 yX9_torn, Cond.instanceMethod yX9_torn, Cond.selects RX9 yX9_torn yX9_torn, Cond.code yX9_torn cX9_torn 1 (some .int), Cond.methodLink RL 136 yX8_count, Cond.instanceMethod yX8_count, Cond.selects RX8 yX8_count yX8_count, Cond.code yX8_count cX8_count 2 (some .int), Cond.fieldLink RX8 346 "LosingLeague$Sheet" "length" "I", Cond.methodLink RX8 343 yX2_allBalls, Cond.methodLink RL 139 yX9_count, Cond.instanceMethod yX9_count, Cond.selects RX9 yX9_count yX9_count, Cond.code yX9_count cX9_count 2 (some .int)]
def wsL_law : List Cond := (wsL_law_r1 ++ (wsL_law_r2 ++ (wsL_law_r3 ++ (wsL_law_r4 ++ (wsL_law_r5 ++ (wsL_law_r6 ++ (wsL_law_r7 ++ (wsL_law_r8 ++ (wsL_law_r9 ++ (wsL_law_r10 ++ (wsL_law_r11 ++ (wsL_law_r12 ++ (wsL_law_r13 ++ (wsL_law_r14 ++ (wsL_law_r15 ++ (wsL_law_r16 ++ (wsL_law_r17 ++ (wsL_law_r18 ++ (wsL_law_r19 ++ (wsL_law_r20 ++ (wsL_law_r21 ++ (wsL_law_r22 ++ (wsL_law_r23 ++ (wsL_law_r24 ++ (wsL_law_r25 ++ (wsL_law_r26 ++ (wsL_law_r27 ++ (wsL_law_r28 ++ (wsL_law_r29 ++ (wsL_law_r30 ++ (wsL_law_r31 ++ (wsL_law_r32 ++ (wsL_law_r33 ++ (wsL_law_r34 ++ (wsL_law_r35 ++ (wsL_law_r36 ++ (wsL_law_r37 ++ (wsL_law_r38 ++ (wsL_law_r39 ++ (wsL_law_r40 ++ (wsL_law_r41 ++ (wsL_law_r42 ++ (wsL_law_r43 ++ (wsL_law_r44 ++ (wsL_law_r45 ++ (wsL_law_r46 ++ (wsL_law_r47 ++ (wsL_law_r48 ++ wsL_law_r49)))))))))))))))))))))))))))))))))))))))))))))))) ++ wsX80 ++ wsX90 ++ wsX20 ++ wsX00 ++ wsX40 ++ wsX10 ++ wsX60 ++ wsX70 ++ wsX30 ++ wsX50 ++ ([] : List Cond)
theorem inlX0 : ∀ w ∈ wsX00, w ∈ wsL_law := fun _ h => List.mem_append_left _ (List.mem_append_left _ (List.mem_append_left _ (List.mem_append_left _ (List.mem_append_left _ (List.mem_append_left _ (List.mem_append_left _ (List.mem_append_right _ h)))))))
theorem inlX1 : ∀ w ∈ wsX10, w ∈ wsL_law := fun _ h => List.mem_append_left _ (List.mem_append_left _ (List.mem_append_left _ (List.mem_append_left _ (List.mem_append_left _ (List.mem_append_right _ h)))))
theorem inlX2 : ∀ w ∈ wsX20, w ∈ wsL_law := fun _ h => List.mem_append_left _ (List.mem_append_left _ (List.mem_append_left _ (List.mem_append_left _ (List.mem_append_left _ (List.mem_append_left _ (List.mem_append_left _ (List.mem_append_left _ (List.mem_append_right _ h))))))))
theorem inlX3 : ∀ w ∈ wsX30, w ∈ wsL_law := fun _ h => List.mem_append_left _ (List.mem_append_left _ (List.mem_append_right _ h))
theorem inlX4 : ∀ w ∈ wsX40, w ∈ wsL_law := fun _ h => List.mem_append_left _ (List.mem_append_left _ (List.mem_append_left _ (List.mem_append_left _ (List.mem_append_left _ (List.mem_append_left _ (List.mem_append_right _ h))))))
theorem inlX5 : ∀ w ∈ wsX50, w ∈ wsL_law := fun _ h => List.mem_append_left _ (List.mem_append_right _ h)
theorem inlX6 : ∀ w ∈ wsX60, w ∈ wsL_law := fun _ h => List.mem_append_left _ (List.mem_append_left _ (List.mem_append_left _ (List.mem_append_left _ (List.mem_append_right _ h))))
theorem inlX7 : ∀ w ∈ wsX70, w ∈ wsL_law := fun _ h => List.mem_append_left _ (List.mem_append_left _ (List.mem_append_left _ (List.mem_append_right _ h)))
theorem inlX8 : ∀ w ∈ wsX80, w ∈ wsL_law := fun _ h => List.mem_append_left _ (List.mem_append_left _ (List.mem_append_left _ (List.mem_append_left _ (List.mem_append_left _ (List.mem_append_left _ (List.mem_append_left _ (List.mem_append_left _ (List.mem_append_left _ (List.mem_append_left _ (List.mem_append_right _ h))))))))))
theorem inlX9 : ∀ w ∈ wsX90, w ∈ wsL_law := fun _ h => List.mem_append_left _ (List.mem_append_left _ (List.mem_append_left _ (List.mem_append_left _ (List.mem_append_left _ (List.mem_append_left _ (List.mem_append_left _ (List.mem_append_left _ (List.mem_append_left _ (List.mem_append_right _ h)))))))))
theorem hR1 (i : Nat) {w : Cond} (e : wsL_law_r1[i]? = some w) : w ∈ wsL_law := have h := List.mem_of_getElem? e; (List.mem_append_left _ (List.mem_append_left _ (List.mem_append_left _ (List.mem_append_left _ (List.mem_append_left _ (List.mem_append_left _ (List.mem_append_left _ (List.mem_append_left _ (List.mem_append_left _ (List.mem_append_left _ (List.mem_append_left _ (List.mem_append_left _ h))))))))))))
theorem hR2 (i : Nat) {w : Cond} (e : wsL_law_r2[i]? = some w) : w ∈ wsL_law := have h := List.mem_of_getElem? e; (List.mem_append_left _ (List.mem_append_left _ (List.mem_append_left _ (List.mem_append_left _ (List.mem_append_left _ (List.mem_append_left _ (List.mem_append_left _ (List.mem_append_left _ (List.mem_append_left _ (List.mem_append_left _ (List.mem_append_left _ (List.mem_append_right _ (List.mem_append_left _ h)))))))))))))
theorem hR3 (i : Nat) {w : Cond} (e : wsL_law_r3[i]? = some w) : w ∈ wsL_law := have h := List.mem_of_getElem? e; (List.mem_append_left _ (List.mem_append_left _ (List.mem_append_left _ (List.mem_append_left _ (List.mem_append_left _ (List.mem_append_left _ (List.mem_append_left _ (List.mem_append_left _ (List.mem_append_left _ (List.mem_append_left _ (List.mem_append_left _ (List.mem_append_right _ (List.mem_append_right _ (List.mem_append_left _ h))))))))))))))
theorem hR4 (i : Nat) {w : Cond} (e : wsL_law_r4[i]? = some w) : w ∈ wsL_law := have h := List.mem_of_getElem? e; (List.mem_append_left _ (List.mem_append_left _ (List.mem_append_left _ (List.mem_append_left _ (List.mem_append_left _ (List.mem_append_left _ (List.mem_append_left _ (List.mem_append_left _ (List.mem_append_left _ (List.mem_append_left _ (List.mem_append_left _ (List.mem_append_right _ (List.mem_append_right _ (List.mem_append_right _ (List.mem_append_left _ h)))))))))))))))
theorem hR5 (i : Nat) {w : Cond} (e : wsL_law_r5[i]? = some w) : w ∈ wsL_law := have h := List.mem_of_getElem? e; (List.mem_append_left _ (List.mem_append_left _ (List.mem_append_left _ (List.mem_append_left _ (List.mem_append_left _ (List.mem_append_left _ (List.mem_append_left _ (List.mem_append_left _ (List.mem_append_left _ (List.mem_append_left _ (List.mem_append_left _ (List.mem_append_right _ (List.mem_append_right _ (List.mem_append_right _ (List.mem_append_right _ (List.mem_append_left _ h))))))))))))))))
theorem hR6 (i : Nat) {w : Cond} (e : wsL_law_r6[i]? = some w) : w ∈ wsL_law := have h := List.mem_of_getElem? e; (List.mem_append_left _ (List.mem_append_left _ (List.mem_append_left _ (List.mem_append_left _ (List.mem_append_left _ (List.mem_append_left _ (List.mem_append_left _ (List.mem_append_left _ (List.mem_append_left _ (List.mem_append_left _ (List.mem_append_left _ (List.mem_append_right _ (List.mem_append_right _ (List.mem_append_right _ (List.mem_append_right _ (List.mem_append_right _ (List.mem_append_left _ h)))))))))))))))))
theorem hR7 (i : Nat) {w : Cond} (e : wsL_law_r7[i]? = some w) : w ∈ wsL_law := have h := List.mem_of_getElem? e; (List.mem_append_left _ (List.mem_append_left _ (List.mem_append_left _ (List.mem_append_left _ (List.mem_append_left _ (List.mem_append_left _ (List.mem_append_left _ (List.mem_append_left _ (List.mem_append_left _ (List.mem_append_left _ (List.mem_append_left _ (List.mem_append_right _ (List.mem_append_right _ (List.mem_append_right _ (List.mem_append_right _ (List.mem_append_right _ (List.mem_append_right _ (List.mem_append_left _ h))))))))))))))))))
theorem hR8 (i : Nat) {w : Cond} (e : wsL_law_r8[i]? = some w) : w ∈ wsL_law := have h := List.mem_of_getElem? e; (List.mem_append_left _ (List.mem_append_left _ (List.mem_append_left _ (List.mem_append_left _ (List.mem_append_left _ (List.mem_append_left _ (List.mem_append_left _ (List.mem_append_left _ (List.mem_append_left _ (List.mem_append_left _ (List.mem_append_left _ (List.mem_append_right _ (List.mem_append_right _ (List.mem_append_right _ (List.mem_append_right _ (List.mem_append_right _ (List.mem_append_right _ (List.mem_append_right _ (List.mem_append_left _ h)))))))))))))))))))
theorem hR9 (i : Nat) {w : Cond} (e : wsL_law_r9[i]? = some w) : w ∈ wsL_law := have h := List.mem_of_getElem? e; (List.mem_append_left _ (List.mem_append_left _ (List.mem_append_left _ (List.mem_append_left _ (List.mem_append_left _ (List.mem_append_left _ (List.mem_append_left _ (List.mem_append_left _ (List.mem_append_left _ (List.mem_append_left _ (List.mem_append_left _ (List.mem_append_right _ (List.mem_append_right _ (List.mem_append_right _ (List.mem_append_right _ (List.mem_append_right _ (List.mem_append_right _ (List.mem_append_right _ (List.mem_append_right _ (List.mem_append_left _ h))))))))))))))))))))
theorem hR10 (i : Nat) {w : Cond} (e : wsL_law_r10[i]? = some w) : w ∈ wsL_law := have h := List.mem_of_getElem? e; (List.mem_append_left _ (List.mem_append_left _ (List.mem_append_left _ (List.mem_append_left _ (List.mem_append_left _ (List.mem_append_left _ (List.mem_append_left _ (List.mem_append_left _ (List.mem_append_left _ (List.mem_append_left _ (List.mem_append_left _ (List.mem_append_right _ (List.mem_append_right _ (List.mem_append_right _ (List.mem_append_right _ (List.mem_append_right _ (List.mem_append_right _ (List.mem_append_right _ (List.mem_append_right _ (List.mem_append_right _ (List.mem_append_left _ h)))))))))))))))))))))
theorem hR11 (i : Nat) {w : Cond} (e : wsL_law_r11[i]? = some w) : w ∈ wsL_law := have h := List.mem_of_getElem? e; (List.mem_append_left _ (List.mem_append_left _ (List.mem_append_left _ (List.mem_append_left _ (List.mem_append_left _ (List.mem_append_left _ (List.mem_append_left _ (List.mem_append_left _ (List.mem_append_left _ (List.mem_append_left _ (List.mem_append_left _ (List.mem_append_right _ (List.mem_append_right _ (List.mem_append_right _ (List.mem_append_right _ (List.mem_append_right _ (List.mem_append_right _ (List.mem_append_right _ (List.mem_append_right _ (List.mem_append_right _ (List.mem_append_right _ (List.mem_append_left _ h))))))))))))))))))))))
theorem hR12 (i : Nat) {w : Cond} (e : wsL_law_r12[i]? = some w) : w ∈ wsL_law := have h := List.mem_of_getElem? e; (List.mem_append_left _ (List.mem_append_left _ (List.mem_append_left _ (List.mem_append_left _ (List.mem_append_left _ (List.mem_append_left _ (List.mem_append_left _ (List.mem_append_left _ (List.mem_append_left _ (List.mem_append_left _ (List.mem_append_left _ (List.mem_append_right _ (List.mem_append_right _ (List.mem_append_right _ (List.mem_append_right _ (List.mem_append_right _ (List.mem_append_right _ (List.mem_append_right _ (List.mem_append_right _ (List.mem_append_right _ (List.mem_append_right _ (List.mem_append_right _ (List.mem_append_left _ h)))))))))))))))))))))))
theorem hR13 (i : Nat) {w : Cond} (e : wsL_law_r13[i]? = some w) : w ∈ wsL_law := have h := List.mem_of_getElem? e; (List.mem_append_left _ (List.mem_append_left _ (List.mem_append_left _ (List.mem_append_left _ (List.mem_append_left _ (List.mem_append_left _ (List.mem_append_left _ (List.mem_append_left _ (List.mem_append_left _ (List.mem_append_left _ (List.mem_append_left _ (List.mem_append_right _ (List.mem_append_right _ (List.mem_append_right _ (List.mem_append_right _ (List.mem_append_right _ (List.mem_append_right _ (List.mem_append_right _ (List.mem_append_right _ (List.mem_append_right _ (List.mem_append_right _ (List.mem_append_right _ (List.mem_append_right _ (List.mem_append_left _ h))))))))))))))))))))))))
theorem hR14 (i : Nat) {w : Cond} (e : wsL_law_r14[i]? = some w) : w ∈ wsL_law := have h := List.mem_of_getElem? e; (List.mem_append_left _ (List.mem_append_left _ (List.mem_append_left _ (List.mem_append_left _ (List.mem_append_left _ (List.mem_append_left _ (List.mem_append_left _ (List.mem_append_left _ (List.mem_append_left _ (List.mem_append_left _ (List.mem_append_left _ (List.mem_append_right _ (List.mem_append_right _ (List.mem_append_right _ (List.mem_append_right _ (List.mem_append_right _ (List.mem_append_right _ (List.mem_append_right _ (List.mem_append_right _ (List.mem_append_right _ (List.mem_append_right _ (List.mem_append_right _ (List.mem_append_right _ (List.mem_append_right _ (List.mem_append_left _ h)))))))))))))))))))))))))
theorem hR15 (i : Nat) {w : Cond} (e : wsL_law_r15[i]? = some w) : w ∈ wsL_law := have h := List.mem_of_getElem? e; (List.mem_append_left _ (List.mem_append_left _ (List.mem_append_left _ (List.mem_append_left _ (List.mem_append_left _ (List.mem_append_left _ (List.mem_append_left _ (List.mem_append_left _ (List.mem_append_left _ (List.mem_append_left _ (List.mem_append_left _ (List.mem_append_right _ (List.mem_append_right _ (List.mem_append_right _ (List.mem_append_right _ (List.mem_append_right _ (List.mem_append_right _ (List.mem_append_right _ (List.mem_append_right _ (List.mem_append_right _ (List.mem_append_right _ (List.mem_append_right _ (List.mem_append_right _ (List.mem_append_right _ (List.mem_append_right _ (List.mem_append_left _ h))))))))))))))))))))))))))
theorem hR16 (i : Nat) {w : Cond} (e : wsL_law_r16[i]? = some w) : w ∈ wsL_law := have h := List.mem_of_getElem? e; (List.mem_append_left _ (List.mem_append_left _ (List.mem_append_left _ (List.mem_append_left _ (List.mem_append_left _ (List.mem_append_left _ (List.mem_append_left _ (List.mem_append_left _ (List.mem_append_left _ (List.mem_append_left _ (List.mem_append_left _ (List.mem_append_right _ (List.mem_append_right _ (List.mem_append_right _ (List.mem_append_right _ (List.mem_append_right _ (List.mem_append_right _ (List.mem_append_right _ (List.mem_append_right _ (List.mem_append_right _ (List.mem_append_right _ (List.mem_append_right _ (List.mem_append_right _ (List.mem_append_right _ (List.mem_append_right _ (List.mem_append_right _ (List.mem_append_left _ h)))))))))))))))))))))))))))
theorem hR17 (i : Nat) {w : Cond} (e : wsL_law_r17[i]? = some w) : w ∈ wsL_law := have h := List.mem_of_getElem? e; (List.mem_append_left _ (List.mem_append_left _ (List.mem_append_left _ (List.mem_append_left _ (List.mem_append_left _ (List.mem_append_left _ (List.mem_append_left _ (List.mem_append_left _ (List.mem_append_left _ (List.mem_append_left _ (List.mem_append_left _ (List.mem_append_right _ (List.mem_append_right _ (List.mem_append_right _ (List.mem_append_right _ (List.mem_append_right _ (List.mem_append_right _ (List.mem_append_right _ (List.mem_append_right _ (List.mem_append_right _ (List.mem_append_right _ (List.mem_append_right _ (List.mem_append_right _ (List.mem_append_right _ (List.mem_append_right _ (List.mem_append_right _ (List.mem_append_right _ (List.mem_append_left _ h))))))))))))))))))))))))))))
theorem hR18 (i : Nat) {w : Cond} (e : wsL_law_r18[i]? = some w) : w ∈ wsL_law := have h := List.mem_of_getElem? e; (List.mem_append_left _ (List.mem_append_left _ (List.mem_append_left _ (List.mem_append_left _ (List.mem_append_left _ (List.mem_append_left _ (List.mem_append_left _ (List.mem_append_left _ (List.mem_append_left _ (List.mem_append_left _ (List.mem_append_left _ (List.mem_append_right _ (List.mem_append_right _ (List.mem_append_right _ (List.mem_append_right _ (List.mem_append_right _ (List.mem_append_right _ (List.mem_append_right _ (List.mem_append_right _ (List.mem_append_right _ (List.mem_append_right _ (List.mem_append_right _ (List.mem_append_right _ (List.mem_append_right _ (List.mem_append_right _ (List.mem_append_right _ (List.mem_append_right _ (List.mem_append_right _ (List.mem_append_left _ h)))))))))))))))))))))))))))))
theorem hR19 (i : Nat) {w : Cond} (e : wsL_law_r19[i]? = some w) : w ∈ wsL_law := have h := List.mem_of_getElem? e; (List.mem_append_left _ (List.mem_append_left _ (List.mem_append_left _ (List.mem_append_left _ (List.mem_append_left _ (List.mem_append_left _ (List.mem_append_left _ (List.mem_append_left _ (List.mem_append_left _ (List.mem_append_left _ (List.mem_append_left _ (List.mem_append_right _ (List.mem_append_right _ (List.mem_append_right _ (List.mem_append_right _ (List.mem_append_right _ (List.mem_append_right _ (List.mem_append_right _ (List.mem_append_right _ (List.mem_append_right _ (List.mem_append_right _ (List.mem_append_right _ (List.mem_append_right _ (List.mem_append_right _ (List.mem_append_right _ (List.mem_append_right _ (List.mem_append_right _ (List.mem_append_right _ (List.mem_append_right _ (List.mem_append_left _ h))))))))))))))))))))))))))))))
theorem hR20 (i : Nat) {w : Cond} (e : wsL_law_r20[i]? = some w) : w ∈ wsL_law := have h := List.mem_of_getElem? e; (List.mem_append_left _ (List.mem_append_left _ (List.mem_append_left _ (List.mem_append_left _ (List.mem_append_left _ (List.mem_append_left _ (List.mem_append_left _ (List.mem_append_left _ (List.mem_append_left _ (List.mem_append_left _ (List.mem_append_left _ (List.mem_append_right _ (List.mem_append_right _ (List.mem_append_right _ (List.mem_append_right _ (List.mem_append_right _ (List.mem_append_right _ (List.mem_append_right _ (List.mem_append_right _ (List.mem_append_right _ (List.mem_append_right _ (List.mem_append_right _ (List.mem_append_right _ (List.mem_append_right _ (List.mem_append_right _ (List.mem_append_right _ (List.mem_append_right _ (List.mem_append_right _ (List.mem_append_right _ (List.mem_append_right _ (List.mem_append_left _ h)))))))))))))))))))))))))))))))
theorem hR21 (i : Nat) {w : Cond} (e : wsL_law_r21[i]? = some w) : w ∈ wsL_law := have h := List.mem_of_getElem? e; (List.mem_append_left _ (List.mem_append_left _ (List.mem_append_left _ (List.mem_append_left _ (List.mem_append_left _ (List.mem_append_left _ (List.mem_append_left _ (List.mem_append_left _ (List.mem_append_left _ (List.mem_append_left _ (List.mem_append_left _ (List.mem_append_right _ (List.mem_append_right _ (List.mem_append_right _ (List.mem_append_right _ (List.mem_append_right _ (List.mem_append_right _ (List.mem_append_right _ (List.mem_append_right _ (List.mem_append_right _ (List.mem_append_right _ (List.mem_append_right _ (List.mem_append_right _ (List.mem_append_right _ (List.mem_append_right _ (List.mem_append_right _ (List.mem_append_right _ (List.mem_append_right _ (List.mem_append_right _ (List.mem_append_right _ (List.mem_append_right _ (List.mem_append_left _ h))))))))))))))))))))))))))))))))
theorem hR22 (i : Nat) {w : Cond} (e : wsL_law_r22[i]? = some w) : w ∈ wsL_law := have h := List.mem_of_getElem? e; (List.mem_append_left _ (List.mem_append_left _ (List.mem_append_left _ (List.mem_append_left _ (List.mem_append_left _ (List.mem_append_left _ (List.mem_append_left _ (List.mem_append_left _ (List.mem_append_left _ (List.mem_append_left _ (List.mem_append_left _ (List.mem_append_right _ (List.mem_append_right _ (List.mem_append_right _ (List.mem_append_right _ (List.mem_append_right _ (List.mem_append_right _ (List.mem_append_right _ (List.mem_append_right _ (List.mem_append_right _ (List.mem_append_right _ (List.mem_append_right _ (List.mem_append_right _ (List.mem_append_right _ (List.mem_append_right _ (List.mem_append_right _ (List.mem_append_right _ (List.mem_append_right _ (List.mem_append_right _ (List.mem_append_right _ (List.mem_append_right _ (List.mem_append_right _ (List.mem_append_left _ h)))))))))))))))))))))))))))))))))
theorem hR23 (i : Nat) {w : Cond} (e : wsL_law_r23[i]? = some w) : w ∈ wsL_law := have h := List.mem_of_getElem? e; (List.mem_append_left _ (List.mem_append_left _ (List.mem_append_left _ (List.mem_append_left _ (List.mem_append_left _ (List.mem_append_left _ (List.mem_append_left _ (List.mem_append_left _ (List.mem_append_left _ (List.mem_append_left _ (List.mem_append_left _ (List.mem_append_right _ (List.mem_append_right _ (List.mem_append_right _ (List.mem_append_right _ (List.mem_append_right _ (List.mem_append_right _ (List.mem_append_right _ (List.mem_append_right _ (List.mem_append_right _ (List.mem_append_right _ (List.mem_append_right _ (List.mem_append_right _ (List.mem_append_right _ (List.mem_append_right _ (List.mem_append_right _ (List.mem_append_right _ (List.mem_append_right _ (List.mem_append_right _ (List.mem_append_right _ (List.mem_append_right _ (List.mem_append_right _ (List.mem_append_right _ (List.mem_append_left _ h))))))))))))))))))))))))))))))))))
theorem hR24 (i : Nat) {w : Cond} (e : wsL_law_r24[i]? = some w) : w ∈ wsL_law := have h := List.mem_of_getElem? e; (List.mem_append_left _ (List.mem_append_left _ (List.mem_append_left _ (List.mem_append_left _ (List.mem_append_left _ (List.mem_append_left _ (List.mem_append_left _ (List.mem_append_left _ (List.mem_append_left _ (List.mem_append_left _ (List.mem_append_left _ (List.mem_append_right _ (List.mem_append_right _ (List.mem_append_right _ (List.mem_append_right _ (List.mem_append_right _ (List.mem_append_right _ (List.mem_append_right _ (List.mem_append_right _ (List.mem_append_right _ (List.mem_append_right _ (List.mem_append_right _ (List.mem_append_right _ (List.mem_append_right _ (List.mem_append_right _ (List.mem_append_right _ (List.mem_append_right _ (List.mem_append_right _ (List.mem_append_right _ (List.mem_append_right _ (List.mem_append_right _ (List.mem_append_right _ (List.mem_append_right _ (List.mem_append_right _ (List.mem_append_left _ h)))))))))))))))))))))))))))))))))))
theorem hR25 (i : Nat) {w : Cond} (e : wsL_law_r25[i]? = some w) : w ∈ wsL_law := have h := List.mem_of_getElem? e; (List.mem_append_left _ (List.mem_append_left _ (List.mem_append_left _ (List.mem_append_left _ (List.mem_append_left _ (List.mem_append_left _ (List.mem_append_left _ (List.mem_append_left _ (List.mem_append_left _ (List.mem_append_left _ (List.mem_append_left _ (List.mem_append_right _ (List.mem_append_right _ (List.mem_append_right _ (List.mem_append_right _ (List.mem_append_right _ (List.mem_append_right _ (List.mem_append_right _ (List.mem_append_right _ (List.mem_append_right _ (List.mem_append_right _ (List.mem_append_right _ (List.mem_append_right _ (List.mem_append_right _ (List.mem_append_right _ (List.mem_append_right _ (List.mem_append_right _ (List.mem_append_right _ (List.mem_append_right _ (List.mem_append_right _ (List.mem_append_right _ (List.mem_append_right _ (List.mem_append_right _ (List.mem_append_right _ (List.mem_append_right _ (List.mem_append_left _ h))))))))))))))))))))))))))))))))))))
theorem hR26 (i : Nat) {w : Cond} (e : wsL_law_r26[i]? = some w) : w ∈ wsL_law := have h := List.mem_of_getElem? e; (List.mem_append_left _ (List.mem_append_left _ (List.mem_append_left _ (List.mem_append_left _ (List.mem_append_left _ (List.mem_append_left _ (List.mem_append_left _ (List.mem_append_left _ (List.mem_append_left _ (List.mem_append_left _ (List.mem_append_left _ (List.mem_append_right _ (List.mem_append_right _ (List.mem_append_right _ (List.mem_append_right _ (List.mem_append_right _ (List.mem_append_right _ (List.mem_append_right _ (List.mem_append_right _ (List.mem_append_right _ (List.mem_append_right _ (List.mem_append_right _ (List.mem_append_right _ (List.mem_append_right _ (List.mem_append_right _ (List.mem_append_right _ (List.mem_append_right _ (List.mem_append_right _ (List.mem_append_right _ (List.mem_append_right _ (List.mem_append_right _ (List.mem_append_right _ (List.mem_append_right _ (List.mem_append_right _ (List.mem_append_right _ (List.mem_append_right _ (List.mem_append_left _ h)))))))))))))))))))))))))))))))))))))
theorem hR27 (i : Nat) {w : Cond} (e : wsL_law_r27[i]? = some w) : w ∈ wsL_law := have h := List.mem_of_getElem? e; (List.mem_append_left _ (List.mem_append_left _ (List.mem_append_left _ (List.mem_append_left _ (List.mem_append_left _ (List.mem_append_left _ (List.mem_append_left _ (List.mem_append_left _ (List.mem_append_left _ (List.mem_append_left _ (List.mem_append_left _ (List.mem_append_right _ (List.mem_append_right _ (List.mem_append_right _ (List.mem_append_right _ (List.mem_append_right _ (List.mem_append_right _ (List.mem_append_right _ (List.mem_append_right _ (List.mem_append_right _ (List.mem_append_right _ (List.mem_append_right _ (List.mem_append_right _ (List.mem_append_right _ (List.mem_append_right _ (List.mem_append_right _ (List.mem_append_right _ (List.mem_append_right _ (List.mem_append_right _ (List.mem_append_right _ (List.mem_append_right _ (List.mem_append_right _ (List.mem_append_right _ (List.mem_append_right _ (List.mem_append_right _ (List.mem_append_right _ (List.mem_append_right _ (List.mem_append_left _ h))))))))))))))))))))))))))))))))))))))
theorem hR28 (i : Nat) {w : Cond} (e : wsL_law_r28[i]? = some w) : w ∈ wsL_law := have h := List.mem_of_getElem? e; (List.mem_append_left _ (List.mem_append_left _ (List.mem_append_left _ (List.mem_append_left _ (List.mem_append_left _ (List.mem_append_left _ (List.mem_append_left _ (List.mem_append_left _ (List.mem_append_left _ (List.mem_append_left _ (List.mem_append_left _ (List.mem_append_right _ (List.mem_append_right _ (List.mem_append_right _ (List.mem_append_right _ (List.mem_append_right _ (List.mem_append_right _ (List.mem_append_right _ (List.mem_append_right _ (List.mem_append_right _ (List.mem_append_right _ (List.mem_append_right _ (List.mem_append_right _ (List.mem_append_right _ (List.mem_append_right _ (List.mem_append_right _ (List.mem_append_right _ (List.mem_append_right _ (List.mem_append_right _ (List.mem_append_right _ (List.mem_append_right _ (List.mem_append_right _ (List.mem_append_right _ (List.mem_append_right _ (List.mem_append_right _ (List.mem_append_right _ (List.mem_append_right _ (List.mem_append_right _ (List.mem_append_left _ h)))))))))))))))))))))))))))))))))))))))
theorem hR29 (i : Nat) {w : Cond} (e : wsL_law_r29[i]? = some w) : w ∈ wsL_law := have h := List.mem_of_getElem? e; (List.mem_append_left _ (List.mem_append_left _ (List.mem_append_left _ (List.mem_append_left _ (List.mem_append_left _ (List.mem_append_left _ (List.mem_append_left _ (List.mem_append_left _ (List.mem_append_left _ (List.mem_append_left _ (List.mem_append_left _ (List.mem_append_right _ (List.mem_append_right _ (List.mem_append_right _ (List.mem_append_right _ (List.mem_append_right _ (List.mem_append_right _ (List.mem_append_right _ (List.mem_append_right _ (List.mem_append_right _ (List.mem_append_right _ (List.mem_append_right _ (List.mem_append_right _ (List.mem_append_right _ (List.mem_append_right _ (List.mem_append_right _ (List.mem_append_right _ (List.mem_append_right _ (List.mem_append_right _ (List.mem_append_right _ (List.mem_append_right _ (List.mem_append_right _ (List.mem_append_right _ (List.mem_append_right _ (List.mem_append_right _ (List.mem_append_right _ (List.mem_append_right _ (List.mem_append_right _ (List.mem_append_right _ (List.mem_append_left _ h))))))))))))))))))))))))))))))))))))))))
theorem hR30 (i : Nat) {w : Cond} (e : wsL_law_r30[i]? = some w) : w ∈ wsL_law := have h := List.mem_of_getElem? e; (List.mem_append_left _ (List.mem_append_left _ (List.mem_append_left _ (List.mem_append_left _ (List.mem_append_left _ (List.mem_append_left _ (List.mem_append_left _ (List.mem_append_left _ (List.mem_append_left _ (List.mem_append_left _ (List.mem_append_left _ (List.mem_append_right _ (List.mem_append_right _ (List.mem_append_right _ (List.mem_append_right _ (List.mem_append_right _ (List.mem_append_right _ (List.mem_append_right _ (List.mem_append_right _ (List.mem_append_right _ (List.mem_append_right _ (List.mem_append_right _ (List.mem_append_right _ (List.mem_append_right _ (List.mem_append_right _ (List.mem_append_right _ (List.mem_append_right _ (List.mem_append_right _ (List.mem_append_right _ (List.mem_append_right _ (List.mem_append_right _ (List.mem_append_right _ (List.mem_append_right _ (List.mem_append_right _ (List.mem_append_right _ (List.mem_append_right _ (List.mem_append_right _ (List.mem_append_right _ (List.mem_append_right _ (List.mem_append_right _ (List.mem_append_left _ h)))))))))))))))))))))))))))))))))))))))))
theorem hR31 (i : Nat) {w : Cond} (e : wsL_law_r31[i]? = some w) : w ∈ wsL_law := have h := List.mem_of_getElem? e; (List.mem_append_left _ (List.mem_append_left _ (List.mem_append_left _ (List.mem_append_left _ (List.mem_append_left _ (List.mem_append_left _ (List.mem_append_left _ (List.mem_append_left _ (List.mem_append_left _ (List.mem_append_left _ (List.mem_append_left _ (List.mem_append_right _ (List.mem_append_right _ (List.mem_append_right _ (List.mem_append_right _ (List.mem_append_right _ (List.mem_append_right _ (List.mem_append_right _ (List.mem_append_right _ (List.mem_append_right _ (List.mem_append_right _ (List.mem_append_right _ (List.mem_append_right _ (List.mem_append_right _ (List.mem_append_right _ (List.mem_append_right _ (List.mem_append_right _ (List.mem_append_right _ (List.mem_append_right _ (List.mem_append_right _ (List.mem_append_right _ (List.mem_append_right _ (List.mem_append_right _ (List.mem_append_right _ (List.mem_append_right _ (List.mem_append_right _ (List.mem_append_right _ (List.mem_append_right _ (List.mem_append_right _ (List.mem_append_right _ (List.mem_append_right _ (List.mem_append_left _ h))))))))))))))))))))))))))))))))))))))))))
theorem hR32 (i : Nat) {w : Cond} (e : wsL_law_r32[i]? = some w) : w ∈ wsL_law := have h := List.mem_of_getElem? e; (List.mem_append_left _ (List.mem_append_left _ (List.mem_append_left _ (List.mem_append_left _ (List.mem_append_left _ (List.mem_append_left _ (List.mem_append_left _ (List.mem_append_left _ (List.mem_append_left _ (List.mem_append_left _ (List.mem_append_left _ (List.mem_append_right _ (List.mem_append_right _ (List.mem_append_right _ (List.mem_append_right _ (List.mem_append_right _ (List.mem_append_right _ (List.mem_append_right _ (List.mem_append_right _ (List.mem_append_right _ (List.mem_append_right _ (List.mem_append_right _ (List.mem_append_right _ (List.mem_append_right _ (List.mem_append_right _ (List.mem_append_right _ (List.mem_append_right _ (List.mem_append_right _ (List.mem_append_right _ (List.mem_append_right _ (List.mem_append_right _ (List.mem_append_right _ (List.mem_append_right _ (List.mem_append_right _ (List.mem_append_right _ (List.mem_append_right _ (List.mem_append_right _ (List.mem_append_right _ (List.mem_append_right _ (List.mem_append_right _ (List.mem_append_right _ (List.mem_append_right _ (List.mem_append_left _ h)))))))))))))))))))))))))))))))))))))))))))
theorem hR33 (i : Nat) {w : Cond} (e : wsL_law_r33[i]? = some w) : w ∈ wsL_law := have h := List.mem_of_getElem? e; (List.mem_append_left _ (List.mem_append_left _ (List.mem_append_left _ (List.mem_append_left _ (List.mem_append_left _ (List.mem_append_left _ (List.mem_append_left _ (List.mem_append_left _ (List.mem_append_left _ (List.mem_append_left _ (List.mem_append_left _ (List.mem_append_right _ (List.mem_append_right _ (List.mem_append_right _ (List.mem_append_right _ (List.mem_append_right _ (List.mem_append_right _ (List.mem_append_right _ (List.mem_append_right _ (List.mem_append_right _ (List.mem_append_right _ (List.mem_append_right _ (List.mem_append_right _ (List.mem_append_right _ (List.mem_append_right _ (List.mem_append_right _ (List.mem_append_right _ (List.mem_append_right _ (List.mem_append_right _ (List.mem_append_right _ (List.mem_append_right _ (List.mem_append_right _ (List.mem_append_right _ (List.mem_append_right _ (List.mem_append_right _ (List.mem_append_right _ (List.mem_append_right _ (List.mem_append_right _ (List.mem_append_right _ (List.mem_append_right _ (List.mem_append_right _ (List.mem_append_right _ (List.mem_append_right _ (List.mem_append_left _ h))))))))))))))))))))))))))))))))))))))))))))
theorem hR34 (i : Nat) {w : Cond} (e : wsL_law_r34[i]? = some w) : w ∈ wsL_law := have h := List.mem_of_getElem? e; (List.mem_append_left _ (List.mem_append_left _ (List.mem_append_left _ (List.mem_append_left _ (List.mem_append_left _ (List.mem_append_left _ (List.mem_append_left _ (List.mem_append_left _ (List.mem_append_left _ (List.mem_append_left _ (List.mem_append_left _ (List.mem_append_right _ (List.mem_append_right _ (List.mem_append_right _ (List.mem_append_right _ (List.mem_append_right _ (List.mem_append_right _ (List.mem_append_right _ (List.mem_append_right _ (List.mem_append_right _ (List.mem_append_right _ (List.mem_append_right _ (List.mem_append_right _ (List.mem_append_right _ (List.mem_append_right _ (List.mem_append_right _ (List.mem_append_right _ (List.mem_append_right _ (List.mem_append_right _ (List.mem_append_right _ (List.mem_append_right _ (List.mem_append_right _ (List.mem_append_right _ (List.mem_append_right _ (List.mem_append_right _ (List.mem_append_right _ (List.mem_append_right _ (List.mem_append_right _ (List.mem_append_right _ (List.mem_append_right _ (List.mem_append_right _ (List.mem_append_right _ (List.mem_append_right _ (List.mem_append_right _ (List.mem_append_left _ h)))))))))))))))))))))))))))))))))))))))))))))
theorem hR35 (i : Nat) {w : Cond} (e : wsL_law_r35[i]? = some w) : w ∈ wsL_law := have h := List.mem_of_getElem? e; (List.mem_append_left _ (List.mem_append_left _ (List.mem_append_left _ (List.mem_append_left _ (List.mem_append_left _ (List.mem_append_left _ (List.mem_append_left _ (List.mem_append_left _ (List.mem_append_left _ (List.mem_append_left _ (List.mem_append_left _ (List.mem_append_right _ (List.mem_append_right _ (List.mem_append_right _ (List.mem_append_right _ (List.mem_append_right _ (List.mem_append_right _ (List.mem_append_right _ (List.mem_append_right _ (List.mem_append_right _ (List.mem_append_right _ (List.mem_append_right _ (List.mem_append_right _ (List.mem_append_right _ (List.mem_append_right _ (List.mem_append_right _ (List.mem_append_right _ (List.mem_append_right _ (List.mem_append_right _ (List.mem_append_right _ (List.mem_append_right _ (List.mem_append_right _ (List.mem_append_right _ (List.mem_append_right _ (List.mem_append_right _ (List.mem_append_right _ (List.mem_append_right _ (List.mem_append_right _ (List.mem_append_right _ (List.mem_append_right _ (List.mem_append_right _ (List.mem_append_right _ (List.mem_append_right _ (List.mem_append_right _ (List.mem_append_right _ (List.mem_append_left _ h))))))))))))))))))))))))))))))))))))))))))))))
theorem hR36 (i : Nat) {w : Cond} (e : wsL_law_r36[i]? = some w) : w ∈ wsL_law := have h := List.mem_of_getElem? e; (List.mem_append_left _ (List.mem_append_left _ (List.mem_append_left _ (List.mem_append_left _ (List.mem_append_left _ (List.mem_append_left _ (List.mem_append_left _ (List.mem_append_left _ (List.mem_append_left _ (List.mem_append_left _ (List.mem_append_left _ (List.mem_append_right _ (List.mem_append_right _ (List.mem_append_right _ (List.mem_append_right _ (List.mem_append_right _ (List.mem_append_right _ (List.mem_append_right _ (List.mem_append_right _ (List.mem_append_right _ (List.mem_append_right _ (List.mem_append_right _ (List.mem_append_right _ (List.mem_append_right _ (List.mem_append_right _ (List.mem_append_right _ (List.mem_append_right _ (List.mem_append_right _ (List.mem_append_right _ (List.mem_append_right _ (List.mem_append_right _ (List.mem_append_right _ (List.mem_append_right _ (List.mem_append_right _ (List.mem_append_right _ (List.mem_append_right _ (List.mem_append_right _ (List.mem_append_right _ (List.mem_append_right _ (List.mem_append_right _ (List.mem_append_right _ (List.mem_append_right _ (List.mem_append_right _ (List.mem_append_right _ (List.mem_append_right _ (List.mem_append_right _ (List.mem_append_left _ h)))))))))))))))))))))))))))))))))))))))))))))))
theorem hR37 (i : Nat) {w : Cond} (e : wsL_law_r37[i]? = some w) : w ∈ wsL_law := have h := List.mem_of_getElem? e; (List.mem_append_left _ (List.mem_append_left _ (List.mem_append_left _ (List.mem_append_left _ (List.mem_append_left _ (List.mem_append_left _ (List.mem_append_left _ (List.mem_append_left _ (List.mem_append_left _ (List.mem_append_left _ (List.mem_append_left _ (List.mem_append_right _ (List.mem_append_right _ (List.mem_append_right _ (List.mem_append_right _ (List.mem_append_right _ (List.mem_append_right _ (List.mem_append_right _ (List.mem_append_right _ (List.mem_append_right _ (List.mem_append_right _ (List.mem_append_right _ (List.mem_append_right _ (List.mem_append_right _ (List.mem_append_right _ (List.mem_append_right _ (List.mem_append_right _ (List.mem_append_right _ (List.mem_append_right _ (List.mem_append_right _ (List.mem_append_right _ (List.mem_append_right _ (List.mem_append_right _ (List.mem_append_right _ (List.mem_append_right _ (List.mem_append_right _ (List.mem_append_right _ (List.mem_append_right _ (List.mem_append_right _ (List.mem_append_right _ (List.mem_append_right _ (List.mem_append_right _ (List.mem_append_right _ (List.mem_append_right _ (List.mem_append_right _ (List.mem_append_right _ (List.mem_append_right _ (List.mem_append_left _ h))))))))))))))))))))))))))))))))))))))))))))))))
theorem hR38 (i : Nat) {w : Cond} (e : wsL_law_r38[i]? = some w) : w ∈ wsL_law := have h := List.mem_of_getElem? e; (List.mem_append_left _ (List.mem_append_left _ (List.mem_append_left _ (List.mem_append_left _ (List.mem_append_left _ (List.mem_append_left _ (List.mem_append_left _ (List.mem_append_left _ (List.mem_append_left _ (List.mem_append_left _ (List.mem_append_left _ (List.mem_append_right _ (List.mem_append_right _ (List.mem_append_right _ (List.mem_append_right _ (List.mem_append_right _ (List.mem_append_right _ (List.mem_append_right _ (List.mem_append_right _ (List.mem_append_right _ (List.mem_append_right _ (List.mem_append_right _ (List.mem_append_right _ (List.mem_append_right _ (List.mem_append_right _ (List.mem_append_right _ (List.mem_append_right _ (List.mem_append_right _ (List.mem_append_right _ (List.mem_append_right _ (List.mem_append_right _ (List.mem_append_right _ (List.mem_append_right _ (List.mem_append_right _ (List.mem_append_right _ (List.mem_append_right _ (List.mem_append_right _ (List.mem_append_right _ (List.mem_append_right _ (List.mem_append_right _ (List.mem_append_right _ (List.mem_append_right _ (List.mem_append_right _ (List.mem_append_right _ (List.mem_append_right _ (List.mem_append_right _ (List.mem_append_right _ (List.mem_append_right _ (List.mem_append_left _ h)))))))))))))))))))))))))))))))))))))))))))))))))
theorem hR39 (i : Nat) {w : Cond} (e : wsL_law_r39[i]? = some w) : w ∈ wsL_law := have h := List.mem_of_getElem? e; (List.mem_append_left _ (List.mem_append_left _ (List.mem_append_left _ (List.mem_append_left _ (List.mem_append_left _ (List.mem_append_left _ (List.mem_append_left _ (List.mem_append_left _ (List.mem_append_left _ (List.mem_append_left _ (List.mem_append_left _ (List.mem_append_right _ (List.mem_append_right _ (List.mem_append_right _ (List.mem_append_right _ (List.mem_append_right _ (List.mem_append_right _ (List.mem_append_right _ (List.mem_append_right _ (List.mem_append_right _ (List.mem_append_right _ (List.mem_append_right _ (List.mem_append_right _ (List.mem_append_right _ (List.mem_append_right _ (List.mem_append_right _ (List.mem_append_right _ (List.mem_append_right _ (List.mem_append_right _ (List.mem_append_right _ (List.mem_append_right _ (List.mem_append_right _ (List.mem_append_right _ (List.mem_append_right _ (List.mem_append_right _ (List.mem_append_right _ (List.mem_append_right _ (List.mem_append_right _ (List.mem_append_right _ (List.mem_append_right _ (List.mem_append_right _ (List.mem_append_right _ (List.mem_append_right _ (List.mem_append_right _ (List.mem_append_right _ (List.mem_append_right _ (List.mem_append_right _ (List.mem_append_right _ (List.mem_append_right _ (List.mem_append_left _ h))))))))))))))))))))))))))))))))))))))))))))))))))
theorem hR40 (i : Nat) {w : Cond} (e : wsL_law_r40[i]? = some w) : w ∈ wsL_law := have h := List.mem_of_getElem? e; (List.mem_append_left _ (List.mem_append_left _ (List.mem_append_left _ (List.mem_append_left _ (List.mem_append_left _ (List.mem_append_left _ (List.mem_append_left _ (List.mem_append_left _ (List.mem_append_left _ (List.mem_append_left _ (List.mem_append_left _ (List.mem_append_right _ (List.mem_append_right _ (List.mem_append_right _ (List.mem_append_right _ (List.mem_append_right _ (List.mem_append_right _ (List.mem_append_right _ (List.mem_append_right _ (List.mem_append_right _ (List.mem_append_right _ (List.mem_append_right _ (List.mem_append_right _ (List.mem_append_right _ (List.mem_append_right _ (List.mem_append_right _ (List.mem_append_right _ (List.mem_append_right _ (List.mem_append_right _ (List.mem_append_right _ (List.mem_append_right _ (List.mem_append_right _ (List.mem_append_right _ (List.mem_append_right _ (List.mem_append_right _ (List.mem_append_right _ (List.mem_append_right _ (List.mem_append_right _ (List.mem_append_right _ (List.mem_append_right _ (List.mem_append_right _ (List.mem_append_right _ (List.mem_append_right _ (List.mem_append_right _ (List.mem_append_right _ (List.mem_append_right _ (List.mem_append_right _ (List.mem_append_right _ (List.mem_append_right _ (List.mem_append_right _ (List.mem_append_left _ h)))))))))))))))))))))))))))))))))))))))))))))))))))
theorem hR41 (i : Nat) {w : Cond} (e : wsL_law_r41[i]? = some w) : w ∈ wsL_law := have h := List.mem_of_getElem? e; (List.mem_append_left _ (List.mem_append_left _ (List.mem_append_left _ (List.mem_append_left _ (List.mem_append_left _ (List.mem_append_left _ (List.mem_append_left _ (List.mem_append_left _ (List.mem_append_left _ (List.mem_append_left _ (List.mem_append_left _ (List.mem_append_right _ (List.mem_append_right _ (List.mem_append_right _ (List.mem_append_right _ (List.mem_append_right _ (List.mem_append_right _ (List.mem_append_right _ (List.mem_append_right _ (List.mem_append_right _ (List.mem_append_right _ (List.mem_append_right _ (List.mem_append_right _ (List.mem_append_right _ (List.mem_append_right _ (List.mem_append_right _ (List.mem_append_right _ (List.mem_append_right _ (List.mem_append_right _ (List.mem_append_right _ (List.mem_append_right _ (List.mem_append_right _ (List.mem_append_right _ (List.mem_append_right _ (List.mem_append_right _ (List.mem_append_right _ (List.mem_append_right _ (List.mem_append_right _ (List.mem_append_right _ (List.mem_append_right _ (List.mem_append_right _ (List.mem_append_right _ (List.mem_append_right _ (List.mem_append_right _ (List.mem_append_right _ (List.mem_append_right _ (List.mem_append_right _ (List.mem_append_right _ (List.mem_append_right _ (List.mem_append_right _ (List.mem_append_right _ (List.mem_append_left _ h))))))))))))))))))))))))))))))))))))))))))))))))))))
theorem hR42 (i : Nat) {w : Cond} (e : wsL_law_r42[i]? = some w) : w ∈ wsL_law := have h := List.mem_of_getElem? e; (List.mem_append_left _ (List.mem_append_left _ (List.mem_append_left _ (List.mem_append_left _ (List.mem_append_left _ (List.mem_append_left _ (List.mem_append_left _ (List.mem_append_left _ (List.mem_append_left _ (List.mem_append_left _ (List.mem_append_left _ (List.mem_append_right _ (List.mem_append_right _ (List.mem_append_right _ (List.mem_append_right _ (List.mem_append_right _ (List.mem_append_right _ (List.mem_append_right _ (List.mem_append_right _ (List.mem_append_right _ (List.mem_append_right _ (List.mem_append_right _ (List.mem_append_right _ (List.mem_append_right _ (List.mem_append_right _ (List.mem_append_right _ (List.mem_append_right _ (List.mem_append_right _ (List.mem_append_right _ (List.mem_append_right _ (List.mem_append_right _ (List.mem_append_right _ (List.mem_append_right _ (List.mem_append_right _ (List.mem_append_right _ (List.mem_append_right _ (List.mem_append_right _ (List.mem_append_right _ (List.mem_append_right _ (List.mem_append_right _ (List.mem_append_right _ (List.mem_append_right _ (List.mem_append_right _ (List.mem_append_right _ (List.mem_append_right _ (List.mem_append_right _ (List.mem_append_right _ (List.mem_append_right _ (List.mem_append_right _ (List.mem_append_right _ (List.mem_append_right _ (List.mem_append_right _ (List.mem_append_left _ h)))))))))))))))))))))))))))))))))))))))))))))))))))))
theorem hR43 (i : Nat) {w : Cond} (e : wsL_law_r43[i]? = some w) : w ∈ wsL_law := have h := List.mem_of_getElem? e; (List.mem_append_left _ (List.mem_append_left _ (List.mem_append_left _ (List.mem_append_left _ (List.mem_append_left _ (List.mem_append_left _ (List.mem_append_left _ (List.mem_append_left _ (List.mem_append_left _ (List.mem_append_left _ (List.mem_append_left _ (List.mem_append_right _ (List.mem_append_right _ (List.mem_append_right _ (List.mem_append_right _ (List.mem_append_right _ (List.mem_append_right _ (List.mem_append_right _ (List.mem_append_right _ (List.mem_append_right _ (List.mem_append_right _ (List.mem_append_right _ (List.mem_append_right _ (List.mem_append_right _ (List.mem_append_right _ (List.mem_append_right _ (List.mem_append_right _ (List.mem_append_right _ (List.mem_append_right _ (List.mem_append_right _ (List.mem_append_right _ (List.mem_append_right _ (List.mem_append_right _ (List.mem_append_right _ (List.mem_append_right _ (List.mem_append_right _ (List.mem_append_right _ (List.mem_append_right _ (List.mem_append_right _ (List.mem_append_right _ (List.mem_append_right _ (List.mem_append_right _ (List.mem_append_right _ (List.mem_append_right _ (List.mem_append_right _ (List.mem_append_right _ (List.mem_append_right _ (List.mem_append_right _ (List.mem_append_right _ (List.mem_append_right _ (List.mem_append_right _ (List.mem_append_right _ (List.mem_append_right _ (List.mem_append_left _ h))))))))))))))))))))))))))))))))))))))))))))))))))))))
theorem hR44 (i : Nat) {w : Cond} (e : wsL_law_r44[i]? = some w) : w ∈ wsL_law := have h := List.mem_of_getElem? e; (List.mem_append_left _ (List.mem_append_left _ (List.mem_append_left _ (List.mem_append_left _ (List.mem_append_left _ (List.mem_append_left _ (List.mem_append_left _ (List.mem_append_left _ (List.mem_append_left _ (List.mem_append_left _ (List.mem_append_left _ (List.mem_append_right _ (List.mem_append_right _ (List.mem_append_right _ (List.mem_append_right _ (List.mem_append_right _ (List.mem_append_right _ (List.mem_append_right _ (List.mem_append_right _ (List.mem_append_right _ (List.mem_append_right _ (List.mem_append_right _ (List.mem_append_right _ (List.mem_append_right _ (List.mem_append_right _ (List.mem_append_right _ (List.mem_append_right _ (List.mem_append_right _ (List.mem_append_right _ (List.mem_append_right _ (List.mem_append_right _ (List.mem_append_right _ (List.mem_append_right _ (List.mem_append_right _ (List.mem_append_right _ (List.mem_append_right _ (List.mem_append_right _ (List.mem_append_right _ (List.mem_append_right _ (List.mem_append_right _ (List.mem_append_right _ (List.mem_append_right _ (List.mem_append_right _ (List.mem_append_right _ (List.mem_append_right _ (List.mem_append_right _ (List.mem_append_right _ (List.mem_append_right _ (List.mem_append_right _ (List.mem_append_right _ (List.mem_append_right _ (List.mem_append_right _ (List.mem_append_right _ (List.mem_append_right _ (List.mem_append_left _ h)))))))))))))))))))))))))))))))))))))))))))))))))))))))
theorem hR45 (i : Nat) {w : Cond} (e : wsL_law_r45[i]? = some w) : w ∈ wsL_law := have h := List.mem_of_getElem? e; (List.mem_append_left _ (List.mem_append_left _ (List.mem_append_left _ (List.mem_append_left _ (List.mem_append_left _ (List.mem_append_left _ (List.mem_append_left _ (List.mem_append_left _ (List.mem_append_left _ (List.mem_append_left _ (List.mem_append_left _ (List.mem_append_right _ (List.mem_append_right _ (List.mem_append_right _ (List.mem_append_right _ (List.mem_append_right _ (List.mem_append_right _ (List.mem_append_right _ (List.mem_append_right _ (List.mem_append_right _ (List.mem_append_right _ (List.mem_append_right _ (List.mem_append_right _ (List.mem_append_right _ (List.mem_append_right _ (List.mem_append_right _ (List.mem_append_right _ (List.mem_append_right _ (List.mem_append_right _ (List.mem_append_right _ (List.mem_append_right _ (List.mem_append_right _ (List.mem_append_right _ (List.mem_append_right _ (List.mem_append_right _ (List.mem_append_right _ (List.mem_append_right _ (List.mem_append_right _ (List.mem_append_right _ (List.mem_append_right _ (List.mem_append_right _ (List.mem_append_right _ (List.mem_append_right _ (List.mem_append_right _ (List.mem_append_right _ (List.mem_append_right _ (List.mem_append_right _ (List.mem_append_right _ (List.mem_append_right _ (List.mem_append_right _ (List.mem_append_right _ (List.mem_append_right _ (List.mem_append_right _ (List.mem_append_right _ (List.mem_append_right _ (List.mem_append_left _ h))))))))))))))))))))))))))))))))))))))))))))))))))))))))
theorem hR46 (i : Nat) {w : Cond} (e : wsL_law_r46[i]? = some w) : w ∈ wsL_law := have h := List.mem_of_getElem? e; (List.mem_append_left _ (List.mem_append_left _ (List.mem_append_left _ (List.mem_append_left _ (List.mem_append_left _ (List.mem_append_left _ (List.mem_append_left _ (List.mem_append_left _ (List.mem_append_left _ (List.mem_append_left _ (List.mem_append_left _ (List.mem_append_right _ (List.mem_append_right _ (List.mem_append_right _ (List.mem_append_right _ (List.mem_append_right _ (List.mem_append_right _ (List.mem_append_right _ (List.mem_append_right _ (List.mem_append_right _ (List.mem_append_right _ (List.mem_append_right _ (List.mem_append_right _ (List.mem_append_right _ (List.mem_append_right _ (List.mem_append_right _ (List.mem_append_right _ (List.mem_append_right _ (List.mem_append_right _ (List.mem_append_right _ (List.mem_append_right _ (List.mem_append_right _ (List.mem_append_right _ (List.mem_append_right _ (List.mem_append_right _ (List.mem_append_right _ (List.mem_append_right _ (List.mem_append_right _ (List.mem_append_right _ (List.mem_append_right _ (List.mem_append_right _ (List.mem_append_right _ (List.mem_append_right _ (List.mem_append_right _ (List.mem_append_right _ (List.mem_append_right _ (List.mem_append_right _ (List.mem_append_right _ (List.mem_append_right _ (List.mem_append_right _ (List.mem_append_right _ (List.mem_append_right _ (List.mem_append_right _ (List.mem_append_right _ (List.mem_append_right _ (List.mem_append_right _ (List.mem_append_left _ h)))))))))))))))))))))))))))))))))))))))))))))))))))))))))
theorem hR47 (i : Nat) {w : Cond} (e : wsL_law_r47[i]? = some w) : w ∈ wsL_law := have h := List.mem_of_getElem? e; (List.mem_append_left _ (List.mem_append_left _ (List.mem_append_left _ (List.mem_append_left _ (List.mem_append_left _ (List.mem_append_left _ (List.mem_append_left _ (List.mem_append_left _ (List.mem_append_left _ (List.mem_append_left _ (List.mem_append_left _ (List.mem_append_right _ (List.mem_append_right _ (List.mem_append_right _ (List.mem_append_right _ (List.mem_append_right _ (List.mem_append_right _ (List.mem_append_right _ (List.mem_append_right _ (List.mem_append_right _ (List.mem_append_right _ (List.mem_append_right _ (List.mem_append_right _ (List.mem_append_right _ (List.mem_append_right _ (List.mem_append_right _ (List.mem_append_right _ (List.mem_append_right _ (List.mem_append_right _ (List.mem_append_right _ (List.mem_append_right _ (List.mem_append_right _ (List.mem_append_right _ (List.mem_append_right _ (List.mem_append_right _ (List.mem_append_right _ (List.mem_append_right _ (List.mem_append_right _ (List.mem_append_right _ (List.mem_append_right _ (List.mem_append_right _ (List.mem_append_right _ (List.mem_append_right _ (List.mem_append_right _ (List.mem_append_right _ (List.mem_append_right _ (List.mem_append_right _ (List.mem_append_right _ (List.mem_append_right _ (List.mem_append_right _ (List.mem_append_right _ (List.mem_append_right _ (List.mem_append_right _ (List.mem_append_right _ (List.mem_append_right _ (List.mem_append_right _ (List.mem_append_right _ (List.mem_append_left _ h))))))))))))))))))))))))))))))))))))))))))))))))))))))))))
theorem hR48 (i : Nat) {w : Cond} (e : wsL_law_r48[i]? = some w) : w ∈ wsL_law := have h := List.mem_of_getElem? e; (List.mem_append_left _ (List.mem_append_left _ (List.mem_append_left _ (List.mem_append_left _ (List.mem_append_left _ (List.mem_append_left _ (List.mem_append_left _ (List.mem_append_left _ (List.mem_append_left _ (List.mem_append_left _ (List.mem_append_left _ (List.mem_append_right _ (List.mem_append_right _ (List.mem_append_right _ (List.mem_append_right _ (List.mem_append_right _ (List.mem_append_right _ (List.mem_append_right _ (List.mem_append_right _ (List.mem_append_right _ (List.mem_append_right _ (List.mem_append_right _ (List.mem_append_right _ (List.mem_append_right _ (List.mem_append_right _ (List.mem_append_right _ (List.mem_append_right _ (List.mem_append_right _ (List.mem_append_right _ (List.mem_append_right _ (List.mem_append_right _ (List.mem_append_right _ (List.mem_append_right _ (List.mem_append_right _ (List.mem_append_right _ (List.mem_append_right _ (List.mem_append_right _ (List.mem_append_right _ (List.mem_append_right _ (List.mem_append_right _ (List.mem_append_right _ (List.mem_append_right _ (List.mem_append_right _ (List.mem_append_right _ (List.mem_append_right _ (List.mem_append_right _ (List.mem_append_right _ (List.mem_append_right _ (List.mem_append_right _ (List.mem_append_right _ (List.mem_append_right _ (List.mem_append_right _ (List.mem_append_right _ (List.mem_append_right _ (List.mem_append_right _ (List.mem_append_right _ (List.mem_append_right _ (List.mem_append_right _ (List.mem_append_left _ h)))))))))))))))))))))))))))))))))))))))))))))))))))))))))))
theorem hR49 (i : Nat) {w : Cond} (e : wsL_law_r49[i]? = some w) : w ∈ wsL_law := have h := List.mem_of_getElem? e; (List.mem_append_left _ (List.mem_append_left _ (List.mem_append_left _ (List.mem_append_left _ (List.mem_append_left _ (List.mem_append_left _ (List.mem_append_left _ (List.mem_append_left _ (List.mem_append_left _ (List.mem_append_left _ (List.mem_append_left _ (List.mem_append_right _ (List.mem_append_right _ (List.mem_append_right _ (List.mem_append_right _ (List.mem_append_right _ (List.mem_append_right _ (List.mem_append_right _ (List.mem_append_right _ (List.mem_append_right _ (List.mem_append_right _ (List.mem_append_right _ (List.mem_append_right _ (List.mem_append_right _ (List.mem_append_right _ (List.mem_append_right _ (List.mem_append_right _ (List.mem_append_right _ (List.mem_append_right _ (List.mem_append_right _ (List.mem_append_right _ (List.mem_append_right _ (List.mem_append_right _ (List.mem_append_right _ (List.mem_append_right _ (List.mem_append_right _ (List.mem_append_right _ (List.mem_append_right _ (List.mem_append_right _ (List.mem_append_right _ (List.mem_append_right _ (List.mem_append_right _ (List.mem_append_right _ (List.mem_append_right _ (List.mem_append_right _ (List.mem_append_right _ (List.mem_append_right _ (List.mem_append_right _ (List.mem_append_right _ (List.mem_append_right _ (List.mem_append_right _ (List.mem_append_right _ (List.mem_append_right _ (List.mem_append_right _ (List.mem_append_right _ (List.mem_append_right _ (List.mem_append_right _ (List.mem_append_right _ (List.mem_append_right _ h)))))))))))))))))))))))))))))))))))))))))))))))))))))))))))
