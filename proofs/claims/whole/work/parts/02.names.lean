/-! ===== BEGIN words of one list among another's, by their places ===== -/
theorem goodIn_r {big : List Cond} (ws : List Cond) (ps : List Nat) (hp : ws = ps.filterMap (fun i => big[i]?)) (h : ws.all goodWord = true) : GoodIn big ws := by
  intro w hw
  have h1 := List.all_eq_true.mp h w hw
  rw [hp] at hw
  obtain ⟨i, -, hi⟩ := List.mem_filterMap.mp hw
  have hm : w ∈ big := by first | exact List.mem_of_getElem? hi | exact List.getElem?_mem hi
  exact ⟨hm, good_of_word h1⟩
theorem goodIn_app {big a b : List Cond} (ha : GoodIn big a) (hb : GoodIn big b) : GoodIn big (a ++ b) := fun w h => (List.mem_append.mp h).elim (ha w) (hb w)
theorem goodIn_ca {big a b : List Cond} {c : Cond} (ha : GoodIn big (c :: a)) (hb : GoodIn big b) : GoodIn big (c :: (a ++ b)) := fun w h => (List.mem_cons.mp h).elim (fun e => ha w (List.mem_cons.mpr (Or.inl e))) (fun h => (List.mem_append.mp h).elim (fun h => ha w (List.mem_cons.mpr (Or.inr h))) (hb w))
theorem goodIn_sub {big ws : List Cond} (hm : ∀ w ∈ ws, w ∈ big) (h : ws.all goodWord = true) : GoodIn big ws := fun w hw => ⟨hm w hw, good_of_word (List.all_eq_true.mp h w hw)⟩
/-! ===== END ===== -/

/-! ===== BEGIN printed: names, fields, word lists, decode rows ===== -/
def RX0 : String := "HeatedStories$History"
def TX0 : u_T := fun k => match k with
  | 0 => ("HeatedStories$History", "states", "[LHeatedStories$Shelf;", true)
  | 1 => ("HeatedStories$History", "oldest", "I", false)
  | _ => ("HeatedStories$History", "size", "I", false)
def tyX0 : Nat → FieldType := fun k => match k with
  | 0 => .array (.object "HeatedStories$Shelf")
  | 1 => .int
  | _ => .int
abbrev wsX00 : List Cond := u_ws RX0 TX0 3
theorem nmX0 : ∀ a, a < 3 → ∀ b, b < 3 → a ≠ b → (TX0 a).2.1 ≠ (TX0 b).2.1 := by decide +kernel
theorem tyX0_ok : ∀ k, k < 3 → parseFieldDescriptor (TX0 k).2.2.1 = some (tyX0 k) := by decide +kernel
abbrev cX0_init : ByteArray := prog_2_method_1_code
def yX0_init : MethodName := ⟨RX0, "<init>", "()V"⟩
abbrev cX0_record : ByteArray := prog_2_method_2_code
def yX0_record : MethodName := ⟨RX0, "record", "(LHeatedStories$Shelf;)V"⟩
abbrev cX0_takeBack : ByteArray := prog_2_method_3_code
def yX0_takeBack : MethodName := ⟨RX0, "takeBack", "(LHeatedStories$Shelf;)V"⟩
def RX1 : String := "HeatedStories$Pad"
def TX1 : u_T := fun k => match k with
  | 0 => ("HeatedStories$Pad", "characters", "[C", true)
  | _ => ("HeatedStories$Pad", "length", "I", false)
def tyX1 : Nat → FieldType := fun k => match k with
  | 0 => .array .char
  | _ => .int
abbrev wsX10 : List Cond := u_ws RX1 TX1 2
theorem nmX1 : ∀ a, a < 2 → ∀ b, b < 2 → a ≠ b → (TX1 a).2.1 ≠ (TX1 b).2.1 := by decide +kernel
theorem tyX1_ok : ∀ k, k < 2 → parseFieldDescriptor (TX1 k).2.2.1 = some (tyX1 k) := by decide +kernel
abbrev cX1_init : ByteArray := prog_3_method_1_code
def yX1_init : MethodName := ⟨RX1, "<init>", "()V"⟩
abbrev cX1_charactersIn : ByteArray := prog_3_method_2_code
def yX1_charactersIn : MethodName := ⟨RX1, "charactersIn", "(J)I"⟩
abbrev cX1_add : ByteArray := prog_3_method_3_code
def yX1_add : MethodName := ⟨RX1, "add", "(JI)V"⟩
abbrev cX1_firstFault : ByteArray := prog_3_method_4_code
def yX1_firstFault : MethodName := ⟨RX1, "firstFault", "()I"⟩
abbrev cX1_placeBehind : ByteArray := prog_3_method_5_code
def yX1_placeBehind : MethodName := ⟨RX1, "placeBehind", "(IC)I"⟩
abbrev cX1_isWord : ByteArray := prog_3_method_6_code
def yX1_isWord : MethodName := ⟨RX1, "isWord", "(C)Z"⟩
abbrev cX1_storiesIn : ByteArray := prog_3_method_7_code
def yX1_storiesIn : MethodName := ⟨RX1, "storiesIn", "()I"⟩
abbrev cX1_wordsIn : ByteArray := prog_3_method_8_code
def yX1_wordsIn : MethodName := ⟨RX1, "wordsIn", "()I"⟩
abbrev cX1_writeTo : ByteArray := prog_3_method_9_code
def yX1_writeTo : MethodName := ⟨RX1, "writeTo", "(LHeatedStories$Shelf;)V"⟩
def RX2 : String := "HeatedStories$Shelf"
def TX2 : u_T := fun k => match k with
  | 0 => ("HeatedStories$Shelf", "settings", "[I", true)
  | 1 => ("HeatedStories$Shelf", "letters", "[I", true)
  | 2 => ("HeatedStories$Shelf", "heats", "[I", true)
  | 3 => ("HeatedStories$Shelf", "starts", "[I", true)
  | 4 => ("HeatedStories$Shelf", "families", "[I", true)
  | 5 => ("HeatedStories$Shelf", "generations", "[I", true)
  | 6 => ("HeatedStories$Shelf", "tally", "[I", true)
  | 7 => ("HeatedStories$Shelf", "stories", "I", false)
  | 8 => ("HeatedStories$Shelf", "nextFamily", "I", false)
  | 9 => ("HeatedStories$Shelf", "splits", "I", false)
  | 10 => ("HeatedStories$Shelf", "boilings", "I", false)
  | _ => ("HeatedStories$Shelf", "fizzles", "I", false)
def tyX2 : Nat → FieldType := fun k => match k with
  | 0 => .array .int
  | 1 => .array .int
  | 2 => .array .int
  | 3 => .array .int
  | 4 => .array .int
  | 5 => .array .int
  | 6 => .array .int
  | 7 => .int
  | 8 => .int
  | 9 => .int
  | 10 => .int
  | _ => .int
abbrev wsX20 : List Cond := u_ws RX2 TX2 12
theorem nmX2 : ∀ a, a < 12 → ∀ b, b < 12 → a ≠ b → (TX2 a).2.1 ≠ (TX2 b).2.1 := by decide +kernel
theorem tyX2_ok : ∀ k, k < 12 → parseFieldDescriptor (TX2 k).2.2.1 = some (tyX2 k) := by decide +kernel
abbrev cX2_init : ByteArray := prog_4_method_1_code
def yX2_init : MethodName := ⟨RX2, "<init>", "()V"⟩
abbrev cX2_copyFrom : ByteArray := prog_4_method_2_code
def yX2_copyFrom : MethodName := ⟨RX2, "copyFrom", "(LHeatedStories$Shelf;)V"⟩
abbrev cX2_words : ByteArray := prog_4_method_3_code
def yX2_words : MethodName := ⟨RX2, "words", "()I"⟩
abbrev cX2_hasStory : ByteArray := prog_4_method_4_code
def yX2_hasStory : MethodName := ⟨RX2, "hasStory", "(I)Z"⟩
abbrev cX2_hasWord : ByteArray := prog_4_method_5_code
def yX2_hasWord : MethodName := ⟨RX2, "hasWord", "(II)Z"⟩
abbrev cX2_sizeOf : ByteArray := prog_4_method_6_code
def yX2_sizeOf : MethodName := ⟨RX2, "sizeOf", "(I)I"⟩
abbrev cX2_storyAt : ByteArray := prog_4_method_7_code
def yX2_storyAt : MethodName := ⟨RX2, "storyAt", "(I)I"⟩
abbrev cX2_placeOf : ByteArray := prog_4_method_8_code
def yX2_placeOf : MethodName := ⟨RX2, "placeOf", "(I)I"⟩
abbrev cX2_addStory : ByteArray := prog_4_method_9_code
def yX2_addStory : MethodName := ⟨RX2, "addStory", "()V"⟩
abbrev cX2_addWord : ByteArray := prog_4_method_10_code
def yX2_addWord : MethodName := ⟨RX2, "addWord", "(I)V"⟩
abbrev cX2_addDigit : ByteArray := prog_4_method_11_code
def yX2_addDigit : MethodName := ⟨RX2, "addDigit", "(I)V"⟩
abbrev cX2_warm : ByteArray := prog_4_method_12_code
def yX2_warm : MethodName := ⟨RX2, "warm", "(II)V"⟩
abbrev cX2_remove : ByteArray := prog_4_method_13_code
def yX2_remove : MethodName := ⟨RX2, "remove", "(I)V"⟩
abbrev cX2_append : ByteArray := prog_4_method_14_code
def yX2_append : MethodName := ⟨RX2, "append", "(ILHeatedStories$Shelf;I)V"⟩
abbrev cX2_isCalm : ByteArray := prog_4_method_15_code
def yX2_isCalm : MethodName := ⟨RX2, "isCalm", "()Z"⟩
abbrev cX2_react : ByteArray := prog_4_method_16_code
def yX2_react : MethodName := ⟨RX2, "react", "()I"⟩
abbrev cX2_reactAt : ByteArray := prog_4_method_17_code
def yX2_reactAt : MethodName := ⟨RX2, "reactAt", "(I)V"⟩
abbrev cX2_split : ByteArray := prog_4_method_18_code
def yX2_split : MethodName := ⟨RX2, "split", "(II)V"⟩
abbrev cX2_heatBetween : ByteArray := prog_4_method_19_code
def yX2_heatBetween : MethodName := ⟨RX2, "heatBetween", "(II)I"⟩
abbrev cX2_heatOf : ByteArray := prog_4_method_20_code
def yX2_heatOf : MethodName := ⟨RX2, "heatOf", "(I)I"⟩
abbrev cX2_heatOfAll : ByteArray := prog_4_method_21_code
def yX2_heatOfAll : MethodName := ⟨RX2, "heatOfAll", "()I"⟩
abbrev cX2_timesBetween : ByteArray := prog_4_method_22_code
def yX2_timesBetween : MethodName := ⟨RX2, "timesBetween", "(III)I"⟩
abbrev cX2_timesIn : ByteArray := prog_4_method_23_code
def yX2_timesIn : MethodName := ⟨RX2, "timesIn", "(II)I"⟩
abbrev cX2_timesInAll : ByteArray := prog_4_method_24_code
def yX2_timesInAll : MethodName := ⟨RX2, "timesInAll", "(I)I"⟩
abbrev cX2_tallyOf : ByteArray := prog_4_method_25_code
def yX2_tallyOf : MethodName := ⟨RX2, "tallyOf", "(I)V"⟩
abbrev cX2_themeOf : ByteArray := prog_4_method_26_code
def yX2_themeOf : MethodName := ⟨RX2, "themeOf", "(I)I"⟩
abbrev cX2_unlikeLettersOf : ByteArray := prog_4_method_27_code
def yX2_unlikeLettersOf : MethodName := ⟨RX2, "unlikeLettersOf", "(I)I"⟩
abbrev cX2_hottestOf : ByteArray := prog_4_method_28_code
def yX2_hottestOf : MethodName := ⟨RX2, "hottestOf", "(I)I"⟩
abbrev cX2_readsFromBothEnds : ByteArray := prog_4_method_29_code
def yX2_readsFromBothEnds : MethodName := ⟨RX2, "readsFromBothEnds", "(I)Z"⟩
abbrev cX2_unlikeFamilies : ByteArray := prog_4_method_30_code
def yX2_unlikeFamilies : MethodName := ⟨RX2, "unlikeFamilies", "()I"⟩
abbrev cX2_isFirstOfFamily : ByteArray := prog_4_method_31_code
def yX2_isFirstOfFamily : MethodName := ⟨RX2, "isFirstOfFamily", "(I)Z"⟩
abbrev cX2_greatestGeneration : ByteArray := prog_4_method_32_code
def yX2_greatestGeneration : MethodName := ⟨RX2, "greatestGeneration", "()I"⟩
abbrev cX2_storiesWith : ByteArray := prog_4_method_33_code
def yX2_storiesWith : MethodName := ⟨RX2, "storiesWith", "(I)I"⟩
abbrev cX2_storiesOfTheme : ByteArray := prog_4_method_34_code
def yX2_storiesOfTheme : MethodName := ⟨RX2, "storiesOfTheme", "(I)I"⟩
abbrev cX2_heatOfLetter : ByteArray := prog_4_method_35_code
def yX2_heatOfLetter : MethodName := ⟨RX2, "heatOfLetter", "(I)I"⟩
abbrev cX2_isPair : ByteArray := prog_4_method_36_code
def yX2_isPair : MethodName := ⟨RX2, "isPair", "(III)Z"⟩
def RX3 : String := "HeatedStories"
def TX3 : u_T := fun k => match k with
  | 0 => ("HeatedStories", "now", "LHeatedStories$Shelf;", true)
  | 1 => ("HeatedStories", "trial", "LHeatedStories$Shelf;", true)
  | 2 => ("HeatedStories", "history", "LHeatedStories$History;", true)
  | 3 => ("HeatedStories", "slots", "[LHeatedStories$Shelf;", true)
  | 4 => ("HeatedStories", "saved", "[Z", true)
  | 5 => ("HeatedStories", "pad", "LHeatedStories$Pad;", true)
  | 6 => ("HeatedStories", "runs", "[I", true)
  | 7 => ("HeatedStories", "themes", "[I", true)
  | _ => ("HeatedStories", "storyHeats", "[I", true)
def tyX3 : Nat → FieldType := fun k => match k with
  | 0 => .object "HeatedStories$Shelf"
  | 1 => .object "HeatedStories$Shelf"
  | 2 => .object "HeatedStories$History"
  | 3 => .array (.object "HeatedStories$Shelf")
  | 4 => .array .boolean
  | 5 => .object "HeatedStories$Pad"
  | 6 => .array .int
  | 7 => .array .int
  | _ => .array .int
abbrev wsX30 : List Cond := u_ws RX3 TX3 9
theorem nmX3 : ∀ a, a < 9 → ∀ b, b < 9 → a ≠ b → (TX3 a).2.1 ≠ (TX3 b).2.1 := by decide +kernel
theorem tyX3_ok : ∀ k, k < 9 → parseFieldDescriptor (TX3 k).2.2.1 = some (tyX3 k) := by decide +kernel
abbrev cX3_init : ByteArray := prog_1_method_1_code
def yX3_init : MethodName := ⟨RX3, "<init>", "()V"⟩
abbrev cX3_set : ByteArray := prog_1_method_2_code
def yX3_set : MethodName := ⟨RX3, "set", "(II)I"⟩
abbrev cX3_write : ByteArray := prog_1_method_3_code
def yX3_write : MethodName := ⟨RX3, "write", "()I"⟩
abbrev cX3_heat : ByteArray := prog_1_method_4_code
def yX3_heat : MethodName := ⟨RX3, "heat", "(III)I"⟩
abbrev cX3_read : ByteArray := prog_1_method_5_code
def yX3_read : MethodName := ⟨RX3, "read", "(II)I"⟩
abbrev cX3_fuse : ByteArray := prog_1_method_6_code
def yX3_fuse : MethodName := ⟨RX3, "fuse", "(II)I"⟩
abbrev cX3_pass : ByteArray := prog_1_method_7_code
def yX3_pass : MethodName := ⟨RX3, "pass", "(I)I"⟩
abbrev cX3_burn : ByteArray := prog_1_method_8_code
def yX3_burn : MethodName := ⟨RX3, "burn", "(I)I"⟩
abbrev cX3_word : ByteArray := prog_1_method_9_code
def yX3_word : MethodName := ⟨RX3, "word", "(III)I"⟩
abbrev cX3_story : ByteArray := prog_1_method_10_code
def yX3_story : MethodName := ⟨RX3, "story", "(II)I"⟩
abbrev cX3_count : ByteArray := prog_1_method_11_code
def yX3_count : MethodName := ⟨RX3, "count", "(I)I"⟩
abbrev cX3_letter : ByteArray := prog_1_method_12_code
def yX3_letter : MethodName := ⟨RX3, "letter", "(II)I"⟩
abbrev cX3_sideBySide : ByteArray := prog_1_method_13_code
def yX3_sideBySide : MethodName := ⟨RX3, "sideBySide", "(III)I"⟩
abbrev cX3_common : ByteArray := prog_1_method_14_code
def yX3_common : MethodName := ⟨RX3, "common", "(II)I"⟩
abbrev cX3_ifHeated : ByteArray := prog_1_method_15_code
def yX3_ifHeated : MethodName := ⟨RX3, "ifHeated", "(IIII)I"⟩
abbrev cX3_critical : ByteArray := prog_1_method_16_code
def yX3_critical : MethodName := ⟨RX3, "critical", "(II)I"⟩
abbrev cX3_touchiest : ByteArray := prog_1_method_17_code
def yX3_touchiest : MethodName := ⟨RX3, "touchiest", "(II)I"⟩
abbrev cX3_coolestPair : ByteArray := prog_1_method_18_code
def yX3_coolestPair : MethodName := ⟨RX3, "coolestPair", "(I)I"⟩
abbrev cX3_put : ByteArray := prog_1_method_19_code
def yX3_put : MethodName := ⟨RX3, "put", "(J)I"⟩
abbrev cX3_wipe : ByteArray := prog_1_method_20_code
def yX3_wipe : MethodName := ⟨RX3, "wipe", "()I"⟩
abbrev cX3_fault : ByteArray := prog_1_method_21_code
def yX3_fault : MethodName := ⟨RX3, "fault", "()I"⟩
abbrev cX3_undo : ByteArray := prog_1_method_22_code
def yX3_undo : MethodName := ⟨RX3, "undo", "()I"⟩
abbrev cX3_save : ByteArray := prog_1_method_23_code
def yX3_save : MethodName := ⟨RX3, "save", "(I)I"⟩
abbrev cX3_restore : ByteArray := prog_1_method_24_code
def yX3_restore : MethodName := ⟨RX3, "restore", "(I)I"⟩
abbrev cX3_tryHeating : ByteArray := prog_1_method_25_code
def yX3_tryHeating : MethodName := ⟨RX3, "tryHeating", "(II)I"⟩
abbrev cX3_isWithin : ByteArray := prog_1_method_26_code
def yX3_isWithin : MethodName := ⟨RX3, "isWithin", "(III)Z"⟩
abbrev cX3_isLetter : ByteArray := prog_1_method_27_code
def yX3_isLetter : MethodName := ⟨RX3, "isLetter", "(I)Z"⟩
def RX4 : String := "HeatedStoriesModel"
def TX4 : u_T := fun k => match k with
  | 0 => ("HeatedStoriesModel", "s", "[I", true)
  | 1 => ("HeatedStoriesModel", "aside", "[I", true)
  | 2 => ("HeatedStoriesModel", "before", "[I", true)
  | 3 => ("HeatedStoriesModel", "known", "I", false)
  | 4 => ("HeatedStoriesModel", "slots", "[I", true)
  | 5 => ("HeatedStoriesModel", "isSaved", "[Z", true)
  | 6 => ("HeatedStoriesModel", "pad", "[I", true)
  | 7 => ("HeatedStoriesModel", "length", "I", false)
  | 8 => ("HeatedStoriesModel", "letters", "[I", true)
  | 9 => ("HeatedStoriesModel", "heats", "[I", true)
  | 10 => ("HeatedStoriesModel", "reactions", "I", false)
  | 11 => ("HeatedStoriesModel", "newSplits", "I", false)
  | 12 => ("HeatedStoriesModel", "storiesThen", "I", false)
  | 13 => ("HeatedStoriesModel", "heatThen", "I", false)
  | 14 => ("HeatedStoriesModel", "place", "I", false)
  | 15 => ("HeatedStoriesModel", "isWrong", "Z", false)
  | 16 => ("HeatedStoriesModel", "toldLetter", "[I", true)
  | 17 => ("HeatedStoriesModel", "toldHeat", "[I", true)
  | 18 => ("HeatedStoriesModel", "toldStory", "[I", true)
  | 19 => ("HeatedStoriesModel", "toldWords", "I", false)
  | _ => ("HeatedStoriesModel", "toldStories", "I", false)
def tyX4 : Nat → FieldType := fun k => match k with
  | 0 => .array .int
  | 1 => .array .int
  | 2 => .array .int
  | 3 => .int
  | 4 => .array .int
  | 5 => .array .boolean
  | 6 => .array .int
  | 7 => .int
  | 8 => .array .int
  | 9 => .array .int
  | 10 => .int
  | 11 => .int
  | 12 => .int
  | 13 => .int
  | 14 => .int
  | 15 => .boolean
  | 16 => .array .int
  | 17 => .array .int
  | 18 => .array .int
  | 19 => .int
  | _ => .int
abbrev wsX40 : List Cond := u_ws RX4 TX4 21
theorem nmX4 : ∀ a, a < 21 → ∀ b, b < 21 → a ≠ b → (TX4 a).2.1 ≠ (TX4 b).2.1 := by decide +kernel
theorem tyX4_ok : ∀ k, k < 21 → parseFieldDescriptor (TX4 k).2.2.1 = some (tyX4 k) := by decide +kernel
abbrev cX4_init : ByteArray := prog_6_method_1_code
def yX4_init : MethodName := ⟨RX4, "<init>", "()V"⟩
abbrev cX4_in : ByteArray := prog_6_method_3_code
def yX4_in : MethodName := ⟨RX4, "in", "(III)Z"⟩
abbrev cX4_isStory : ByteArray := prog_6_method_4_code
def yX4_isStory : MethodName := ⟨RX4, "isStory", "(I)Z"⟩
abbrev cX4_isWord : ByteArray := prog_6_method_5_code
def yX4_isWord : MethodName := ⟨RX4, "isWord", "(II)Z"⟩
abbrev cX4_first : ByteArray := prog_6_method_6_code
def yX4_first : MethodName := ⟨RX4, "first", "(I)I"⟩
abbrev cX4_know : ByteArray := prog_6_method_7_code
def yX4_know : MethodName := ⟨RX4, "know", "()V"⟩
abbrev cX4_putAside : ByteArray := prog_6_method_8_code
def yX4_putAside : MethodName := ⟨RX4, "putAside", "()V"⟩
abbrev cX4_putBack : ByteArray := prog_6_method_9_code
def yX4_putBack : MethodName := ⟨RX4, "putBack", "()V"⟩
abbrev cX4_warm : ByteArray := prog_6_method_10_code
def yX4_warm : MethodName := ⟨RX4, "warm", "(II)V"⟩
abbrev cX4_storyOf : ByteArray := prog_6_method_11_code
def yX4_storyOf : MethodName := ⟨RX4, "storyOf", "(I)I"⟩
abbrev cX4_split : ByteArray := prog_6_method_12_code
def yX4_split : MethodName := ⟨RX4, "split", "(II)V"⟩
abbrev cX4_reactOne : ByteArray := prog_6_method_13_code
def yX4_reactOne : MethodName := ⟨RX4, "reactOne", "(I)V"⟩
abbrev cX4_react : ByteArray := prog_6_method_14_code
def yX4_react : MethodName := ⟨RX4, "react", "()I"⟩
abbrev cX4_removeStory : ByteArray := prog_6_method_15_code
def yX4_removeStory : MethodName := ⟨RX4, "removeStory", "(I)V"⟩
abbrev cX4_removeWords : ByteArray := prog_6_method_16_code
def yX4_removeWords : MethodName := ⟨RX4, "removeWords", "(II)V"⟩
abbrev cX4_times : ByteArray := prog_6_method_17_code
def yX4_times : MethodName := ⟨RX4, "times", "(II)I"⟩
abbrev cX4_theme : ByteArray := prog_6_method_18_code
def yX4_theme : MethodName := ⟨RX4, "theme", "(I)I"⟩
abbrev cX4_heatOf : ByteArray := prog_6_method_19_code
def yX4_heatOf : MethodName := ⟨RX4, "heatOf", "(I)I"⟩
abbrev cX4_allHeat : ByteArray := prog_6_method_20_code
def yX4_allHeat : MethodName := ⟨RX4, "allHeat", "()I"⟩
abbrev cX4_set : ByteArray := prog_6_method_21_code
def yX4_set : MethodName := ⟨RX4, "set", "(II)I"⟩
abbrev cX4_heat : ByteArray := prog_6_method_22_code
def yX4_heat : MethodName := ⟨RX4, "heat", "(III)I"⟩
abbrev cX4_read : ByteArray := prog_6_method_23_code
def yX4_read : MethodName := ⟨RX4, "read", "(II)I"⟩
abbrev cX4_fuse : ByteArray := prog_6_method_24_code
def yX4_fuse : MethodName := ⟨RX4, "fuse", "(II)I"⟩
abbrev cX4_pass : ByteArray := prog_6_method_25_code
def yX4_pass : MethodName := ⟨RX4, "pass", "(I)I"⟩
abbrev cX4_burn : ByteArray := prog_6_method_26_code
def yX4_burn : MethodName := ⟨RX4, "burn", "(I)I"⟩
abbrev cX4_word : ByteArray := prog_6_method_27_code
def yX4_word : MethodName := ⟨RX4, "word", "(III)I"⟩
abbrev cX4_hottest : ByteArray := prog_6_method_28_code
def yX4_hottest : MethodName := ⟨RX4, "hottest", "(I)I"⟩
abbrev cX4_unlike : ByteArray := prog_6_method_29_code
def yX4_unlike : MethodName := ⟨RX4, "unlike", "(I)I"⟩
abbrev cX4_isSameBackwards : ByteArray := prog_6_method_30_code
def yX4_isSameBackwards : MethodName := ⟨RX4, "isSameBackwards", "(I)I"⟩
abbrev cX4_story : ByteArray := prog_6_method_31_code
def yX4_story : MethodName := ⟨RX4, "story", "(II)I"⟩
abbrev cX4_families : ByteArray := prog_6_method_32_code
def yX4_families : MethodName := ⟨RX4, "families", "()I"⟩
abbrev cX4_greatest : ByteArray := prog_6_method_33_code
def yX4_greatest : MethodName := ⟨RX4, "greatest", "()I"⟩
abbrev cX4_count : ByteArray := prog_6_method_34_code
def yX4_count : MethodName := ⟨RX4, "count", "(I)I"⟩
abbrev cX4_letter : ByteArray := prog_6_method_35_code
def yX4_letter : MethodName := ⟨RX4, "letter", "(II)I"⟩
abbrev cX4_sideBySide : ByteArray := prog_6_method_36_code
def yX4_sideBySide : MethodName := ⟨RX4, "sideBySide", "(III)I"⟩
abbrev cX4_common : ByteArray := prog_6_method_37_code
def yX4_common : MethodName := ⟨RX4, "common", "(II)I"⟩
abbrev cX4_tryHeat : ByteArray := prog_6_method_38_code
def yX4_tryHeat : MethodName := ⟨RX4, "tryHeat", "(II)V"⟩
abbrev cX4_ifHeated : ByteArray := prog_6_method_39_code
def yX4_ifHeated : MethodName := ⟨RX4, "ifHeated", "(IIII)I"⟩
abbrev cX4_critical : ByteArray := prog_6_method_40_code
def yX4_critical : MethodName := ⟨RX4, "critical", "(II)I"⟩
abbrev cX4_touchiest : ByteArray := prog_6_method_41_code
def yX4_touchiest : MethodName := ⟨RX4, "touchiest", "(II)I"⟩
abbrev cX4_coolestPair : ByteArray := prog_6_method_42_code
def yX4_coolestPair : MethodName := ⟨RX4, "coolestPair", "(I)I"⟩
abbrev cX4_put : ByteArray := prog_6_method_43_code
def yX4_put : MethodName := ⟨RX4, "put", "(J)I"⟩
abbrev cX4_wipe : ByteArray := prog_6_method_44_code
def yX4_wipe : MethodName := ⟨RX4, "wipe", "()I"⟩
abbrev cX4_sign : ByteArray := prog_6_method_45_code
def yX4_sign : MethodName := ⟨RX4, "sign", "(II)I"⟩
abbrev cX4_isNext : ByteArray := prog_6_method_46_code
def yX4_isNext : MethodName := ⟨RX4, "isNext", "(II)Z"⟩
abbrev cX4_readPad : ByteArray := prog_6_method_47_code
def yX4_readPad : MethodName := ⟨RX4, "readPad", "()V"⟩
abbrev cX4_fault : ByteArray := prog_6_method_48_code
def yX4_fault : MethodName := ⟨RX4, "fault", "()I"⟩
abbrev cX4_write : ByteArray := prog_6_method_49_code
def yX4_write : MethodName := ⟨RX4, "write", "()I"⟩
abbrev cX4_undo : ByteArray := prog_6_method_50_code
def yX4_undo : MethodName := ⟨RX4, "undo", "()I"⟩
abbrev cX4_save : ByteArray := prog_6_method_51_code
def yX4_save : MethodName := ⟨RX4, "save", "(I)I"⟩
abbrev cX4_restore : ByteArray := prog_6_method_52_code
def yX4_restore : MethodName := ⟨RX4, "restore", "(I)I"⟩
def RJ9 : String := "java/lang/Math"
def TJ9 : u_T := fun k => match k with
  | _ => ("", "", "", false)
def tyJ9 : Nat → FieldType := fun k => match k with
  | _ => .int
abbrev wsJ90 : List Cond := u_ws RJ9 TJ9 0
theorem nmJ9 : ∀ a, a < 0 → ∀ b, b < 0 → a ≠ b → (TJ9 a).2.1 ≠ (TJ9 b).2.1 := by decide +kernel
theorem tyJ9_ok : ∀ k, k < 0 → parseFieldDescriptor (TJ9 k).2.2.1 = some (tyJ9 k) := by decide +kernel
abbrev cJ9_max_7cf53 : ByteArray := prog_7_method_65_code
def yJ9_max_7cf53 : MethodName := ⟨RJ9, "max", "(II)I"⟩
abbrev cJ9_min_7cf53 : ByteArray := prog_7_method_69_code
def yJ9_min_7cf53 : MethodName := ⟨RJ9, "min", "(II)I"⟩
def RJ10 : String := "java/lang/System"
def TJ10 : u_T := fun k => match k with
  | _ => ("", "", "", false)
def tyJ10 : Nat → FieldType := fun k => match k with
  | _ => .int
abbrev wsJ100 : List Cond := u_ws RJ10 TJ10 0
theorem nmJ10 : ∀ a, a < 0 → ∀ b, b < 0 → a ≠ b → (TJ10 a).2.1 ≠ (TJ10 b).2.1 := by decide +kernel
theorem tyJ10_ok : ∀ k, k < 0 → parseFieldDescriptor (TJ10 k).2.2.1 = some (tyJ10 k) := by decide +kernel
def RJ7 : String := "java/util/Arrays"
def TJ7 : u_T := fun k => match k with
  | _ => ("", "", "", false)
def tyJ7 : Nat → FieldType := fun k => match k with
  | _ => .int
abbrev wsJ70 : List Cond := u_ws RJ7 TJ7 0
theorem nmJ7 : ∀ a, a < 0 → ∀ b, b < 0 → a ≠ b → (TJ7 a).2.1 ≠ (TJ7 b).2.1 := by decide +kernel
theorem tyJ7_ok : ∀ k, k < 0 → parseFieldDescriptor (TJ7 k).2.2.1 = some (tyJ7 k) := by decide +kernel
abbrev cJ7_fill_53178 : ByteArray := prog_9_method_103_code
def yJ7_fill_53178 : MethodName := ⟨RJ7, "fill", "([II)V"⟩
def RL : String := "HeatedStoriesLaw"
abbrev cL_law : ByteArray := code
def yL_law : MethodName := ⟨RL, "law", "([I)Z"⟩
def wsX2_init : List Cond := .code yX2_init cX2_init 1 none :: ([.methodLink RX2 3 objectInit, .instanceMethod objectInit, .code objectInit ⟨#[0xb1]⟩ 1 none, .arrayClass .int, .fieldLink RX2 9 "HeatedStories$Shelf" "settings" "[I", .fieldLink RX2 15 "HeatedStories$Shelf" "letters" "[I", .fieldLink RX2 18 "HeatedStories$Shelf" "heats" "[I", .fieldLink RX2 21 "HeatedStories$Shelf" "starts" "[I", .fieldLink RX2 24 "HeatedStories$Shelf" "families" "[I", .fieldLink RX2 27 "HeatedStories$Shelf" "generations" "[I", .fieldLink RX2 30 "HeatedStories$Shelf" "tally" "[I"] ++ wsX20)
def wsX0_init : List Cond := .code yX0_init cX0_init 2 none :: ([.methodLink RX0 3 objectInit, .instanceMethod objectInit, .code objectInit ⟨#[0xb1]⟩ 1 none, .classLink RX0 9 RX2, .fieldLink RX0 11 "HeatedStories$History" "states" "[LHeatedStories$Shelf;", .instantiable RX2 12, .initialized RX2, .instanceMethod yX2_init, .code yX2_init cX2_init 1 none, .methodLink RX2 3 objectInit, .arrayClass .int, .fieldLink RX2 9 "HeatedStories$Shelf" "settings" "[I", .fieldLink RX2 15 "HeatedStories$Shelf" "letters" "[I", .fieldLink RX2 18 "HeatedStories$Shelf" "heats" "[I", .fieldLink RX2 21 "HeatedStories$Shelf" "starts" "[I", .fieldLink RX2 24 "HeatedStories$Shelf" "families" "[I", .fieldLink RX2 27 "HeatedStories$Shelf" "generations" "[I", .fieldLink RX2 30 "HeatedStories$Shelf" "tally" "[I"] ++ wsX00 ++ wsX20)
def wsX2_words : List Cond := .code yX2_words cX2_words 1 (some .int) :: ([.fieldLink RX2 21 "HeatedStories$Shelf" "starts" "[I", .fieldLink RX2 43 "HeatedStories$Shelf" "stories" "I"] ++ wsX20)
def wsX2_copyFrom : List Cond := .code yX2_copyFrom cX2_copyFrom 3 none :: ([.fieldLink RX2 9 "HeatedStories$Shelf" "settings" "[I", .methodLink RX2 37 arraycopyName, .native arraycopyName, .static arraycopyName, .initialized "java/lang/System", .fieldLink RX2 15 "HeatedStories$Shelf" "letters" "[I", .fieldLink RX2 18 "HeatedStories$Shelf" "heats" "[I", .fieldLink RX2 21 "HeatedStories$Shelf" "starts" "[I", .fieldLink RX2 43 "HeatedStories$Shelf" "stories" "I", .fieldLink RX2 24 "HeatedStories$Shelf" "families" "[I", .fieldLink RX2 27 "HeatedStories$Shelf" "generations" "[I", .fieldLink RX2 47 "HeatedStories$Shelf" "nextFamily" "I", .fieldLink RX2 50 "HeatedStories$Shelf" "splits" "I", .fieldLink RX2 53 "HeatedStories$Shelf" "boilings" "I", .fieldLink RX2 56 "HeatedStories$Shelf" "fizzles" "I", .methodLink RX2 33 yX2_words, .instanceMethod yX2_words, .selects RX2 yX2_words yX2_words, .initialized RX2, .code yX2_words cX2_words 1 (some .int)] ++ wsX20)
def wsX0_record_r1 : List Cond := [Cond.fieldLink RX0 11 "HeatedStories$History" "states" "[LHeatedStories$Shelf;", Cond.fieldLink RX0 18 "HeatedStories$History" "oldest" "I", Cond.fieldLink RX0 22 "HeatedStories$History" "size" "I", Cond.methodLink RX0 25 yX2_copyFrom, Cond.instanceMethod yX2_copyFrom, Cond.selects RX2 yX2_copyFrom yX2_copyFrom, Cond.initialized RX2, Cond.code yX2_copyFrom cX2_copyFrom 3 none, Cond.fieldLink RX2 9 "HeatedStories$Shelf" "settings" "[I", Cond.methodLink RX2 37 arraycopyName, Cond.native arraycopyName, Cond.static arraycopyName, Cond.initialized "java/lang/System", Cond.fieldLink RX2 15 "HeatedStories$Shelf" "letters" "[I", Cond.fieldLink RX2 18 "HeatedStories$Shelf" "heats" "[I", Cond.fieldLink RX2 21 "HeatedStories$Shelf" "starts" "[I", Cond.fieldLink RX2 43 "HeatedStories$Shelf" "stories" "I", Cond.fieldLink RX2 24 "HeatedStories$Shelf" "families" "[I", Cond.fieldLink RX2 27 "HeatedStories$Shelf" "generations" "[I", Cond.fieldLink RX2 47 "HeatedStories$Shelf" "nextFamily" "I", Cond.fieldLink RX2 50 "HeatedStories$Shelf" "splits" "I", Cond.fieldLink RX2 53 "HeatedStories$Shelf" "boilings" "I", Cond.fieldLink RX2 56 "HeatedStories$Shelf" "fizzles" "I", Cond.methodLink RX2 33 yX2_words]
def wsX0_record_r2 : List Cond := [Cond.instanceMethod yX2_words, Cond.selects RX2 yX2_words yX2_words, Cond.code yX2_words cX2_words 1 (some .int)]
def wsX0_record : List Cond := .code yX0_record cX0_record 2 none :: ((wsX0_record_r1 ++ wsX0_record_r2) ++ wsX00 ++ wsX20)
def wsX0_takeBack_r1 : List Cond := [Cond.fieldLink RX0 22 "HeatedStories$History" "size" "I", Cond.fieldLink RX0 11 "HeatedStories$History" "states" "[LHeatedStories$Shelf;", Cond.fieldLink RX0 18 "HeatedStories$History" "oldest" "I", Cond.methodLink RX0 25 yX2_copyFrom, Cond.instanceMethod yX2_copyFrom, Cond.selects RX2 yX2_copyFrom yX2_copyFrom, Cond.initialized RX2, Cond.code yX2_copyFrom cX2_copyFrom 3 none, Cond.fieldLink RX2 9 "HeatedStories$Shelf" "settings" "[I", Cond.methodLink RX2 37 arraycopyName, Cond.native arraycopyName, Cond.static arraycopyName, Cond.initialized "java/lang/System", Cond.fieldLink RX2 15 "HeatedStories$Shelf" "letters" "[I", Cond.fieldLink RX2 18 "HeatedStories$Shelf" "heats" "[I", Cond.fieldLink RX2 21 "HeatedStories$Shelf" "starts" "[I", Cond.fieldLink RX2 43 "HeatedStories$Shelf" "stories" "I", Cond.fieldLink RX2 24 "HeatedStories$Shelf" "families" "[I", Cond.fieldLink RX2 27 "HeatedStories$Shelf" "generations" "[I", Cond.fieldLink RX2 47 "HeatedStories$Shelf" "nextFamily" "I", Cond.fieldLink RX2 50 "HeatedStories$Shelf" "splits" "I", Cond.fieldLink RX2 53 "HeatedStories$Shelf" "boilings" "I", Cond.fieldLink RX2 56 "HeatedStories$Shelf" "fizzles" "I", Cond.methodLink RX2 33 yX2_words]
def wsX0_takeBack_r2 : List Cond := [Cond.instanceMethod yX2_words, Cond.selects RX2 yX2_words yX2_words, Cond.code yX2_words cX2_words 1 (some .int)]
def wsX0_takeBack : List Cond := .code yX0_takeBack cX0_takeBack 2 none :: ((wsX0_takeBack_r1 ++ wsX0_takeBack_r2) ++ wsX00 ++ wsX20)
def wsX1_init : List Cond := .code yX1_init cX1_init 1 none :: ([.methodLink RX1 3 objectInit, .instanceMethod objectInit, .code objectInit ⟨#[0xb1]⟩ 1 none, .arrayClass .char, .fieldLink RX1 11 "HeatedStories$Pad" "characters" "[C"] ++ wsX10)
def wsX3_isWithin : List Cond := .code yX3_isWithin cX3_isWithin 3 (some .boolean) :: ([])
def wsX1_charactersIn : List Cond := .code yX1_charactersIn cX1_charactersIn 5 (some .int) :: ([.constantLong RX1 15 (255), .static yX3_isWithin, .initialized RX3, .code yX3_isWithin cX3_isWithin 3 (some .boolean)])
def wsX1_add : List Cond := .code yX1_add cX1_add 5 none :: ([.fieldLink RX1 11 "HeatedStories$Pad" "characters" "[C", .fieldLink RX1 21 "HeatedStories$Pad" "length" "I", .constantLong RX1 15 (255)] ++ wsX10)
def wsX1_isWord : List Cond := .code yX1_isWord cX1_isWord 1 (some .boolean) :: ([.static yX3_isWithin, .initialized RX3, .code yX3_isWithin cX3_isWithin 3 (some .boolean)])
def wsX1_placeBehind : List Cond := .code yX1_placeBehind cX1_placeBehind 2 (some .int) :: ([.methodLink RX1 29 yX1_isWord, .static yX1_isWord, .initialized RX1, .code yX1_isWord cX1_isWord 1 (some .boolean), .static yX3_isWithin, .initialized RX3, .code yX3_isWithin cX3_isWithin 3 (some .boolean)])
def wsX1_firstFault : List Cond := .code yX1_firstFault cX1_firstFault 3 (some .int) :: ([.fieldLink RX1 21 "HeatedStories$Pad" "length" "I", .fieldLink RX1 11 "HeatedStories$Pad" "characters" "[C", .methodLink RX1 25 yX1_placeBehind, .static yX1_placeBehind, .initialized RX1, .code yX1_placeBehind cX1_placeBehind 2 (some .int), .methodLink RX1 29 yX1_isWord, .static yX1_isWord, .code yX1_isWord cX1_isWord 1 (some .boolean), .static yX3_isWithin, .initialized RX3, .code yX3_isWithin cX3_isWithin 3 (some .boolean)] ++ wsX10)
def wsX1_storiesIn : List Cond := .code yX1_storiesIn cX1_storiesIn 3 (some .int) :: ([.fieldLink RX1 21 "HeatedStories$Pad" "length" "I", .fieldLink RX1 11 "HeatedStories$Pad" "characters" "[C"] ++ wsX10)
def wsX1_wordsIn : List Cond := .code yX1_wordsIn cX1_wordsIn 3 (some .int) :: ([.fieldLink RX1 21 "HeatedStories$Pad" "length" "I", .fieldLink RX1 11 "HeatedStories$Pad" "characters" "[C", .methodLink RX1 29 yX1_isWord, .static yX1_isWord, .initialized RX1, .code yX1_isWord cX1_isWord 1 (some .boolean), .static yX3_isWithin, .initialized RX3, .code yX3_isWithin cX3_isWithin 3 (some .boolean)] ++ wsX10)
def wsX2_addStory : List Cond := .code yX2_addStory cX2_addStory 1 none :: ([.fieldLink RX2 24 "HeatedStories$Shelf" "families" "[I", .fieldLink RX2 43 "HeatedStories$Shelf" "stories" "I", .fieldLink RX2 47 "HeatedStories$Shelf" "nextFamily" "I", .fieldLink RX2 27 "HeatedStories$Shelf" "generations" "[I", .fieldLink RX2 21 "HeatedStories$Shelf" "starts" "[I"] ++ wsX20)
def wsX2_addWord : List Cond := .code yX2_addWord cX2_addWord 3 none :: ([.fieldLink RX2 15 "HeatedStories$Shelf" "letters" "[I", .fieldLink RX2 18 "HeatedStories$Shelf" "heats" "[I", .fieldLink RX2 21 "HeatedStories$Shelf" "starts" "[I", .fieldLink RX2 43 "HeatedStories$Shelf" "stories" "I", .methodLink RX2 33 yX2_words, .instanceMethod yX2_words, .selects RX2 yX2_words yX2_words, .initialized RX2, .code yX2_words cX2_words 1 (some .int)] ++ wsX20)
def wsX2_addDigit : List Cond := .code yX2_addDigit cX2_addDigit 3 none :: ([.fieldLink RX2 18 "HeatedStories$Shelf" "heats" "[I", .methodLink RX2 33 yX2_words, .instanceMethod yX2_words, .selects RX2 yX2_words yX2_words, .initialized RX2, .code yX2_words cX2_words 1 (some .int), .fieldLink RX2 21 "HeatedStories$Shelf" "starts" "[I", .fieldLink RX2 43 "HeatedStories$Shelf" "stories" "I"] ++ wsX20)
def wsX1_writeTo_r1 : List Cond := [Cond.fieldLink RX1 21 "HeatedStories$Pad" "length" "I", Cond.fieldLink RX1 11 "HeatedStories$Pad" "characters" "[C", Cond.methodLink RX1 33 yX2_addStory, Cond.instanceMethod yX2_addStory, Cond.selects RX2 yX2_addStory yX2_addStory, Cond.initialized RX2, Cond.code yX2_addStory cX2_addStory 1 none, Cond.fieldLink RX2 24 "HeatedStories$Shelf" "families" "[I", Cond.fieldLink RX2 43 "HeatedStories$Shelf" "stories" "I", Cond.fieldLink RX2 47 "HeatedStories$Shelf" "nextFamily" "I", Cond.fieldLink RX2 27 "HeatedStories$Shelf" "generations" "[I", Cond.fieldLink RX2 21 "HeatedStories$Shelf" "starts" "[I", Cond.methodLink RX1 29 yX1_isWord, Cond.static yX1_isWord, Cond.initialized RX1, Cond.code yX1_isWord cX1_isWord 1 (some .boolean), Cond.static yX3_isWithin, Cond.initialized RX3, Cond.code yX3_isWithin cX3_isWithin 3 (some .boolean), Cond.methodLink RX1 38 yX2_addWord, Cond.instanceMethod yX2_addWord, Cond.selects RX2 yX2_addWord yX2_addWord, Cond.code yX2_addWord cX2_addWord 3 none, Cond.fieldLink RX2 15 "HeatedStories$Shelf" "letters" "[I"]
def wsX1_writeTo_r2 : List Cond := [Cond.fieldLink RX2 18 "HeatedStories$Shelf" "heats" "[I", Cond.methodLink RX2 33 yX2_words, Cond.instanceMethod yX2_words, Cond.selects RX2 yX2_words yX2_words, Cond.code yX2_words cX2_words 1 (some .int), Cond.methodLink RX1 42 yX2_addDigit, Cond.instanceMethod yX2_addDigit, Cond.selects RX2 yX2_addDigit yX2_addDigit, Cond.code yX2_addDigit cX2_addDigit 3 none]
def wsX1_writeTo : List Cond := .code yX1_writeTo cX1_writeTo 4 none :: ((wsX1_writeTo_r1 ++ wsX1_writeTo_r2) ++ wsX10 ++ wsX20)
def wsX2_hasStory : List Cond := .code yX2_hasStory cX2_hasStory 2 (some .boolean) :: ([.fieldLink RX2 43 "HeatedStories$Shelf" "stories" "I", .static yX3_isWithin, .initialized RX3, .code yX3_isWithin cX3_isWithin 3 (some .boolean)] ++ wsX20)
def wsX2_sizeOf : List Cond := .code yX2_sizeOf cX2_sizeOf 2 (some .int) :: ([.fieldLink RX2 21 "HeatedStories$Shelf" "starts" "[I"] ++ wsX20)
def wsX2_hasWord : List Cond := .code yX2_hasWord cX2_hasWord 3 (some .boolean) :: ([.methodLink RX2 63 yX2_hasStory, .instanceMethod yX2_hasStory, .selects RX2 yX2_hasStory yX2_hasStory, .initialized RX2, .code yX2_hasStory cX2_hasStory 2 (some .boolean), .fieldLink RX2 43 "HeatedStories$Shelf" "stories" "I", .static yX3_isWithin, .initialized RX3, .code yX3_isWithin cX3_isWithin 3 (some .boolean), .methodLink RX2 67 yX2_sizeOf, .instanceMethod yX2_sizeOf, .selects RX2 yX2_sizeOf yX2_sizeOf, .code yX2_sizeOf cX2_sizeOf 2 (some .int), .fieldLink RX2 21 "HeatedStories$Shelf" "starts" "[I"] ++ wsX20)
def wsX2_storyAt : List Cond := .code yX2_storyAt cX2_storyAt 3 (some .int) :: ([.fieldLink RX2 43 "HeatedStories$Shelf" "stories" "I", .fieldLink RX2 21 "HeatedStories$Shelf" "starts" "[I"] ++ wsX20)
def wsX2_placeOf : List Cond := .code yX2_placeOf cX2_placeOf 2 (some .int) :: ([.fieldLink RX2 21 "HeatedStories$Shelf" "starts" "[I", .methodLink RX2 71 yX2_storyAt, .instanceMethod yX2_storyAt, .selects RX2 yX2_storyAt yX2_storyAt, .initialized RX2, .code yX2_storyAt cX2_storyAt 3 (some .int), .fieldLink RX2 43 "HeatedStories$Shelf" "stories" "I"] ++ wsX20)
def wsX2_warm : List Cond := .code yX2_warm cX2_warm 3 none :: ([.fieldLink RX2 18 "HeatedStories$Shelf" "heats" "[I", .methodLink RX2 74 Lib.Math.min.name, .static Lib.Math.min.name, .initialized "java/lang/Math", .code Lib.Math.min.name Lib.Math.min.code 2 (some .int)] ++ wsX20)
def wsX2_remove : List Cond := .code yX2_remove cX2_remove 7 none :: ([.fieldLink RX2 21 "HeatedStories$Shelf" "starts" "[I", .fieldLink RX2 43 "HeatedStories$Shelf" "stories" "I", .fieldLink RX2 15 "HeatedStories$Shelf" "letters" "[I", .methodLink RX2 37 arraycopyName, .native arraycopyName, .static arraycopyName, .initialized "java/lang/System", .fieldLink RX2 18 "HeatedStories$Shelf" "heats" "[I", .fieldLink RX2 24 "HeatedStories$Shelf" "families" "[I", .fieldLink RX2 27 "HeatedStories$Shelf" "generations" "[I", .methodLink RX2 33 yX2_words, .instanceMethod yX2_words, .selects RX2 yX2_words yX2_words, .initialized RX2, .code yX2_words cX2_words 1 (some .int)] ++ wsX20)
def wsX2_append : List Cond := .code yX2_append cX2_append 9 none :: ([.fieldLink RX2 21 "HeatedStories$Shelf" "starts" "[I", .fieldLink RX2 15 "HeatedStories$Shelf" "letters" "[I", .methodLink RX2 37 arraycopyName, .native arraycopyName, .static arraycopyName, .initialized "java/lang/System", .fieldLink RX2 18 "HeatedStories$Shelf" "heats" "[I", .fieldLink RX2 43 "HeatedStories$Shelf" "stories" "I", .methodLink RX2 67 yX2_sizeOf, .instanceMethod yX2_sizeOf, .selects RX2 yX2_sizeOf yX2_sizeOf, .initialized RX2, .code yX2_sizeOf cX2_sizeOf 2 (some .int), .methodLink RX2 33 yX2_words, .instanceMethod yX2_words, .selects RX2 yX2_words yX2_words, .code yX2_words cX2_words 1 (some .int)] ++ wsX20)
def wsX2_isCalm : List Cond := .code yX2_isCalm cX2_isCalm 2 (some .boolean) :: ([.fieldLink RX2 18 "HeatedStories$Shelf" "heats" "[I", .fieldLink RX2 9 "HeatedStories$Shelf" "settings" "[I", .methodLink RX2 33 yX2_words, .instanceMethod yX2_words, .selects RX2 yX2_words yX2_words, .initialized RX2, .code yX2_words cX2_words 1 (some .int), .fieldLink RX2 21 "HeatedStories$Shelf" "starts" "[I", .fieldLink RX2 43 "HeatedStories$Shelf" "stories" "I"] ++ wsX20)
def wsX2_split : List Cond := .code yX2_split cX2_split 4 none :: ([.fieldLink RX2 43 "HeatedStories$Shelf" "stories" "I", .fieldLink RX2 21 "HeatedStories$Shelf" "starts" "[I", .methodLink RX2 37 arraycopyName, .native arraycopyName, .static arraycopyName, .initialized "java/lang/System", .fieldLink RX2 24 "HeatedStories$Shelf" "families" "[I", .fieldLink RX2 27 "HeatedStories$Shelf" "generations" "[I"] ++ wsX20)
def wsX2_reactAt_r1 : List Cond := [Cond.fieldLink RX2 21 "HeatedStories$Shelf" "starts" "[I", Cond.fieldLink RX2 53 "HeatedStories$Shelf" "boilings" "I", Cond.fieldLink RX2 43 "HeatedStories$Shelf" "stories" "I", Cond.fieldLink RX2 50 "HeatedStories$Shelf" "splits" "I", Cond.fieldLink RX2 56 "HeatedStories$Shelf" "fizzles" "I", Cond.fieldLink RX2 18 "HeatedStories$Shelf" "heats" "[I", Cond.fieldLink RX2 9 "HeatedStories$Shelf" "settings" "[I", Cond.methodLink RX2 71 yX2_storyAt, Cond.instanceMethod yX2_storyAt, Cond.selects RX2 yX2_storyAt yX2_storyAt, Cond.initialized RX2, Cond.code yX2_storyAt cX2_storyAt 3 (some .int), Cond.methodLink RX2 88 yX2_split, Cond.instanceMethod yX2_split, Cond.selects RX2 yX2_split yX2_split, Cond.code yX2_split cX2_split 4 none, Cond.methodLink RX2 37 arraycopyName, Cond.native arraycopyName, Cond.static arraycopyName, Cond.initialized "java/lang/System", Cond.fieldLink RX2 24 "HeatedStories$Shelf" "families" "[I", Cond.fieldLink RX2 27 "HeatedStories$Shelf" "generations" "[I", Cond.methodLink RX2 92 yX2_warm, Cond.instanceMethod yX2_warm]
def wsX2_reactAt_r2 : List Cond := [Cond.selects RX2 yX2_warm yX2_warm, Cond.code yX2_warm cX2_warm 3 none, Cond.methodLink RX2 74 Lib.Math.min.name, Cond.static Lib.Math.min.name, Cond.initialized "java/lang/Math", Cond.code Lib.Math.min.name Lib.Math.min.code 2 (some .int)]
def wsX2_reactAt : List Cond := .code yX2_reactAt cX2_reactAt 5 none :: ((wsX2_reactAt_r1 ++ wsX2_reactAt_r2) ++ wsX20)
def wsX2_react_r1 : List Cond := [Cond.constant RX2 80 (1000000), Cond.fieldLink RX2 18 "HeatedStories$Shelf" "heats" "[I", Cond.fieldLink RX2 9 "HeatedStories$Shelf" "settings" "[I", Cond.methodLink RX2 85 Lib.Math.max.name, Cond.static Lib.Math.max.name, Cond.initialized "java/lang/Math", Cond.code Lib.Math.max.name Lib.Math.max.code 2 (some .int), Cond.methodLink RX2 33 yX2_words, Cond.instanceMethod yX2_words, Cond.selects RX2 yX2_words yX2_words, Cond.initialized RX2, Cond.code yX2_words cX2_words 1 (some .int), Cond.fieldLink RX2 21 "HeatedStories$Shelf" "starts" "[I", Cond.fieldLink RX2 43 "HeatedStories$Shelf" "stories" "I", Cond.methodLink RX2 81 yX2_reactAt, Cond.instanceMethod yX2_reactAt, Cond.selects RX2 yX2_reactAt yX2_reactAt, Cond.code yX2_reactAt cX2_reactAt 5 none, Cond.fieldLink RX2 53 "HeatedStories$Shelf" "boilings" "I", Cond.fieldLink RX2 50 "HeatedStories$Shelf" "splits" "I", Cond.fieldLink RX2 56 "HeatedStories$Shelf" "fizzles" "I", Cond.methodLink RX2 71 yX2_storyAt, Cond.instanceMethod yX2_storyAt, Cond.selects RX2 yX2_storyAt yX2_storyAt]
def wsX2_react_r2 : List Cond := [Cond.code yX2_storyAt cX2_storyAt 3 (some .int), Cond.methodLink RX2 88 yX2_split, Cond.instanceMethod yX2_split, Cond.selects RX2 yX2_split yX2_split, Cond.code yX2_split cX2_split 4 none, Cond.methodLink RX2 37 arraycopyName, Cond.native arraycopyName, Cond.static arraycopyName, Cond.initialized "java/lang/System", Cond.fieldLink RX2 24 "HeatedStories$Shelf" "families" "[I", Cond.fieldLink RX2 27 "HeatedStories$Shelf" "generations" "[I", Cond.methodLink RX2 92 yX2_warm, Cond.instanceMethod yX2_warm, Cond.selects RX2 yX2_warm yX2_warm, Cond.code yX2_warm cX2_warm 3 none, Cond.methodLink RX2 74 Lib.Math.min.name, Cond.static Lib.Math.min.name, Cond.code Lib.Math.min.name Lib.Math.min.code 2 (some .int)]
def wsX2_react : List Cond := .code yX2_react cX2_react 4 (some .int) :: ((wsX2_react_r1 ++ wsX2_react_r2) ++ wsX20)
def wsX2_heatBetween : List Cond := .code yX2_heatBetween cX2_heatBetween 5 (some .int) :: ([.fieldLink RX2 18 "HeatedStories$Shelf" "heats" "[I"] ++ wsX20)
def wsX2_heatOf : List Cond := .code yX2_heatOf cX2_heatOf 2 (some .int) :: ([.fieldLink RX2 21 "HeatedStories$Shelf" "starts" "[I", .methodLink RX2 95 yX2_heatBetween, .instanceMethod yX2_heatBetween, .selects RX2 yX2_heatBetween yX2_heatBetween, .initialized RX2, .code yX2_heatBetween cX2_heatBetween 5 (some .int), .fieldLink RX2 18 "HeatedStories$Shelf" "heats" "[I"] ++ wsX20)
def wsX2_heatOfAll : List Cond := .code yX2_heatOfAll cX2_heatOfAll 1 (some .int) :: ([.methodLink RX2 33 yX2_words, .instanceMethod yX2_words, .selects RX2 yX2_words yX2_words, .initialized RX2, .code yX2_words cX2_words 1 (some .int), .fieldLink RX2 21 "HeatedStories$Shelf" "starts" "[I", .fieldLink RX2 43 "HeatedStories$Shelf" "stories" "I", .methodLink RX2 95 yX2_heatBetween, .instanceMethod yX2_heatBetween, .selects RX2 yX2_heatBetween yX2_heatBetween, .code yX2_heatBetween cX2_heatBetween 5 (some .int), .fieldLink RX2 18 "HeatedStories$Shelf" "heats" "[I"] ++ wsX20)
def wsX2_timesBetween : List Cond := .code yX2_timesBetween cX2_timesBetween 6 (some .int) :: ([.fieldLink RX2 15 "HeatedStories$Shelf" "letters" "[I"] ++ wsX20)
def wsX2_timesIn : List Cond := .code yX2_timesIn cX2_timesIn 3 (some .int) :: ([.fieldLink RX2 21 "HeatedStories$Shelf" "starts" "[I", .methodLink RX2 98 yX2_timesBetween, .instanceMethod yX2_timesBetween, .selects RX2 yX2_timesBetween yX2_timesBetween, .initialized RX2, .code yX2_timesBetween cX2_timesBetween 6 (some .int), .fieldLink RX2 15 "HeatedStories$Shelf" "letters" "[I"] ++ wsX20)
def wsX2_timesInAll : List Cond := .code yX2_timesInAll cX2_timesInAll 2 (some .int) :: ([.methodLink RX2 33 yX2_words, .instanceMethod yX2_words, .selects RX2 yX2_words yX2_words, .initialized RX2, .code yX2_words cX2_words 1 (some .int), .fieldLink RX2 21 "HeatedStories$Shelf" "starts" "[I", .fieldLink RX2 43 "HeatedStories$Shelf" "stories" "I", .methodLink RX2 98 yX2_timesBetween, .instanceMethod yX2_timesBetween, .selects RX2 yX2_timesBetween yX2_timesBetween, .code yX2_timesBetween cX2_timesBetween 6 (some .int), .fieldLink RX2 15 "HeatedStories$Shelf" "letters" "[I"] ++ wsX20)
def wsJ7_fill_53178 : List Cond := .code yJ7_fill_53178 cJ7_fill_53178 4 none :: ([])
def wsX2_tallyOf : List Cond := .code yX2_tallyOf cX2_tallyOf 3 none :: ([.fieldLink RX2 30 "HeatedStories$Shelf" "tally" "[I", .fieldLink RX2 21 "HeatedStories$Shelf" "starts" "[I", .fieldLink RX2 15 "HeatedStories$Shelf" "letters" "[I", .methodLink RX2 102 yJ7_fill_53178, .static yJ7_fill_53178, .initialized RJ7, .code yJ7_fill_53178 cJ7_fill_53178 4 none] ++ wsX20)
def wsX2_themeOf : List Cond := .code yX2_themeOf cX2_themeOf 4 (some .int) :: ([.fieldLink RX2 30 "HeatedStories$Shelf" "tally" "[I", .methodLink RX2 108 yX2_tallyOf, .instanceMethod yX2_tallyOf, .selects RX2 yX2_tallyOf yX2_tallyOf, .initialized RX2, .code yX2_tallyOf cX2_tallyOf 3 none, .fieldLink RX2 21 "HeatedStories$Shelf" "starts" "[I", .fieldLink RX2 15 "HeatedStories$Shelf" "letters" "[I", .methodLink RX2 102 yJ7_fill_53178, .static yJ7_fill_53178, .initialized RJ7, .code yJ7_fill_53178 cJ7_fill_53178 4 none] ++ wsX20)
def wsX2_unlikeLettersOf : List Cond := .code yX2_unlikeLettersOf cX2_unlikeLettersOf 4 (some .int) :: ([.fieldLink RX2 30 "HeatedStories$Shelf" "tally" "[I", .methodLink RX2 108 yX2_tallyOf, .instanceMethod yX2_tallyOf, .selects RX2 yX2_tallyOf yX2_tallyOf, .initialized RX2, .code yX2_tallyOf cX2_tallyOf 3 none, .fieldLink RX2 21 "HeatedStories$Shelf" "starts" "[I", .fieldLink RX2 15 "HeatedStories$Shelf" "letters" "[I", .methodLink RX2 102 yJ7_fill_53178, .static yJ7_fill_53178, .initialized RJ7, .code yJ7_fill_53178 cJ7_fill_53178 4 none] ++ wsX20)
def wsX2_hottestOf : List Cond := .code yX2_hottestOf cX2_hottestOf 4 (some .int) :: ([.fieldLink RX2 21 "HeatedStories$Shelf" "starts" "[I", .fieldLink RX2 18 "HeatedStories$Shelf" "heats" "[I"] ++ wsX20)
def wsX2_readsFromBothEnds : List Cond := .code yX2_readsFromBothEnds cX2_readsFromBothEnds 4 (some .boolean) :: ([.fieldLink RX2 21 "HeatedStories$Shelf" "starts" "[I", .fieldLink RX2 15 "HeatedStories$Shelf" "letters" "[I", .methodLink RX2 67 yX2_sizeOf, .instanceMethod yX2_sizeOf, .selects RX2 yX2_sizeOf yX2_sizeOf, .initialized RX2, .code yX2_sizeOf cX2_sizeOf 2 (some .int)] ++ wsX20)
def wsX2_isFirstOfFamily : List Cond := .code yX2_isFirstOfFamily cX2_isFirstOfFamily 3 (some .boolean) :: ([.fieldLink RX2 24 "HeatedStories$Shelf" "families" "[I"] ++ wsX20)
def wsX2_unlikeFamilies : List Cond := .code yX2_unlikeFamilies cX2_unlikeFamilies 3 (some .int) :: ([.fieldLink RX2 43 "HeatedStories$Shelf" "stories" "I", .methodLink RX2 111 yX2_isFirstOfFamily, .instanceMethod yX2_isFirstOfFamily, .selects RX2 yX2_isFirstOfFamily yX2_isFirstOfFamily, .initialized RX2, .code yX2_isFirstOfFamily cX2_isFirstOfFamily 3 (some .boolean), .fieldLink RX2 24 "HeatedStories$Shelf" "families" "[I"] ++ wsX20)
def wsX2_greatestGeneration : List Cond := .code yX2_greatestGeneration cX2_greatestGeneration 3 (some .int) :: ([.fieldLink RX2 43 "HeatedStories$Shelf" "stories" "I", .fieldLink RX2 27 "HeatedStories$Shelf" "generations" "[I", .methodLink RX2 85 Lib.Math.max.name, .static Lib.Math.max.name, .initialized "java/lang/Math", .code Lib.Math.max.name Lib.Math.max.code 2 (some .int)] ++ wsX20)
def wsX2_storiesWith : List Cond := .code yX2_storiesWith cX2_storiesWith 4 (some .int) :: ([.fieldLink RX2 43 "HeatedStories$Shelf" "stories" "I", .methodLink RX2 114 yX2_timesIn, .instanceMethod yX2_timesIn, .selects RX2 yX2_timesIn yX2_timesIn, .initialized RX2, .code yX2_timesIn cX2_timesIn 3 (some .int), .fieldLink RX2 21 "HeatedStories$Shelf" "starts" "[I", .methodLink RX2 98 yX2_timesBetween, .instanceMethod yX2_timesBetween, .selects RX2 yX2_timesBetween yX2_timesBetween, .code yX2_timesBetween cX2_timesBetween 6 (some .int), .fieldLink RX2 15 "HeatedStories$Shelf" "letters" "[I"] ++ wsX20)
def wsX2_storiesOfTheme : List Cond := .code yX2_storiesOfTheme cX2_storiesOfTheme 4 (some .int) :: ([.fieldLink RX2 43 "HeatedStories$Shelf" "stories" "I", .methodLink RX2 117 yX2_themeOf, .instanceMethod yX2_themeOf, .selects RX2 yX2_themeOf yX2_themeOf, .initialized RX2, .code yX2_themeOf cX2_themeOf 4 (some .int), .fieldLink RX2 30 "HeatedStories$Shelf" "tally" "[I", .methodLink RX2 108 yX2_tallyOf, .instanceMethod yX2_tallyOf, .selects RX2 yX2_tallyOf yX2_tallyOf, .code yX2_tallyOf cX2_tallyOf 3 none, .fieldLink RX2 21 "HeatedStories$Shelf" "starts" "[I", .fieldLink RX2 15 "HeatedStories$Shelf" "letters" "[I", .methodLink RX2 102 yJ7_fill_53178, .static yJ7_fill_53178, .initialized RJ7, .code yJ7_fill_53178 cJ7_fill_53178 4 none] ++ wsX20)
def wsX2_heatOfLetter : List Cond := .code yX2_heatOfLetter cX2_heatOfLetter 4 (some .int) :: ([.fieldLink RX2 15 "HeatedStories$Shelf" "letters" "[I", .fieldLink RX2 18 "HeatedStories$Shelf" "heats" "[I", .methodLink RX2 33 yX2_words, .instanceMethod yX2_words, .selects RX2 yX2_words yX2_words, .initialized RX2, .code yX2_words cX2_words 1 (some .int), .fieldLink RX2 21 "HeatedStories$Shelf" "starts" "[I", .fieldLink RX2 43 "HeatedStories$Shelf" "stories" "I"] ++ wsX20)
def wsX2_isPair : List Cond := .code yX2_isPair cX2_isPair 4 (some .boolean) :: ([.fieldLink RX2 15 "HeatedStories$Shelf" "letters" "[I", .methodLink RX2 71 yX2_storyAt, .instanceMethod yX2_storyAt, .selects RX2 yX2_storyAt yX2_storyAt, .initialized RX2, .code yX2_storyAt cX2_storyAt 3 (some .int), .fieldLink RX2 43 "HeatedStories$Shelf" "stories" "I", .fieldLink RX2 21 "HeatedStories$Shelf" "starts" "[I"] ++ wsX20)
def wsX3_init_r1 : List Cond := [Cond.methodLink RX3 1 objectInit, Cond.instanceMethod objectInit, Cond.code objectInit ⟨#[0xb1]⟩ 1 none, Cond.classLink RX3 7 RX2, Cond.instantiable RX2 12, Cond.initialized RX2, Cond.fieldLink RX3 10 "HeatedStories" "now" "LHeatedStories$Shelf;", Cond.fieldLink RX3 16 "HeatedStories" "trial" "LHeatedStories$Shelf;", Cond.classLink RX3 19 RX0, Cond.instantiable RX0 3, Cond.initialized RX0, Cond.fieldLink RX3 22 "HeatedStories" "history" "LHeatedStories$History;", Cond.fieldLink RX3 26 "HeatedStories" "slots" "[LHeatedStories$Shelf;", Cond.arrayClass .boolean, Cond.fieldLink RX3 30 "HeatedStories" "saved" "[Z", Cond.classLink RX3 34 RX1, Cond.instantiable RX1 2, Cond.initialized RX1, Cond.fieldLink RX3 37 "HeatedStories" "pad" "LHeatedStories$Pad;", Cond.arrayClass .int, Cond.fieldLink RX3 41 "HeatedStories" "runs" "[I", Cond.fieldLink RX3 45 "HeatedStories" "themes" "[I", Cond.fieldLink RX3 48 "HeatedStories" "storyHeats" "[I", Cond.instanceMethod yX2_init]
def wsX3_init_r2 : List Cond := [Cond.code yX2_init cX2_init 1 none, Cond.methodLink RX2 3 objectInit, Cond.fieldLink RX2 9 "HeatedStories$Shelf" "settings" "[I", Cond.fieldLink RX2 15 "HeatedStories$Shelf" "letters" "[I", Cond.fieldLink RX2 18 "HeatedStories$Shelf" "heats" "[I", Cond.fieldLink RX2 21 "HeatedStories$Shelf" "starts" "[I", Cond.fieldLink RX2 24 "HeatedStories$Shelf" "families" "[I", Cond.fieldLink RX2 27 "HeatedStories$Shelf" "generations" "[I", Cond.fieldLink RX2 30 "HeatedStories$Shelf" "tally" "[I", Cond.methodLink RX3 21 yX0_init, Cond.instanceMethod yX0_init, Cond.code yX0_init cX0_init 2 none, Cond.methodLink RX0 3 objectInit, Cond.classLink RX0 9 RX2, Cond.fieldLink RX0 11 "HeatedStories$History" "states" "[LHeatedStories$Shelf;", Cond.instanceMethod yX1_init, Cond.code yX1_init cX1_init 1 none, Cond.methodLink RX1 3 objectInit, Cond.arrayClass .char, Cond.fieldLink RX1 11 "HeatedStories$Pad" "characters" "[C"]
def wsX3_init : List Cond := .code yX3_init cX3_init 2 none :: ((wsX3_init_r1 ++ wsX3_init_r2) ++ wsX20 ++ wsX30 ++ wsX00 ++ wsX10)
def wsX3_set_r1 : List Cond := [Cond.fieldLink RX3 55 "HeatedStories" "LOWEST" "[I", Cond.fieldLink RX3 58 "HeatedStories" "HIGHEST" "[I", Cond.fieldLink RX3 22 "HeatedStories" "history" "LHeatedStories$History;", Cond.fieldLink RX3 10 "HeatedStories" "now" "LHeatedStories$Shelf;", Cond.fieldLink RX3 65 "HeatedStories$Shelf" "settings" "[I", Cond.methodLink RX3 51 yX3_isWithin, Cond.static yX3_isWithin, Cond.initialized RX3, Cond.code yX3_isWithin cX3_isWithin 3 (some .boolean), Cond.methodLink RX3 61 yX0_record, Cond.instanceMethod yX0_record, Cond.selects RX0 yX0_record yX0_record, Cond.initialized RX0, Cond.code yX0_record cX0_record 2 none, Cond.fieldLink RX0 11 "HeatedStories$History" "states" "[LHeatedStories$Shelf;", Cond.fieldLink RX0 18 "HeatedStories$History" "oldest" "I", Cond.fieldLink RX0 22 "HeatedStories$History" "size" "I", Cond.methodLink RX0 25 yX2_copyFrom, Cond.instanceMethod yX2_copyFrom, Cond.selects RX2 yX2_copyFrom yX2_copyFrom, Cond.initialized RX2, Cond.code yX2_copyFrom cX2_copyFrom 3 none, Cond.fieldLink RX2 9 "HeatedStories$Shelf" "settings" "[I", Cond.methodLink RX2 37 arraycopyName]
def wsX3_set_r2 : List Cond := [Cond.native arraycopyName, Cond.static arraycopyName, Cond.initialized "java/lang/System", Cond.fieldLink RX2 15 "HeatedStories$Shelf" "letters" "[I", Cond.fieldLink RX2 18 "HeatedStories$Shelf" "heats" "[I", Cond.fieldLink RX2 21 "HeatedStories$Shelf" "starts" "[I", Cond.fieldLink RX2 43 "HeatedStories$Shelf" "stories" "I", Cond.fieldLink RX2 24 "HeatedStories$Shelf" "families" "[I", Cond.fieldLink RX2 27 "HeatedStories$Shelf" "generations" "[I", Cond.fieldLink RX2 47 "HeatedStories$Shelf" "nextFamily" "I", Cond.fieldLink RX2 50 "HeatedStories$Shelf" "splits" "I", Cond.fieldLink RX2 53 "HeatedStories$Shelf" "boilings" "I", Cond.fieldLink RX2 56 "HeatedStories$Shelf" "fizzles" "I", Cond.methodLink RX2 33 yX2_words, Cond.instanceMethod yX2_words, Cond.selects RX2 yX2_words yX2_words, Cond.code yX2_words cX2_words 1 (some .int)]
def wsX3_set : List Cond := .code yX3_set cX3_set 4 (some .int) :: ((wsX3_set_r1 ++ wsX3_set_r2) ++ wsX30 ++ wsX20 ++ wsX00)
def wsX3_write_r1 : List Cond := [Cond.fieldLink RX3 37 "HeatedStories" "pad" "LHeatedStories$Pad;", Cond.fieldLink RX3 10 "HeatedStories" "now" "LHeatedStories$Shelf;", Cond.fieldLink RX3 72 "HeatedStories$Shelf" "stories" "I", Cond.fieldLink RX3 22 "HeatedStories" "history" "LHeatedStories$History;", Cond.fieldLink RX3 88 "HeatedStories$Pad" "length" "I", Cond.methodLink RX3 68 yX1_firstFault, Cond.instanceMethod yX1_firstFault, Cond.selects RX1 yX1_firstFault yX1_firstFault, Cond.initialized RX1, Cond.code yX1_firstFault cX1_firstFault 3 (some .int), Cond.fieldLink RX1 21 "HeatedStories$Pad" "length" "I", Cond.fieldLink RX1 11 "HeatedStories$Pad" "characters" "[C", Cond.methodLink RX1 25 yX1_placeBehind, Cond.static yX1_placeBehind, Cond.code yX1_placeBehind cX1_placeBehind 2 (some .int), Cond.methodLink RX1 29 yX1_isWord, Cond.static yX1_isWord, Cond.code yX1_isWord cX1_isWord 1 (some .boolean), Cond.static yX3_isWithin, Cond.initialized RX3, Cond.code yX3_isWithin cX3_isWithin 3 (some .boolean), Cond.methodLink RX3 76 yX1_storiesIn, Cond.instanceMethod yX1_storiesIn, Cond.selects RX1 yX1_storiesIn yX1_storiesIn]
def wsX3_write_r2 : List Cond := [Cond.code yX1_storiesIn cX1_storiesIn 3 (some .int), Cond.methodLink RX3 79 yX2_words, Cond.instanceMethod yX2_words, Cond.selects RX2 yX2_words yX2_words, Cond.initialized RX2, Cond.code yX2_words cX2_words 1 (some .int), Cond.fieldLink RX2 21 "HeatedStories$Shelf" "starts" "[I", Cond.fieldLink RX2 43 "HeatedStories$Shelf" "stories" "I", Cond.methodLink RX3 82 yX1_wordsIn, Cond.instanceMethod yX1_wordsIn, Cond.selects RX1 yX1_wordsIn yX1_wordsIn, Cond.code yX1_wordsIn cX1_wordsIn 3 (some .int), Cond.methodLink RX3 61 yX0_record, Cond.instanceMethod yX0_record, Cond.selects RX0 yX0_record yX0_record, Cond.initialized RX0, Cond.code yX0_record cX0_record 2 none, Cond.fieldLink RX0 11 "HeatedStories$History" "states" "[LHeatedStories$Shelf;", Cond.fieldLink RX0 18 "HeatedStories$History" "oldest" "I", Cond.fieldLink RX0 22 "HeatedStories$History" "size" "I", Cond.methodLink RX0 25 yX2_copyFrom, Cond.instanceMethod yX2_copyFrom, Cond.selects RX2 yX2_copyFrom yX2_copyFrom, Cond.code yX2_copyFrom cX2_copyFrom 3 none]
def wsX3_write_r3 : List Cond := [Cond.fieldLink RX2 9 "HeatedStories$Shelf" "settings" "[I", Cond.methodLink RX2 37 arraycopyName, Cond.native arraycopyName, Cond.static arraycopyName, Cond.initialized "java/lang/System", Cond.fieldLink RX2 15 "HeatedStories$Shelf" "letters" "[I", Cond.fieldLink RX2 18 "HeatedStories$Shelf" "heats" "[I", Cond.fieldLink RX2 24 "HeatedStories$Shelf" "families" "[I", Cond.fieldLink RX2 27 "HeatedStories$Shelf" "generations" "[I", Cond.fieldLink RX2 47 "HeatedStories$Shelf" "nextFamily" "I", Cond.fieldLink RX2 50 "HeatedStories$Shelf" "splits" "I", Cond.fieldLink RX2 53 "HeatedStories$Shelf" "boilings" "I", Cond.fieldLink RX2 56 "HeatedStories$Shelf" "fizzles" "I", Cond.methodLink RX2 33 yX2_words, Cond.methodLink RX3 85 yX1_writeTo, Cond.instanceMethod yX1_writeTo, Cond.selects RX1 yX1_writeTo yX1_writeTo, Cond.code yX1_writeTo cX1_writeTo 4 none, Cond.methodLink RX1 33 yX2_addStory, Cond.instanceMethod yX2_addStory, Cond.selects RX2 yX2_addStory yX2_addStory, Cond.code yX2_addStory cX2_addStory 1 none, Cond.methodLink RX1 38 yX2_addWord, Cond.instanceMethod yX2_addWord]
def wsX3_write_r4 : List Cond := [Cond.selects RX2 yX2_addWord yX2_addWord, Cond.code yX2_addWord cX2_addWord 3 none, Cond.methodLink RX1 42 yX2_addDigit, Cond.instanceMethod yX2_addDigit, Cond.selects RX2 yX2_addDigit yX2_addDigit, Cond.code yX2_addDigit cX2_addDigit 3 none, Cond.methodLink RX3 91 yX2_react, Cond.instanceMethod yX2_react, Cond.selects RX2 yX2_react yX2_react, Cond.code yX2_react cX2_react 4 (some .int), Cond.constant RX2 80 (1000000), Cond.methodLink RX2 85 Lib.Math.max.name, Cond.static Lib.Math.max.name, Cond.initialized "java/lang/Math", Cond.code Lib.Math.max.name Lib.Math.max.code 2 (some .int), Cond.methodLink RX2 81 yX2_reactAt, Cond.instanceMethod yX2_reactAt, Cond.selects RX2 yX2_reactAt yX2_reactAt, Cond.code yX2_reactAt cX2_reactAt 5 none, Cond.methodLink RX2 71 yX2_storyAt, Cond.instanceMethod yX2_storyAt, Cond.selects RX2 yX2_storyAt yX2_storyAt, Cond.code yX2_storyAt cX2_storyAt 3 (some .int), Cond.methodLink RX2 88 yX2_split]
def wsX3_write_r5 : List Cond := [Cond.instanceMethod yX2_split, Cond.selects RX2 yX2_split yX2_split, Cond.code yX2_split cX2_split 4 none, Cond.methodLink RX2 92 yX2_warm, Cond.instanceMethod yX2_warm, Cond.selects RX2 yX2_warm yX2_warm, Cond.code yX2_warm cX2_warm 3 none, Cond.methodLink RX2 74 Lib.Math.min.name, Cond.static Lib.Math.min.name, Cond.code Lib.Math.min.name Lib.Math.min.code 2 (some .int)]
def wsX3_write : List Cond := .code yX3_write cX3_write 1 (some .int) :: ((wsX3_write_r1 ++ (wsX3_write_r2 ++ (wsX3_write_r3 ++ (wsX3_write_r4 ++ wsX3_write_r5)))) ++ wsX30 ++ wsX20 ++ wsX10 ++ wsX00)
def wsX3_heat_r1 : List Cond := [Cond.fieldLink RX3 10 "HeatedStories" "now" "LHeatedStories$Shelf;", Cond.fieldLink RX3 22 "HeatedStories" "history" "LHeatedStories$History;", Cond.fieldLink RX3 98 "HeatedStories$Shelf" "starts" "[I", Cond.methodLink RX3 94 yX2_hasWord, Cond.instanceMethod yX2_hasWord, Cond.selects RX2 yX2_hasWord yX2_hasWord, Cond.initialized RX2, Cond.code yX2_hasWord cX2_hasWord 3 (some .boolean), Cond.methodLink RX2 63 yX2_hasStory, Cond.instanceMethod yX2_hasStory, Cond.selects RX2 yX2_hasStory yX2_hasStory, Cond.code yX2_hasStory cX2_hasStory 2 (some .boolean), Cond.fieldLink RX2 43 "HeatedStories$Shelf" "stories" "I", Cond.static yX3_isWithin, Cond.initialized RX3, Cond.code yX3_isWithin cX3_isWithin 3 (some .boolean), Cond.methodLink RX2 67 yX2_sizeOf, Cond.instanceMethod yX2_sizeOf, Cond.selects RX2 yX2_sizeOf yX2_sizeOf, Cond.code yX2_sizeOf cX2_sizeOf 2 (some .int), Cond.fieldLink RX2 21 "HeatedStories$Shelf" "starts" "[I", Cond.methodLink RX3 51 yX3_isWithin, Cond.methodLink RX3 61 yX0_record, Cond.instanceMethod yX0_record]
def wsX3_heat_r2 : List Cond := [Cond.selects RX0 yX0_record yX0_record, Cond.initialized RX0, Cond.code yX0_record cX0_record 2 none, Cond.fieldLink RX0 11 "HeatedStories$History" "states" "[LHeatedStories$Shelf;", Cond.fieldLink RX0 18 "HeatedStories$History" "oldest" "I", Cond.fieldLink RX0 22 "HeatedStories$History" "size" "I", Cond.methodLink RX0 25 yX2_copyFrom, Cond.instanceMethod yX2_copyFrom, Cond.selects RX2 yX2_copyFrom yX2_copyFrom, Cond.code yX2_copyFrom cX2_copyFrom 3 none, Cond.fieldLink RX2 9 "HeatedStories$Shelf" "settings" "[I", Cond.methodLink RX2 37 arraycopyName, Cond.native arraycopyName, Cond.static arraycopyName, Cond.initialized "java/lang/System", Cond.fieldLink RX2 15 "HeatedStories$Shelf" "letters" "[I", Cond.fieldLink RX2 18 "HeatedStories$Shelf" "heats" "[I", Cond.fieldLink RX2 24 "HeatedStories$Shelf" "families" "[I", Cond.fieldLink RX2 27 "HeatedStories$Shelf" "generations" "[I", Cond.fieldLink RX2 47 "HeatedStories$Shelf" "nextFamily" "I", Cond.fieldLink RX2 50 "HeatedStories$Shelf" "splits" "I", Cond.fieldLink RX2 53 "HeatedStories$Shelf" "boilings" "I", Cond.fieldLink RX2 56 "HeatedStories$Shelf" "fizzles" "I", Cond.methodLink RX2 33 yX2_words]
def wsX3_heat_r3 : List Cond := [Cond.instanceMethod yX2_words, Cond.selects RX2 yX2_words yX2_words, Cond.code yX2_words cX2_words 1 (some .int), Cond.methodLink RX3 101 yX2_warm, Cond.instanceMethod yX2_warm, Cond.selects RX2 yX2_warm yX2_warm, Cond.code yX2_warm cX2_warm 3 none, Cond.methodLink RX2 74 Lib.Math.min.name, Cond.static Lib.Math.min.name, Cond.initialized "java/lang/Math", Cond.code Lib.Math.min.name Lib.Math.min.code 2 (some .int), Cond.methodLink RX3 91 yX2_react, Cond.instanceMethod yX2_react, Cond.selects RX2 yX2_react yX2_react, Cond.code yX2_react cX2_react 4 (some .int), Cond.constant RX2 80 (1000000), Cond.methodLink RX2 85 Lib.Math.max.name, Cond.static Lib.Math.max.name, Cond.code Lib.Math.max.name Lib.Math.max.code 2 (some .int), Cond.methodLink RX2 81 yX2_reactAt, Cond.instanceMethod yX2_reactAt, Cond.selects RX2 yX2_reactAt yX2_reactAt, Cond.code yX2_reactAt cX2_reactAt 5 none, Cond.methodLink RX2 71 yX2_storyAt]
def wsX3_heat_r4 : List Cond := [Cond.instanceMethod yX2_storyAt, Cond.selects RX2 yX2_storyAt yX2_storyAt, Cond.code yX2_storyAt cX2_storyAt 3 (some .int), Cond.methodLink RX2 88 yX2_split, Cond.instanceMethod yX2_split, Cond.selects RX2 yX2_split yX2_split, Cond.code yX2_split cX2_split 4 none, Cond.methodLink RX2 92 yX2_warm]
def wsX3_heat : List Cond := .code yX3_heat cX3_heat 4 (some .int) :: ((wsX3_heat_r1 ++ (wsX3_heat_r2 ++ (wsX3_heat_r3 ++ wsX3_heat_r4))) ++ wsX30 ++ wsX20 ++ wsX00)
def wsX3_read_r1 : List Cond := [Cond.fieldLink RX3 10 "HeatedStories" "now" "LHeatedStories$Shelf;", Cond.fieldLink RX3 22 "HeatedStories" "history" "LHeatedStories$History;", Cond.fieldLink RX3 98 "HeatedStories$Shelf" "starts" "[I", Cond.methodLink RX3 105 yX2_hasStory, Cond.instanceMethod yX2_hasStory, Cond.selects RX2 yX2_hasStory yX2_hasStory, Cond.initialized RX2, Cond.code yX2_hasStory cX2_hasStory 2 (some .boolean), Cond.fieldLink RX2 43 "HeatedStories$Shelf" "stories" "I", Cond.static yX3_isWithin, Cond.initialized RX3, Cond.code yX3_isWithin cX3_isWithin 3 (some .boolean), Cond.methodLink RX3 51 yX3_isWithin, Cond.methodLink RX3 61 yX0_record, Cond.instanceMethod yX0_record, Cond.selects RX0 yX0_record yX0_record, Cond.initialized RX0, Cond.code yX0_record cX0_record 2 none, Cond.fieldLink RX0 11 "HeatedStories$History" "states" "[LHeatedStories$Shelf;", Cond.fieldLink RX0 18 "HeatedStories$History" "oldest" "I", Cond.fieldLink RX0 22 "HeatedStories$History" "size" "I", Cond.methodLink RX0 25 yX2_copyFrom, Cond.instanceMethod yX2_copyFrom, Cond.selects RX2 yX2_copyFrom yX2_copyFrom]
def wsX3_read_r2 : List Cond := [Cond.code yX2_copyFrom cX2_copyFrom 3 none, Cond.fieldLink RX2 9 "HeatedStories$Shelf" "settings" "[I", Cond.methodLink RX2 37 arraycopyName, Cond.native arraycopyName, Cond.static arraycopyName, Cond.initialized "java/lang/System", Cond.fieldLink RX2 15 "HeatedStories$Shelf" "letters" "[I", Cond.fieldLink RX2 18 "HeatedStories$Shelf" "heats" "[I", Cond.fieldLink RX2 21 "HeatedStories$Shelf" "starts" "[I", Cond.fieldLink RX2 24 "HeatedStories$Shelf" "families" "[I", Cond.fieldLink RX2 27 "HeatedStories$Shelf" "generations" "[I", Cond.fieldLink RX2 47 "HeatedStories$Shelf" "nextFamily" "I", Cond.fieldLink RX2 50 "HeatedStories$Shelf" "splits" "I", Cond.fieldLink RX2 53 "HeatedStories$Shelf" "boilings" "I", Cond.fieldLink RX2 56 "HeatedStories$Shelf" "fizzles" "I", Cond.methodLink RX2 33 yX2_words, Cond.instanceMethod yX2_words, Cond.selects RX2 yX2_words yX2_words, Cond.code yX2_words cX2_words 1 (some .int), Cond.methodLink RX3 101 yX2_warm, Cond.instanceMethod yX2_warm, Cond.selects RX2 yX2_warm yX2_warm, Cond.code yX2_warm cX2_warm 3 none, Cond.methodLink RX2 74 Lib.Math.min.name]
def wsX3_read_r3 : List Cond := [Cond.static Lib.Math.min.name, Cond.initialized "java/lang/Math", Cond.code Lib.Math.min.name Lib.Math.min.code 2 (some .int), Cond.methodLink RX3 91 yX2_react, Cond.instanceMethod yX2_react, Cond.selects RX2 yX2_react yX2_react, Cond.code yX2_react cX2_react 4 (some .int), Cond.constant RX2 80 (1000000), Cond.methodLink RX2 85 Lib.Math.max.name, Cond.static Lib.Math.max.name, Cond.code Lib.Math.max.name Lib.Math.max.code 2 (some .int), Cond.methodLink RX2 81 yX2_reactAt, Cond.instanceMethod yX2_reactAt, Cond.selects RX2 yX2_reactAt yX2_reactAt, Cond.code yX2_reactAt cX2_reactAt 5 none, Cond.methodLink RX2 71 yX2_storyAt, Cond.instanceMethod yX2_storyAt, Cond.selects RX2 yX2_storyAt yX2_storyAt, Cond.code yX2_storyAt cX2_storyAt 3 (some .int), Cond.methodLink RX2 88 yX2_split, Cond.instanceMethod yX2_split, Cond.selects RX2 yX2_split yX2_split, Cond.code yX2_split cX2_split 4 none, Cond.methodLink RX2 92 yX2_warm]
def wsX3_read : List Cond := .code yX3_read cX3_read 4 (some .int) :: ((wsX3_read_r1 ++ (wsX3_read_r2 ++ wsX3_read_r3)) ++ wsX30 ++ wsX20 ++ wsX00)
def wsX3_fuse_r1 : List Cond := [Cond.fieldLink RX3 10 "HeatedStories" "now" "LHeatedStories$Shelf;", Cond.fieldLink RX3 22 "HeatedStories" "history" "LHeatedStories$History;", Cond.fieldLink RX3 16 "HeatedStories" "trial" "LHeatedStories$Shelf;", Cond.fieldLink RX3 98 "HeatedStories$Shelf" "starts" "[I", Cond.fieldLink RX3 124 "HeatedStories$Shelf" "generations" "[I", Cond.methodLink RX3 127 Lib.Math.max.name, Cond.static Lib.Math.max.name, Cond.initialized "java/lang/Math", Cond.code Lib.Math.max.name Lib.Math.max.code 2 (some .int), Cond.fieldLink RX3 65 "HeatedStories$Shelf" "settings" "[I", Cond.methodLink RX3 105 yX2_hasStory, Cond.instanceMethod yX2_hasStory, Cond.selects RX2 yX2_hasStory yX2_hasStory, Cond.initialized RX2, Cond.code yX2_hasStory cX2_hasStory 2 (some .boolean), Cond.fieldLink RX2 43 "HeatedStories$Shelf" "stories" "I", Cond.static yX3_isWithin, Cond.initialized RX3, Cond.code yX3_isWithin cX3_isWithin 3 (some .boolean), Cond.methodLink RX3 109 yX2_themeOf, Cond.instanceMethod yX2_themeOf, Cond.selects RX2 yX2_themeOf yX2_themeOf, Cond.code yX2_themeOf cX2_themeOf 4 (some .int), Cond.fieldLink RX2 30 "HeatedStories$Shelf" "tally" "[I"]
def wsX3_fuse_r2 : List Cond := [Cond.methodLink RX2 108 yX2_tallyOf, Cond.instanceMethod yX2_tallyOf, Cond.selects RX2 yX2_tallyOf yX2_tallyOf, Cond.code yX2_tallyOf cX2_tallyOf 3 none, Cond.fieldLink RX2 21 "HeatedStories$Shelf" "starts" "[I", Cond.fieldLink RX2 15 "HeatedStories$Shelf" "letters" "[I", Cond.methodLink RX2 102 yJ7_fill_53178, Cond.static yJ7_fill_53178, Cond.initialized RJ7, Cond.code yJ7_fill_53178 cJ7_fill_53178 4 none, Cond.methodLink RX3 61 yX0_record, Cond.instanceMethod yX0_record, Cond.selects RX0 yX0_record yX0_record, Cond.initialized RX0, Cond.code yX0_record cX0_record 2 none, Cond.fieldLink RX0 11 "HeatedStories$History" "states" "[LHeatedStories$Shelf;", Cond.fieldLink RX0 18 "HeatedStories$History" "oldest" "I", Cond.fieldLink RX0 22 "HeatedStories$History" "size" "I", Cond.methodLink RX0 25 yX2_copyFrom, Cond.instanceMethod yX2_copyFrom, Cond.selects RX2 yX2_copyFrom yX2_copyFrom, Cond.code yX2_copyFrom cX2_copyFrom 3 none, Cond.fieldLink RX2 9 "HeatedStories$Shelf" "settings" "[I", Cond.methodLink RX2 37 arraycopyName]
def wsX3_fuse_r3 : List Cond := [Cond.native arraycopyName, Cond.static arraycopyName, Cond.initialized "java/lang/System", Cond.fieldLink RX2 18 "HeatedStories$Shelf" "heats" "[I", Cond.fieldLink RX2 24 "HeatedStories$Shelf" "families" "[I", Cond.fieldLink RX2 27 "HeatedStories$Shelf" "generations" "[I", Cond.fieldLink RX2 47 "HeatedStories$Shelf" "nextFamily" "I", Cond.fieldLink RX2 50 "HeatedStories$Shelf" "splits" "I", Cond.fieldLink RX2 53 "HeatedStories$Shelf" "boilings" "I", Cond.fieldLink RX2 56 "HeatedStories$Shelf" "fizzles" "I", Cond.methodLink RX2 33 yX2_words, Cond.instanceMethod yX2_words, Cond.selects RX2 yX2_words yX2_words, Cond.code yX2_words cX2_words 1 (some .int), Cond.methodLink RX3 113 yX2_copyFrom, Cond.methodLink RX3 116 yX2_remove, Cond.instanceMethod yX2_remove, Cond.selects RX2 yX2_remove yX2_remove, Cond.code yX2_remove cX2_remove 7 none, Cond.methodLink RX3 120 yX2_append, Cond.instanceMethod yX2_append, Cond.selects RX2 yX2_append yX2_append, Cond.code yX2_append cX2_append 9 none, Cond.methodLink RX2 67 yX2_sizeOf]
def wsX3_fuse_r4 : List Cond := [Cond.instanceMethod yX2_sizeOf, Cond.selects RX2 yX2_sizeOf yX2_sizeOf, Cond.code yX2_sizeOf cX2_sizeOf 2 (some .int), Cond.methodLink RX3 101 yX2_warm, Cond.instanceMethod yX2_warm, Cond.selects RX2 yX2_warm yX2_warm, Cond.code yX2_warm cX2_warm 3 none, Cond.methodLink RX2 74 Lib.Math.min.name, Cond.static Lib.Math.min.name, Cond.code Lib.Math.min.name Lib.Math.min.code 2 (some .int), Cond.methodLink RX3 91 yX2_react, Cond.instanceMethod yX2_react, Cond.selects RX2 yX2_react yX2_react, Cond.code yX2_react cX2_react 4 (some .int), Cond.constant RX2 80 (1000000), Cond.methodLink RX2 85 Lib.Math.max.name, Cond.methodLink RX2 81 yX2_reactAt, Cond.instanceMethod yX2_reactAt, Cond.selects RX2 yX2_reactAt yX2_reactAt, Cond.code yX2_reactAt cX2_reactAt 5 none, Cond.methodLink RX2 71 yX2_storyAt, Cond.instanceMethod yX2_storyAt, Cond.selects RX2 yX2_storyAt yX2_storyAt, Cond.code yX2_storyAt cX2_storyAt 3 (some .int)]
def wsX3_fuse_r5 : List Cond := [Cond.methodLink RX2 88 yX2_split, Cond.instanceMethod yX2_split, Cond.selects RX2 yX2_split yX2_split, Cond.code yX2_split cX2_split 4 none, Cond.methodLink RX2 92 yX2_warm]
def wsX3_fuse : List Cond := .code yX3_fuse cX3_fuse 5 (some .int) :: ((wsX3_fuse_r1 ++ (wsX3_fuse_r2 ++ (wsX3_fuse_r3 ++ (wsX3_fuse_r4 ++ wsX3_fuse_r5)))) ++ wsX30 ++ wsX20 ++ wsX00)
def wsX3_pass_r1 : List Cond := [Cond.fieldLink RX3 22 "HeatedStories" "history" "LHeatedStories$History;", Cond.fieldLink RX3 10 "HeatedStories" "now" "LHeatedStories$Shelf;", Cond.fieldLink RX3 65 "HeatedStories$Shelf" "settings" "[I", Cond.fieldLink RX3 133 "HeatedStories$Shelf" "heats" "[I", Cond.methodLink RX3 127 Lib.Math.max.name, Cond.static Lib.Math.max.name, Cond.initialized "java/lang/Math", Cond.code Lib.Math.max.name Lib.Math.max.code 2 (some .int), Cond.methodLink RX3 51 yX3_isWithin, Cond.static yX3_isWithin, Cond.initialized RX3, Cond.code yX3_isWithin cX3_isWithin 3 (some .boolean), Cond.methodLink RX3 61 yX0_record, Cond.instanceMethod yX0_record, Cond.selects RX0 yX0_record yX0_record, Cond.initialized RX0, Cond.code yX0_record cX0_record 2 none, Cond.fieldLink RX0 11 "HeatedStories$History" "states" "[LHeatedStories$Shelf;", Cond.fieldLink RX0 18 "HeatedStories$History" "oldest" "I", Cond.fieldLink RX0 22 "HeatedStories$History" "size" "I", Cond.methodLink RX0 25 yX2_copyFrom, Cond.instanceMethod yX2_copyFrom, Cond.selects RX2 yX2_copyFrom yX2_copyFrom, Cond.initialized RX2]
def wsX3_pass_r2 : List Cond := [Cond.code yX2_copyFrom cX2_copyFrom 3 none, Cond.fieldLink RX2 9 "HeatedStories$Shelf" "settings" "[I", Cond.methodLink RX2 37 arraycopyName, Cond.native arraycopyName, Cond.static arraycopyName, Cond.initialized "java/lang/System", Cond.fieldLink RX2 15 "HeatedStories$Shelf" "letters" "[I", Cond.fieldLink RX2 18 "HeatedStories$Shelf" "heats" "[I", Cond.fieldLink RX2 21 "HeatedStories$Shelf" "starts" "[I", Cond.fieldLink RX2 43 "HeatedStories$Shelf" "stories" "I", Cond.fieldLink RX2 24 "HeatedStories$Shelf" "families" "[I", Cond.fieldLink RX2 27 "HeatedStories$Shelf" "generations" "[I", Cond.fieldLink RX2 47 "HeatedStories$Shelf" "nextFamily" "I", Cond.fieldLink RX2 50 "HeatedStories$Shelf" "splits" "I", Cond.fieldLink RX2 53 "HeatedStories$Shelf" "boilings" "I", Cond.fieldLink RX2 56 "HeatedStories$Shelf" "fizzles" "I", Cond.methodLink RX2 33 yX2_words, Cond.instanceMethod yX2_words, Cond.selects RX2 yX2_words yX2_words, Cond.code yX2_words cX2_words 1 (some .int), Cond.methodLink RX3 79 yX2_words, Cond.methodLink RX3 136 yX2_heatOfAll, Cond.instanceMethod yX2_heatOfAll, Cond.selects RX2 yX2_heatOfAll yX2_heatOfAll]
def wsX3_pass_r3 : List Cond := [Cond.code yX2_heatOfAll cX2_heatOfAll 1 (some .int), Cond.methodLink RX2 95 yX2_heatBetween, Cond.instanceMethod yX2_heatBetween, Cond.selects RX2 yX2_heatBetween yX2_heatBetween, Cond.code yX2_heatBetween cX2_heatBetween 5 (some .int)]
def wsX3_pass : List Cond := .code yX3_pass cX3_pass 4 (some .int) :: ((wsX3_pass_r1 ++ (wsX3_pass_r2 ++ wsX3_pass_r3)) ++ wsX30 ++ wsX20 ++ wsX00)
def wsX3_burn_r1 : List Cond := [Cond.fieldLink RX3 10 "HeatedStories" "now" "LHeatedStories$Shelf;", Cond.fieldLink RX3 22 "HeatedStories" "history" "LHeatedStories$History;", Cond.methodLink RX3 105 yX2_hasStory, Cond.instanceMethod yX2_hasStory, Cond.selects RX2 yX2_hasStory yX2_hasStory, Cond.initialized RX2, Cond.code yX2_hasStory cX2_hasStory 2 (some .boolean), Cond.fieldLink RX2 43 "HeatedStories$Shelf" "stories" "I", Cond.static yX3_isWithin, Cond.initialized RX3, Cond.code yX3_isWithin cX3_isWithin 3 (some .boolean), Cond.methodLink RX3 61 yX0_record, Cond.instanceMethod yX0_record, Cond.selects RX0 yX0_record yX0_record, Cond.initialized RX0, Cond.code yX0_record cX0_record 2 none, Cond.fieldLink RX0 11 "HeatedStories$History" "states" "[LHeatedStories$Shelf;", Cond.fieldLink RX0 18 "HeatedStories$History" "oldest" "I", Cond.fieldLink RX0 22 "HeatedStories$History" "size" "I", Cond.methodLink RX0 25 yX2_copyFrom, Cond.instanceMethod yX2_copyFrom, Cond.selects RX2 yX2_copyFrom yX2_copyFrom, Cond.code yX2_copyFrom cX2_copyFrom 3 none, Cond.fieldLink RX2 9 "HeatedStories$Shelf" "settings" "[I"]
def wsX3_burn_r2 : List Cond := [Cond.methodLink RX2 37 arraycopyName, Cond.native arraycopyName, Cond.static arraycopyName, Cond.initialized "java/lang/System", Cond.fieldLink RX2 15 "HeatedStories$Shelf" "letters" "[I", Cond.fieldLink RX2 18 "HeatedStories$Shelf" "heats" "[I", Cond.fieldLink RX2 21 "HeatedStories$Shelf" "starts" "[I", Cond.fieldLink RX2 24 "HeatedStories$Shelf" "families" "[I", Cond.fieldLink RX2 27 "HeatedStories$Shelf" "generations" "[I", Cond.fieldLink RX2 47 "HeatedStories$Shelf" "nextFamily" "I", Cond.fieldLink RX2 50 "HeatedStories$Shelf" "splits" "I", Cond.fieldLink RX2 53 "HeatedStories$Shelf" "boilings" "I", Cond.fieldLink RX2 56 "HeatedStories$Shelf" "fizzles" "I", Cond.methodLink RX2 33 yX2_words, Cond.instanceMethod yX2_words, Cond.selects RX2 yX2_words yX2_words, Cond.code yX2_words cX2_words 1 (some .int), Cond.methodLink RX3 139 yX2_sizeOf, Cond.instanceMethod yX2_sizeOf, Cond.selects RX2 yX2_sizeOf yX2_sizeOf, Cond.code yX2_sizeOf cX2_sizeOf 2 (some .int), Cond.methodLink RX3 116 yX2_remove, Cond.instanceMethod yX2_remove, Cond.selects RX2 yX2_remove yX2_remove]
def wsX3_burn_r3 : List Cond := [Cond.code yX2_remove cX2_remove 7 none]
def wsX3_burn : List Cond := .code yX3_burn cX3_burn 3 (some .int) :: ((wsX3_burn_r1 ++ (wsX3_burn_r2 ++ wsX3_burn_r3)) ++ wsX30 ++ wsX20 ++ wsX00)
def wsX3_word_r1 : List Cond := [Cond.fieldLink RX3 10 "HeatedStories" "now" "LHeatedStories$Shelf;", Cond.fieldLink RX3 98 "HeatedStories$Shelf" "starts" "[I", Cond.fieldLink RX3 142 "HeatedStories$Shelf" "letters" "[I", Cond.fieldLink RX3 133 "HeatedStories$Shelf" "heats" "[I", Cond.methodLink RX3 94 yX2_hasWord, Cond.instanceMethod yX2_hasWord, Cond.selects RX2 yX2_hasWord yX2_hasWord, Cond.initialized RX2, Cond.code yX2_hasWord cX2_hasWord 3 (some .boolean), Cond.methodLink RX2 63 yX2_hasStory, Cond.instanceMethod yX2_hasStory, Cond.selects RX2 yX2_hasStory yX2_hasStory, Cond.code yX2_hasStory cX2_hasStory 2 (some .boolean), Cond.fieldLink RX2 43 "HeatedStories$Shelf" "stories" "I", Cond.static yX3_isWithin, Cond.initialized RX3, Cond.code yX3_isWithin cX3_isWithin 3 (some .boolean), Cond.methodLink RX2 67 yX2_sizeOf, Cond.instanceMethod yX2_sizeOf, Cond.selects RX2 yX2_sizeOf yX2_sizeOf, Cond.code yX2_sizeOf cX2_sizeOf 2 (some .int), Cond.fieldLink RX2 21 "HeatedStories$Shelf" "starts" "[I", Cond.methodLink RX3 145 yX2_timesIn, Cond.instanceMethod yX2_timesIn]
def wsX3_word_r2 : List Cond := [Cond.selects RX2 yX2_timesIn yX2_timesIn, Cond.code yX2_timesIn cX2_timesIn 3 (some .int), Cond.methodLink RX2 98 yX2_timesBetween, Cond.instanceMethod yX2_timesBetween, Cond.selects RX2 yX2_timesBetween yX2_timesBetween, Cond.code yX2_timesBetween cX2_timesBetween 6 (some .int), Cond.fieldLink RX2 15 "HeatedStories$Shelf" "letters" "[I"]
def wsX3_word : List Cond := .code yX3_word cX3_word 5 (some .int) :: ((wsX3_word_r1 ++ wsX3_word_r2) ++ wsX30 ++ wsX20)
def wsX3_story_r1 : List Cond := [Cond.fieldLink RX3 10 "HeatedStories" "now" "LHeatedStories$Shelf;", Cond.fieldLink RX3 151 "HeatedStories$Shelf" "families" "[I", Cond.fieldLink RX3 124 "HeatedStories$Shelf" "generations" "[I", Cond.methodLink RX3 105 yX2_hasStory, Cond.instanceMethod yX2_hasStory, Cond.selects RX2 yX2_hasStory yX2_hasStory, Cond.initialized RX2, Cond.code yX2_hasStory cX2_hasStory 2 (some .boolean), Cond.fieldLink RX2 43 "HeatedStories$Shelf" "stories" "I", Cond.static yX3_isWithin, Cond.initialized RX3, Cond.code yX3_isWithin cX3_isWithin 3 (some .boolean), Cond.methodLink RX3 139 yX2_sizeOf, Cond.instanceMethod yX2_sizeOf, Cond.selects RX2 yX2_sizeOf yX2_sizeOf, Cond.code yX2_sizeOf cX2_sizeOf 2 (some .int), Cond.fieldLink RX2 21 "HeatedStories$Shelf" "starts" "[I", Cond.methodLink RX3 148 yX2_heatOf, Cond.instanceMethod yX2_heatOf, Cond.selects RX2 yX2_heatOf yX2_heatOf, Cond.code yX2_heatOf cX2_heatOf 2 (some .int), Cond.methodLink RX2 95 yX2_heatBetween, Cond.instanceMethod yX2_heatBetween, Cond.selects RX2 yX2_heatBetween yX2_heatBetween]
def wsX3_story_r2 : List Cond := [Cond.code yX2_heatBetween cX2_heatBetween 5 (some .int), Cond.fieldLink RX2 18 "HeatedStories$Shelf" "heats" "[I", Cond.methodLink RX3 109 yX2_themeOf, Cond.instanceMethod yX2_themeOf, Cond.selects RX2 yX2_themeOf yX2_themeOf, Cond.code yX2_themeOf cX2_themeOf 4 (some .int), Cond.fieldLink RX2 30 "HeatedStories$Shelf" "tally" "[I", Cond.methodLink RX2 108 yX2_tallyOf, Cond.instanceMethod yX2_tallyOf, Cond.selects RX2 yX2_tallyOf yX2_tallyOf, Cond.code yX2_tallyOf cX2_tallyOf 3 none, Cond.fieldLink RX2 15 "HeatedStories$Shelf" "letters" "[I", Cond.methodLink RX2 102 yJ7_fill_53178, Cond.static yJ7_fill_53178, Cond.initialized RJ7, Cond.code yJ7_fill_53178 cJ7_fill_53178 4 none, Cond.methodLink RX3 154 yX2_hottestOf, Cond.instanceMethod yX2_hottestOf, Cond.selects RX2 yX2_hottestOf yX2_hottestOf, Cond.code yX2_hottestOf cX2_hottestOf 4 (some .int), Cond.methodLink RX3 157 yX2_unlikeLettersOf, Cond.instanceMethod yX2_unlikeLettersOf, Cond.selects RX2 yX2_unlikeLettersOf yX2_unlikeLettersOf, Cond.code yX2_unlikeLettersOf cX2_unlikeLettersOf 4 (some .int)]
def wsX3_story_r3 : List Cond := [Cond.methodLink RX3 160 yX2_readsFromBothEnds, Cond.instanceMethod yX2_readsFromBothEnds, Cond.selects RX2 yX2_readsFromBothEnds yX2_readsFromBothEnds, Cond.code yX2_readsFromBothEnds cX2_readsFromBothEnds 4 (some .boolean), Cond.methodLink RX2 67 yX2_sizeOf]
def wsX3_story : List Cond := .code yX3_story cX3_story 3 (some .int) :: ((wsX3_story_r1 ++ (wsX3_story_r2 ++ wsX3_story_r3)) ++ wsX30 ++ wsX20)
def wsX3_count_r1 : List Cond := [Cond.fieldLink RX3 10 "HeatedStories" "now" "LHeatedStories$Shelf;", Cond.fieldLink RX3 72 "HeatedStories$Shelf" "stories" "I", Cond.fieldLink RX3 166 "HeatedStories$Shelf" "splits" "I", Cond.fieldLink RX3 169 "HeatedStories$Shelf" "boilings" "I", Cond.fieldLink RX3 172 "HeatedStories$Shelf" "fizzles" "I", Cond.fieldLink RX3 65 "HeatedStories$Shelf" "settings" "[I", Cond.fieldLink RX3 37 "HeatedStories" "pad" "LHeatedStories$Pad;", Cond.fieldLink RX3 88 "HeatedStories$Pad" "length" "I", Cond.fieldLink RX3 22 "HeatedStories" "history" "LHeatedStories$History;", Cond.fieldLink RX3 178 "HeatedStories$History" "size" "I", Cond.methodLink RX3 79 yX2_words, Cond.instanceMethod yX2_words, Cond.selects RX2 yX2_words yX2_words, Cond.initialized RX2, Cond.code yX2_words cX2_words 1 (some .int), Cond.fieldLink RX2 21 "HeatedStories$Shelf" "starts" "[I", Cond.fieldLink RX2 43 "HeatedStories$Shelf" "stories" "I", Cond.methodLink RX3 136 yX2_heatOfAll, Cond.instanceMethod yX2_heatOfAll, Cond.selects RX2 yX2_heatOfAll yX2_heatOfAll, Cond.code yX2_heatOfAll cX2_heatOfAll 1 (some .int), Cond.methodLink RX2 33 yX2_words, Cond.methodLink RX2 95 yX2_heatBetween, Cond.instanceMethod yX2_heatBetween]
def wsX3_count_r2 : List Cond := [Cond.selects RX2 yX2_heatBetween yX2_heatBetween, Cond.code yX2_heatBetween cX2_heatBetween 5 (some .int), Cond.fieldLink RX2 18 "HeatedStories$Shelf" "heats" "[I", Cond.methodLink RX3 163 yX2_unlikeFamilies, Cond.instanceMethod yX2_unlikeFamilies, Cond.selects RX2 yX2_unlikeFamilies yX2_unlikeFamilies, Cond.code yX2_unlikeFamilies cX2_unlikeFamilies 3 (some .int), Cond.methodLink RX2 111 yX2_isFirstOfFamily, Cond.instanceMethod yX2_isFirstOfFamily, Cond.selects RX2 yX2_isFirstOfFamily yX2_isFirstOfFamily, Cond.code yX2_isFirstOfFamily cX2_isFirstOfFamily 3 (some .boolean), Cond.fieldLink RX2 24 "HeatedStories$Shelf" "families" "[I", Cond.methodLink RX3 175 yX2_greatestGeneration, Cond.instanceMethod yX2_greatestGeneration, Cond.selects RX2 yX2_greatestGeneration yX2_greatestGeneration, Cond.code yX2_greatestGeneration cX2_greatestGeneration 3 (some .int), Cond.fieldLink RX2 27 "HeatedStories$Shelf" "generations" "[I", Cond.methodLink RX2 85 Lib.Math.max.name, Cond.static Lib.Math.max.name, Cond.initialized "java/lang/Math", Cond.code Lib.Math.max.name Lib.Math.max.code 2 (some .int)]
def wsX3_count : List Cond := .code yX3_count cX3_count 2 (some .int) :: ((wsX3_count_r1 ++ wsX3_count_r2) ++ wsX30 ++ wsX20 ++ wsX10 ++ wsX00)
def wsX3_isLetter : List Cond := .code yX3_isLetter cX3_isLetter 1 (some .boolean) :: ([.methodLink RX3 51 yX3_isWithin, .static yX3_isWithin, .initialized RX3, .code yX3_isWithin cX3_isWithin 3 (some .boolean)])
def wsX3_letter_r1 : List Cond := [Cond.fieldLink RX3 10 "HeatedStories" "now" "LHeatedStories$Shelf;", Cond.methodLink RX3 181 yX3_isLetter, Cond.static yX3_isLetter, Cond.initialized RX3, Cond.code yX3_isLetter cX3_isLetter 1 (some .boolean), Cond.methodLink RX3 51 yX3_isWithin, Cond.static yX3_isWithin, Cond.code yX3_isWithin cX3_isWithin 3 (some .boolean), Cond.methodLink RX3 184 yX2_timesInAll, Cond.instanceMethod yX2_timesInAll, Cond.selects RX2 yX2_timesInAll yX2_timesInAll, Cond.initialized RX2, Cond.code yX2_timesInAll cX2_timesInAll 2 (some .int), Cond.methodLink RX2 33 yX2_words, Cond.instanceMethod yX2_words, Cond.selects RX2 yX2_words yX2_words, Cond.code yX2_words cX2_words 1 (some .int), Cond.fieldLink RX2 21 "HeatedStories$Shelf" "starts" "[I", Cond.fieldLink RX2 43 "HeatedStories$Shelf" "stories" "I", Cond.methodLink RX2 98 yX2_timesBetween, Cond.instanceMethod yX2_timesBetween, Cond.selects RX2 yX2_timesBetween yX2_timesBetween, Cond.code yX2_timesBetween cX2_timesBetween 6 (some .int), Cond.fieldLink RX2 15 "HeatedStories$Shelf" "letters" "[I"]
def wsX3_letter_r2 : List Cond := [Cond.methodLink RX3 187 yX2_storiesWith, Cond.instanceMethod yX2_storiesWith, Cond.selects RX2 yX2_storiesWith yX2_storiesWith, Cond.code yX2_storiesWith cX2_storiesWith 4 (some .int), Cond.methodLink RX2 114 yX2_timesIn, Cond.instanceMethod yX2_timesIn, Cond.selects RX2 yX2_timesIn yX2_timesIn, Cond.code yX2_timesIn cX2_timesIn 3 (some .int), Cond.methodLink RX3 190 yX2_storiesOfTheme, Cond.instanceMethod yX2_storiesOfTheme, Cond.selects RX2 yX2_storiesOfTheme yX2_storiesOfTheme, Cond.code yX2_storiesOfTheme cX2_storiesOfTheme 4 (some .int), Cond.methodLink RX2 117 yX2_themeOf, Cond.instanceMethod yX2_themeOf, Cond.selects RX2 yX2_themeOf yX2_themeOf, Cond.code yX2_themeOf cX2_themeOf 4 (some .int), Cond.fieldLink RX2 30 "HeatedStories$Shelf" "tally" "[I", Cond.methodLink RX2 108 yX2_tallyOf, Cond.instanceMethod yX2_tallyOf, Cond.selects RX2 yX2_tallyOf yX2_tallyOf, Cond.code yX2_tallyOf cX2_tallyOf 3 none, Cond.methodLink RX2 102 yJ7_fill_53178, Cond.static yJ7_fill_53178, Cond.initialized RJ7]
def wsX3_letter_r3 : List Cond := [Cond.code yJ7_fill_53178 cJ7_fill_53178 4 none, Cond.methodLink RX3 193 yX2_heatOfLetter, Cond.instanceMethod yX2_heatOfLetter, Cond.selects RX2 yX2_heatOfLetter yX2_heatOfLetter, Cond.code yX2_heatOfLetter cX2_heatOfLetter 4 (some .int), Cond.fieldLink RX2 18 "HeatedStories$Shelf" "heats" "[I"]
def wsX3_letter : List Cond := .code yX3_letter cX3_letter 3 (some .int) :: ((wsX3_letter_r1 ++ (wsX3_letter_r2 ++ wsX3_letter_r3)) ++ wsX30 ++ wsX20)
def wsX3_sideBySide_r1 : List Cond := [Cond.fieldLink RX3 10 "HeatedStories" "now" "LHeatedStories$Shelf;", Cond.methodLink RX3 181 yX3_isLetter, Cond.static yX3_isLetter, Cond.initialized RX3, Cond.code yX3_isLetter cX3_isLetter 1 (some .boolean), Cond.methodLink RX3 51 yX3_isWithin, Cond.static yX3_isWithin, Cond.code yX3_isWithin cX3_isWithin 3 (some .boolean), Cond.methodLink RX3 79 yX2_words, Cond.instanceMethod yX2_words, Cond.selects RX2 yX2_words yX2_words, Cond.initialized RX2, Cond.code yX2_words cX2_words 1 (some .int), Cond.fieldLink RX2 21 "HeatedStories$Shelf" "starts" "[I", Cond.fieldLink RX2 43 "HeatedStories$Shelf" "stories" "I", Cond.methodLink RX3 196 yX2_isPair, Cond.instanceMethod yX2_isPair, Cond.selects RX2 yX2_isPair yX2_isPair, Cond.code yX2_isPair cX2_isPair 4 (some .boolean), Cond.fieldLink RX2 15 "HeatedStories$Shelf" "letters" "[I", Cond.methodLink RX2 71 yX2_storyAt, Cond.instanceMethod yX2_storyAt, Cond.selects RX2 yX2_storyAt yX2_storyAt, Cond.code yX2_storyAt cX2_storyAt 3 (some .int)]
def wsX3_sideBySide_r2 : List Cond := [Cond.methodLink RX3 199 yX2_storyAt, Cond.methodLink RX3 202 yX2_placeOf, Cond.instanceMethod yX2_placeOf, Cond.selects RX2 yX2_placeOf yX2_placeOf, Cond.code yX2_placeOf cX2_placeOf 2 (some .int)]
def wsX3_sideBySide : List Cond := .code yX3_sideBySide cX3_sideBySide 7 (some .int) :: ((wsX3_sideBySide_r1 ++ wsX3_sideBySide_r2) ++ wsX30 ++ wsX20)
def wsX3_common_r1 : List Cond := [Cond.fieldLink RX3 10 "HeatedStories" "now" "LHeatedStories$Shelf;", Cond.fieldLink RX3 98 "HeatedStories$Shelf" "starts" "[I", Cond.fieldLink RX3 41 "HeatedStories" "runs" "[I", Cond.fieldLink RX3 142 "HeatedStories$Shelf" "letters" "[I", Cond.methodLink RX3 127 Lib.Math.max.name, Cond.static Lib.Math.max.name, Cond.initialized "java/lang/Math", Cond.code Lib.Math.max.name Lib.Math.max.code 2 (some .int), Cond.methodLink RX3 105 yX2_hasStory, Cond.instanceMethod yX2_hasStory, Cond.selects RX2 yX2_hasStory yX2_hasStory, Cond.initialized RX2, Cond.code yX2_hasStory cX2_hasStory 2 (some .boolean), Cond.fieldLink RX2 43 "HeatedStories$Shelf" "stories" "I", Cond.static yX3_isWithin, Cond.initialized RX3, Cond.code yX3_isWithin cX3_isWithin 3 (some .boolean), Cond.methodLink RX3 139 yX2_sizeOf, Cond.instanceMethod yX2_sizeOf, Cond.selects RX2 yX2_sizeOf yX2_sizeOf, Cond.code yX2_sizeOf cX2_sizeOf 2 (some .int), Cond.fieldLink RX2 21 "HeatedStories$Shelf" "starts" "[I", Cond.methodLink RX3 205 yJ7_fill_53178, Cond.static yJ7_fill_53178]
def wsX3_common_r2 : List Cond := [Cond.initialized RJ7, Cond.code yJ7_fill_53178 cJ7_fill_53178 4 none]
def wsX3_common : List Cond := .code yX3_common cX3_common 10 (some .int) :: ((wsX3_common_r1 ++ wsX3_common_r2) ++ wsX30 ++ wsX20)
def wsX3_tryHeating_r1 : List Cond := [Cond.fieldLink RX3 16 "HeatedStories" "trial" "LHeatedStories$Shelf;", Cond.fieldLink RX3 10 "HeatedStories" "now" "LHeatedStories$Shelf;", Cond.methodLink RX3 113 yX2_copyFrom, Cond.instanceMethod yX2_copyFrom, Cond.selects RX2 yX2_copyFrom yX2_copyFrom, Cond.initialized RX2, Cond.code yX2_copyFrom cX2_copyFrom 3 none, Cond.fieldLink RX2 9 "HeatedStories$Shelf" "settings" "[I", Cond.methodLink RX2 37 arraycopyName, Cond.native arraycopyName, Cond.static arraycopyName, Cond.initialized "java/lang/System", Cond.fieldLink RX2 15 "HeatedStories$Shelf" "letters" "[I", Cond.fieldLink RX2 18 "HeatedStories$Shelf" "heats" "[I", Cond.fieldLink RX2 21 "HeatedStories$Shelf" "starts" "[I", Cond.fieldLink RX2 43 "HeatedStories$Shelf" "stories" "I", Cond.fieldLink RX2 24 "HeatedStories$Shelf" "families" "[I", Cond.fieldLink RX2 27 "HeatedStories$Shelf" "generations" "[I", Cond.fieldLink RX2 47 "HeatedStories$Shelf" "nextFamily" "I", Cond.fieldLink RX2 50 "HeatedStories$Shelf" "splits" "I", Cond.fieldLink RX2 53 "HeatedStories$Shelf" "boilings" "I", Cond.fieldLink RX2 56 "HeatedStories$Shelf" "fizzles" "I", Cond.methodLink RX2 33 yX2_words, Cond.instanceMethod yX2_words]
def wsX3_tryHeating_r2 : List Cond := [Cond.selects RX2 yX2_words yX2_words, Cond.code yX2_words cX2_words 1 (some .int), Cond.methodLink RX3 101 yX2_warm, Cond.instanceMethod yX2_warm, Cond.selects RX2 yX2_warm yX2_warm, Cond.code yX2_warm cX2_warm 3 none, Cond.methodLink RX2 74 Lib.Math.min.name, Cond.static Lib.Math.min.name, Cond.initialized "java/lang/Math", Cond.code Lib.Math.min.name Lib.Math.min.code 2 (some .int), Cond.methodLink RX3 91 yX2_react, Cond.instanceMethod yX2_react, Cond.selects RX2 yX2_react yX2_react, Cond.code yX2_react cX2_react 4 (some .int), Cond.constant RX2 80 (1000000), Cond.methodLink RX2 85 Lib.Math.max.name, Cond.static Lib.Math.max.name, Cond.code Lib.Math.max.name Lib.Math.max.code 2 (some .int), Cond.methodLink RX2 81 yX2_reactAt, Cond.instanceMethod yX2_reactAt, Cond.selects RX2 yX2_reactAt yX2_reactAt, Cond.code yX2_reactAt cX2_reactAt 5 none, Cond.methodLink RX2 71 yX2_storyAt, Cond.instanceMethod yX2_storyAt]
def wsX3_tryHeating_r3 : List Cond := [Cond.selects RX2 yX2_storyAt yX2_storyAt, Cond.code yX2_storyAt cX2_storyAt 3 (some .int), Cond.methodLink RX2 88 yX2_split, Cond.instanceMethod yX2_split, Cond.selects RX2 yX2_split yX2_split, Cond.code yX2_split cX2_split 4 none, Cond.methodLink RX2 92 yX2_warm]
def wsX3_tryHeating : List Cond := .code yX3_tryHeating cX3_tryHeating 3 (some .int) :: ((wsX3_tryHeating_r1 ++ (wsX3_tryHeating_r2 ++ wsX3_tryHeating_r3)) ++ wsX30 ++ wsX20)
def wsX3_ifHeated_r1 : List Cond := [Cond.fieldLink RX3 10 "HeatedStories" "now" "LHeatedStories$Shelf;", Cond.fieldLink RX3 98 "HeatedStories$Shelf" "starts" "[I", Cond.fieldLink RX3 16 "HeatedStories" "trial" "LHeatedStories$Shelf;", Cond.fieldLink RX3 166 "HeatedStories$Shelf" "splits" "I", Cond.fieldLink RX3 72 "HeatedStories$Shelf" "stories" "I", Cond.methodLink RX3 94 yX2_hasWord, Cond.instanceMethod yX2_hasWord, Cond.selects RX2 yX2_hasWord yX2_hasWord, Cond.initialized RX2, Cond.code yX2_hasWord cX2_hasWord 3 (some .boolean), Cond.methodLink RX2 63 yX2_hasStory, Cond.instanceMethod yX2_hasStory, Cond.selects RX2 yX2_hasStory yX2_hasStory, Cond.code yX2_hasStory cX2_hasStory 2 (some .boolean), Cond.fieldLink RX2 43 "HeatedStories$Shelf" "stories" "I", Cond.static yX3_isWithin, Cond.initialized RX3, Cond.code yX3_isWithin cX3_isWithin 3 (some .boolean), Cond.methodLink RX2 67 yX2_sizeOf, Cond.instanceMethod yX2_sizeOf, Cond.selects RX2 yX2_sizeOf yX2_sizeOf, Cond.code yX2_sizeOf cX2_sizeOf 2 (some .int), Cond.fieldLink RX2 21 "HeatedStories$Shelf" "starts" "[I", Cond.methodLink RX3 51 yX3_isWithin]
def wsX3_ifHeated_r2 : List Cond := [Cond.methodLink RX3 211 yX3_tryHeating, Cond.instanceMethod yX3_tryHeating, Cond.selects RX3 yX3_tryHeating yX3_tryHeating, Cond.code yX3_tryHeating cX3_tryHeating 3 (some .int), Cond.methodLink RX3 113 yX2_copyFrom, Cond.instanceMethod yX2_copyFrom, Cond.selects RX2 yX2_copyFrom yX2_copyFrom, Cond.code yX2_copyFrom cX2_copyFrom 3 none, Cond.fieldLink RX2 9 "HeatedStories$Shelf" "settings" "[I", Cond.methodLink RX2 37 arraycopyName, Cond.native arraycopyName, Cond.static arraycopyName, Cond.initialized "java/lang/System", Cond.fieldLink RX2 15 "HeatedStories$Shelf" "letters" "[I", Cond.fieldLink RX2 18 "HeatedStories$Shelf" "heats" "[I", Cond.fieldLink RX2 24 "HeatedStories$Shelf" "families" "[I", Cond.fieldLink RX2 27 "HeatedStories$Shelf" "generations" "[I", Cond.fieldLink RX2 47 "HeatedStories$Shelf" "nextFamily" "I", Cond.fieldLink RX2 50 "HeatedStories$Shelf" "splits" "I", Cond.fieldLink RX2 53 "HeatedStories$Shelf" "boilings" "I", Cond.fieldLink RX2 56 "HeatedStories$Shelf" "fizzles" "I", Cond.methodLink RX2 33 yX2_words, Cond.instanceMethod yX2_words, Cond.selects RX2 yX2_words yX2_words]
def wsX3_ifHeated_r3 : List Cond := [Cond.code yX2_words cX2_words 1 (some .int), Cond.methodLink RX3 101 yX2_warm, Cond.instanceMethod yX2_warm, Cond.selects RX2 yX2_warm yX2_warm, Cond.code yX2_warm cX2_warm 3 none, Cond.methodLink RX2 74 Lib.Math.min.name, Cond.static Lib.Math.min.name, Cond.initialized "java/lang/Math", Cond.code Lib.Math.min.name Lib.Math.min.code 2 (some .int), Cond.methodLink RX3 91 yX2_react, Cond.instanceMethod yX2_react, Cond.selects RX2 yX2_react yX2_react, Cond.code yX2_react cX2_react 4 (some .int), Cond.constant RX2 80 (1000000), Cond.methodLink RX2 85 Lib.Math.max.name, Cond.static Lib.Math.max.name, Cond.code Lib.Math.max.name Lib.Math.max.code 2 (some .int), Cond.methodLink RX2 81 yX2_reactAt, Cond.instanceMethod yX2_reactAt, Cond.selects RX2 yX2_reactAt yX2_reactAt, Cond.code yX2_reactAt cX2_reactAt 5 none, Cond.methodLink RX2 71 yX2_storyAt, Cond.instanceMethod yX2_storyAt, Cond.selects RX2 yX2_storyAt yX2_storyAt]
def wsX3_ifHeated_r4 : List Cond := [Cond.code yX2_storyAt cX2_storyAt 3 (some .int), Cond.methodLink RX2 88 yX2_split, Cond.instanceMethod yX2_split, Cond.selects RX2 yX2_split yX2_split, Cond.code yX2_split cX2_split 4 none, Cond.methodLink RX2 92 yX2_warm, Cond.methodLink RX3 136 yX2_heatOfAll, Cond.instanceMethod yX2_heatOfAll, Cond.selects RX2 yX2_heatOfAll yX2_heatOfAll, Cond.code yX2_heatOfAll cX2_heatOfAll 1 (some .int), Cond.methodLink RX2 95 yX2_heatBetween, Cond.instanceMethod yX2_heatBetween, Cond.selects RX2 yX2_heatBetween yX2_heatBetween, Cond.code yX2_heatBetween cX2_heatBetween 5 (some .int)]
def wsX3_ifHeated : List Cond := .code yX3_ifHeated cX3_ifHeated 6 (some .int) :: ((wsX3_ifHeated_r1 ++ (wsX3_ifHeated_r2 ++ (wsX3_ifHeated_r3 ++ wsX3_ifHeated_r4))) ++ wsX30 ++ wsX20)
def wsX3_critical_r1 : List Cond := [Cond.fieldLink RX3 10 "HeatedStories" "now" "LHeatedStories$Shelf;", Cond.fieldLink RX3 98 "HeatedStories$Shelf" "starts" "[I", Cond.fieldLink RX3 65 "HeatedStories$Shelf" "settings" "[I", Cond.fieldLink RX3 133 "HeatedStories$Shelf" "heats" "[I", Cond.methodLink RX3 127 Lib.Math.max.name, Cond.static Lib.Math.max.name, Cond.initialized "java/lang/Math", Cond.code Lib.Math.max.name Lib.Math.max.code 2 (some .int), Cond.fieldLink RX3 16 "HeatedStories" "trial" "LHeatedStories$Shelf;", Cond.fieldLink RX3 166 "HeatedStories$Shelf" "splits" "I", Cond.methodLink RX3 94 yX2_hasWord, Cond.instanceMethod yX2_hasWord, Cond.selects RX2 yX2_hasWord yX2_hasWord, Cond.initialized RX2, Cond.code yX2_hasWord cX2_hasWord 3 (some .boolean), Cond.methodLink RX2 63 yX2_hasStory, Cond.instanceMethod yX2_hasStory, Cond.selects RX2 yX2_hasStory yX2_hasStory, Cond.code yX2_hasStory cX2_hasStory 2 (some .boolean), Cond.fieldLink RX2 43 "HeatedStories$Shelf" "stories" "I", Cond.static yX3_isWithin, Cond.initialized RX3, Cond.code yX3_isWithin cX3_isWithin 3 (some .boolean), Cond.methodLink RX2 67 yX2_sizeOf]
def wsX3_critical_r2 : List Cond := [Cond.instanceMethod yX2_sizeOf, Cond.selects RX2 yX2_sizeOf yX2_sizeOf, Cond.code yX2_sizeOf cX2_sizeOf 2 (some .int), Cond.fieldLink RX2 21 "HeatedStories$Shelf" "starts" "[I", Cond.methodLink RX3 214 yX2_isCalm, Cond.instanceMethod yX2_isCalm, Cond.selects RX2 yX2_isCalm yX2_isCalm, Cond.code yX2_isCalm cX2_isCalm 2 (some .boolean), Cond.fieldLink RX2 18 "HeatedStories$Shelf" "heats" "[I", Cond.fieldLink RX2 9 "HeatedStories$Shelf" "settings" "[I", Cond.methodLink RX2 33 yX2_words, Cond.instanceMethod yX2_words, Cond.selects RX2 yX2_words yX2_words, Cond.code yX2_words cX2_words 1 (some .int), Cond.methodLink RX3 211 yX3_tryHeating, Cond.instanceMethod yX3_tryHeating, Cond.selects RX3 yX3_tryHeating yX3_tryHeating, Cond.code yX3_tryHeating cX3_tryHeating 3 (some .int), Cond.methodLink RX3 113 yX2_copyFrom, Cond.instanceMethod yX2_copyFrom, Cond.selects RX2 yX2_copyFrom yX2_copyFrom, Cond.code yX2_copyFrom cX2_copyFrom 3 none, Cond.methodLink RX2 37 arraycopyName, Cond.native arraycopyName]
def wsX3_critical_r3 : List Cond := [Cond.static arraycopyName, Cond.initialized "java/lang/System", Cond.fieldLink RX2 15 "HeatedStories$Shelf" "letters" "[I", Cond.fieldLink RX2 24 "HeatedStories$Shelf" "families" "[I", Cond.fieldLink RX2 27 "HeatedStories$Shelf" "generations" "[I", Cond.fieldLink RX2 47 "HeatedStories$Shelf" "nextFamily" "I", Cond.fieldLink RX2 50 "HeatedStories$Shelf" "splits" "I", Cond.fieldLink RX2 53 "HeatedStories$Shelf" "boilings" "I", Cond.fieldLink RX2 56 "HeatedStories$Shelf" "fizzles" "I", Cond.methodLink RX3 101 yX2_warm, Cond.instanceMethod yX2_warm, Cond.selects RX2 yX2_warm yX2_warm, Cond.code yX2_warm cX2_warm 3 none, Cond.methodLink RX2 74 Lib.Math.min.name, Cond.static Lib.Math.min.name, Cond.code Lib.Math.min.name Lib.Math.min.code 2 (some .int), Cond.methodLink RX3 91 yX2_react, Cond.instanceMethod yX2_react, Cond.selects RX2 yX2_react yX2_react, Cond.code yX2_react cX2_react 4 (some .int), Cond.constant RX2 80 (1000000), Cond.methodLink RX2 85 Lib.Math.max.name, Cond.methodLink RX2 81 yX2_reactAt, Cond.instanceMethod yX2_reactAt]
def wsX3_critical_r4 : List Cond := [Cond.selects RX2 yX2_reactAt yX2_reactAt, Cond.code yX2_reactAt cX2_reactAt 5 none, Cond.methodLink RX2 71 yX2_storyAt, Cond.instanceMethod yX2_storyAt, Cond.selects RX2 yX2_storyAt yX2_storyAt, Cond.code yX2_storyAt cX2_storyAt 3 (some .int), Cond.methodLink RX2 88 yX2_split, Cond.instanceMethod yX2_split, Cond.selects RX2 yX2_split yX2_split, Cond.code yX2_split cX2_split 4 none, Cond.methodLink RX2 92 yX2_warm]
def wsX3_critical : List Cond := .code yX3_critical cX3_critical 7 (some .int) :: ((wsX3_critical_r1 ++ (wsX3_critical_r2 ++ (wsX3_critical_r3 ++ wsX3_critical_r4))) ++ wsX30 ++ wsX20)
def wsX3_touchiest_r1 : List Cond := [Cond.fieldLink RX3 10 "HeatedStories" "now" "LHeatedStories$Shelf;", Cond.fieldLink RX3 72 "HeatedStories$Shelf" "stories" "I", Cond.fieldLink RX3 133 "HeatedStories$Shelf" "heats" "[I", Cond.fieldLink RX3 65 "HeatedStories$Shelf" "settings" "[I", Cond.methodLink RX3 51 yX3_isWithin, Cond.static yX3_isWithin, Cond.initialized RX3, Cond.code yX3_isWithin cX3_isWithin 3 (some .boolean), Cond.methodLink RX3 214 yX2_isCalm, Cond.instanceMethod yX2_isCalm, Cond.selects RX2 yX2_isCalm yX2_isCalm, Cond.initialized RX2, Cond.code yX2_isCalm cX2_isCalm 2 (some .boolean), Cond.fieldLink RX2 18 "HeatedStories$Shelf" "heats" "[I", Cond.fieldLink RX2 9 "HeatedStories$Shelf" "settings" "[I", Cond.methodLink RX2 33 yX2_words, Cond.instanceMethod yX2_words, Cond.selects RX2 yX2_words yX2_words, Cond.code yX2_words cX2_words 1 (some .int), Cond.fieldLink RX2 21 "HeatedStories$Shelf" "starts" "[I", Cond.fieldLink RX2 43 "HeatedStories$Shelf" "stories" "I", Cond.methodLink RX3 79 yX2_words, Cond.methodLink RX3 211 yX3_tryHeating, Cond.instanceMethod yX3_tryHeating]
def wsX3_touchiest_r2 : List Cond := [Cond.selects RX3 yX3_tryHeating yX3_tryHeating, Cond.code yX3_tryHeating cX3_tryHeating 3 (some .int), Cond.fieldLink RX3 16 "HeatedStories" "trial" "LHeatedStories$Shelf;", Cond.methodLink RX3 113 yX2_copyFrom, Cond.instanceMethod yX2_copyFrom, Cond.selects RX2 yX2_copyFrom yX2_copyFrom, Cond.code yX2_copyFrom cX2_copyFrom 3 none, Cond.methodLink RX2 37 arraycopyName, Cond.native arraycopyName, Cond.static arraycopyName, Cond.initialized "java/lang/System", Cond.fieldLink RX2 15 "HeatedStories$Shelf" "letters" "[I", Cond.fieldLink RX2 24 "HeatedStories$Shelf" "families" "[I", Cond.fieldLink RX2 27 "HeatedStories$Shelf" "generations" "[I", Cond.fieldLink RX2 47 "HeatedStories$Shelf" "nextFamily" "I", Cond.fieldLink RX2 50 "HeatedStories$Shelf" "splits" "I", Cond.fieldLink RX2 53 "HeatedStories$Shelf" "boilings" "I", Cond.fieldLink RX2 56 "HeatedStories$Shelf" "fizzles" "I", Cond.methodLink RX3 101 yX2_warm, Cond.instanceMethod yX2_warm, Cond.selects RX2 yX2_warm yX2_warm, Cond.code yX2_warm cX2_warm 3 none, Cond.methodLink RX2 74 Lib.Math.min.name, Cond.static Lib.Math.min.name]
def wsX3_touchiest_r3 : List Cond := [Cond.initialized "java/lang/Math", Cond.code Lib.Math.min.name Lib.Math.min.code 2 (some .int), Cond.methodLink RX3 91 yX2_react, Cond.instanceMethod yX2_react, Cond.selects RX2 yX2_react yX2_react, Cond.code yX2_react cX2_react 4 (some .int), Cond.constant RX2 80 (1000000), Cond.methodLink RX2 85 Lib.Math.max.name, Cond.static Lib.Math.max.name, Cond.code Lib.Math.max.name Lib.Math.max.code 2 (some .int), Cond.methodLink RX2 81 yX2_reactAt, Cond.instanceMethod yX2_reactAt, Cond.selects RX2 yX2_reactAt yX2_reactAt, Cond.code yX2_reactAt cX2_reactAt 5 none, Cond.methodLink RX2 71 yX2_storyAt, Cond.instanceMethod yX2_storyAt, Cond.selects RX2 yX2_storyAt yX2_storyAt, Cond.code yX2_storyAt cX2_storyAt 3 (some .int), Cond.methodLink RX2 88 yX2_split, Cond.instanceMethod yX2_split, Cond.selects RX2 yX2_split yX2_split, Cond.code yX2_split cX2_split 4 none, Cond.methodLink RX2 92 yX2_warm, Cond.methodLink RX3 199 yX2_storyAt]
def wsX3_touchiest_r4 : List Cond := [Cond.methodLink RX3 202 yX2_placeOf, Cond.instanceMethod yX2_placeOf, Cond.selects RX2 yX2_placeOf yX2_placeOf, Cond.code yX2_placeOf cX2_placeOf 2 (some .int)]
def wsX3_touchiest : List Cond := .code yX3_touchiest cX3_touchiest 9 (some .int) :: ((wsX3_touchiest_r1 ++ (wsX3_touchiest_r2 ++ (wsX3_touchiest_r3 ++ wsX3_touchiest_r4))) ++ wsX30 ++ wsX20)
def wsX3_coolestPair_r1 : List Cond := [Cond.fieldLink RX3 10 "HeatedStories" "now" "LHeatedStories$Shelf;", Cond.fieldLink RX3 72 "HeatedStories$Shelf" "stories" "I", Cond.fieldLink RX3 45 "HeatedStories" "themes" "[I", Cond.fieldLink RX3 48 "HeatedStories" "storyHeats" "[I", Cond.methodLink RX3 51 yX3_isWithin, Cond.static yX3_isWithin, Cond.initialized RX3, Cond.code yX3_isWithin cX3_isWithin 3 (some .boolean), Cond.methodLink RX3 109 yX2_themeOf, Cond.instanceMethod yX2_themeOf, Cond.selects RX2 yX2_themeOf yX2_themeOf, Cond.initialized RX2, Cond.code yX2_themeOf cX2_themeOf 4 (some .int), Cond.fieldLink RX2 30 "HeatedStories$Shelf" "tally" "[I", Cond.methodLink RX2 108 yX2_tallyOf, Cond.instanceMethod yX2_tallyOf, Cond.selects RX2 yX2_tallyOf yX2_tallyOf, Cond.code yX2_tallyOf cX2_tallyOf 3 none, Cond.fieldLink RX2 21 "HeatedStories$Shelf" "starts" "[I", Cond.fieldLink RX2 15 "HeatedStories$Shelf" "letters" "[I", Cond.methodLink RX2 102 yJ7_fill_53178, Cond.static yJ7_fill_53178, Cond.initialized RJ7, Cond.code yJ7_fill_53178 cJ7_fill_53178 4 none]
def wsX3_coolestPair_r2 : List Cond := [Cond.methodLink RX3 148 yX2_heatOf, Cond.instanceMethod yX2_heatOf, Cond.selects RX2 yX2_heatOf yX2_heatOf, Cond.code yX2_heatOf cX2_heatOf 2 (some .int), Cond.methodLink RX2 95 yX2_heatBetween, Cond.instanceMethod yX2_heatBetween, Cond.selects RX2 yX2_heatBetween yX2_heatBetween, Cond.code yX2_heatBetween cX2_heatBetween 5 (some .int), Cond.fieldLink RX2 18 "HeatedStories$Shelf" "heats" "[I"]
def wsX3_coolestPair : List Cond := .code yX3_coolestPair cX3_coolestPair 8 (some .int) :: ((wsX3_coolestPair_r1 ++ wsX3_coolestPair_r2) ++ wsX30 ++ wsX20)
def wsX3_put : List Cond := .code yX3_put cX3_put 4 (some .int) :: ([.fieldLink RX3 37 "HeatedStories" "pad" "LHeatedStories$Pad;", .fieldLink RX3 88 "HeatedStories$Pad" "length" "I", .methodLink RX3 218 yX1_charactersIn, .static yX1_charactersIn, .initialized RX1, .code yX1_charactersIn cX1_charactersIn 5 (some .int), .constantLong RX1 15 (255), .static yX3_isWithin, .initialized RX3, .code yX3_isWithin cX3_isWithin 3 (some .boolean), .methodLink RX3 222 yX1_add, .instanceMethod yX1_add, .selects RX1 yX1_add yX1_add, .code yX1_add cX1_add 5 none, .fieldLink RX1 11 "HeatedStories$Pad" "characters" "[C", .fieldLink RX1 21 "HeatedStories$Pad" "length" "I"] ++ wsX30 ++ wsX10)
def wsX3_wipe : List Cond := .code yX3_wipe cX3_wipe 2 (some .int) :: ([.fieldLink RX3 37 "HeatedStories" "pad" "LHeatedStories$Pad;", .fieldLink RX3 88 "HeatedStories$Pad" "length" "I"] ++ wsX30 ++ wsX10)
def wsX3_fault : List Cond := .code yX3_fault cX3_fault 1 (some .int) :: ([.fieldLink RX3 37 "HeatedStories" "pad" "LHeatedStories$Pad;", .methodLink RX3 68 yX1_firstFault, .instanceMethod yX1_firstFault, .selects RX1 yX1_firstFault yX1_firstFault, .initialized RX1, .code yX1_firstFault cX1_firstFault 3 (some .int), .fieldLink RX1 21 "HeatedStories$Pad" "length" "I", .fieldLink RX1 11 "HeatedStories$Pad" "characters" "[C", .methodLink RX1 25 yX1_placeBehind, .static yX1_placeBehind, .code yX1_placeBehind cX1_placeBehind 2 (some .int), .methodLink RX1 29 yX1_isWord, .static yX1_isWord, .code yX1_isWord cX1_isWord 1 (some .boolean), .static yX3_isWithin, .initialized RX3, .code yX3_isWithin cX3_isWithin 3 (some .boolean)] ++ wsX30 ++ wsX10)
def wsX3_undo_r1 : List Cond := [Cond.fieldLink RX3 22 "HeatedStories" "history" "LHeatedStories$History;", Cond.fieldLink RX3 178 "HeatedStories$History" "size" "I", Cond.fieldLink RX3 10 "HeatedStories" "now" "LHeatedStories$Shelf;", Cond.methodLink RX3 226 yX0_takeBack, Cond.instanceMethod yX0_takeBack, Cond.selects RX0 yX0_takeBack yX0_takeBack, Cond.initialized RX0, Cond.code yX0_takeBack cX0_takeBack 2 none, Cond.fieldLink RX0 22 "HeatedStories$History" "size" "I", Cond.fieldLink RX0 11 "HeatedStories$History" "states" "[LHeatedStories$Shelf;", Cond.fieldLink RX0 18 "HeatedStories$History" "oldest" "I", Cond.methodLink RX0 25 yX2_copyFrom, Cond.instanceMethod yX2_copyFrom, Cond.selects RX2 yX2_copyFrom yX2_copyFrom, Cond.initialized RX2, Cond.code yX2_copyFrom cX2_copyFrom 3 none, Cond.fieldLink RX2 9 "HeatedStories$Shelf" "settings" "[I", Cond.methodLink RX2 37 arraycopyName, Cond.native arraycopyName, Cond.static arraycopyName, Cond.initialized "java/lang/System", Cond.fieldLink RX2 15 "HeatedStories$Shelf" "letters" "[I", Cond.fieldLink RX2 18 "HeatedStories$Shelf" "heats" "[I", Cond.fieldLink RX2 21 "HeatedStories$Shelf" "starts" "[I"]
def wsX3_undo_r2 : List Cond := [Cond.fieldLink RX2 43 "HeatedStories$Shelf" "stories" "I", Cond.fieldLink RX2 24 "HeatedStories$Shelf" "families" "[I", Cond.fieldLink RX2 27 "HeatedStories$Shelf" "generations" "[I", Cond.fieldLink RX2 47 "HeatedStories$Shelf" "nextFamily" "I", Cond.fieldLink RX2 50 "HeatedStories$Shelf" "splits" "I", Cond.fieldLink RX2 53 "HeatedStories$Shelf" "boilings" "I", Cond.fieldLink RX2 56 "HeatedStories$Shelf" "fizzles" "I", Cond.methodLink RX2 33 yX2_words, Cond.instanceMethod yX2_words, Cond.selects RX2 yX2_words yX2_words, Cond.code yX2_words cX2_words 1 (some .int)]
def wsX3_undo : List Cond := .code yX3_undo cX3_undo 1 (some .int) :: ((wsX3_undo_r1 ++ wsX3_undo_r2) ++ wsX30 ++ wsX00 ++ wsX20)
def wsX3_save_r1 : List Cond := [Cond.fieldLink RX3 26 "HeatedStories" "slots" "[LHeatedStories$Shelf;", Cond.fieldLink RX3 10 "HeatedStories" "now" "LHeatedStories$Shelf;", Cond.fieldLink RX3 30 "HeatedStories" "saved" "[Z", Cond.fieldLink RX3 72 "HeatedStories$Shelf" "stories" "I", Cond.methodLink RX3 51 yX3_isWithin, Cond.static yX3_isWithin, Cond.initialized RX3, Cond.code yX3_isWithin cX3_isWithin 3 (some .boolean), Cond.methodLink RX3 113 yX2_copyFrom, Cond.instanceMethod yX2_copyFrom, Cond.selects RX2 yX2_copyFrom yX2_copyFrom, Cond.initialized RX2, Cond.code yX2_copyFrom cX2_copyFrom 3 none, Cond.fieldLink RX2 9 "HeatedStories$Shelf" "settings" "[I", Cond.methodLink RX2 37 arraycopyName, Cond.native arraycopyName, Cond.static arraycopyName, Cond.initialized "java/lang/System", Cond.fieldLink RX2 15 "HeatedStories$Shelf" "letters" "[I", Cond.fieldLink RX2 18 "HeatedStories$Shelf" "heats" "[I", Cond.fieldLink RX2 21 "HeatedStories$Shelf" "starts" "[I", Cond.fieldLink RX2 43 "HeatedStories$Shelf" "stories" "I", Cond.fieldLink RX2 24 "HeatedStories$Shelf" "families" "[I", Cond.fieldLink RX2 27 "HeatedStories$Shelf" "generations" "[I"]
def wsX3_save_r2 : List Cond := [Cond.fieldLink RX2 47 "HeatedStories$Shelf" "nextFamily" "I", Cond.fieldLink RX2 50 "HeatedStories$Shelf" "splits" "I", Cond.fieldLink RX2 53 "HeatedStories$Shelf" "boilings" "I", Cond.fieldLink RX2 56 "HeatedStories$Shelf" "fizzles" "I", Cond.methodLink RX2 33 yX2_words, Cond.instanceMethod yX2_words, Cond.selects RX2 yX2_words yX2_words, Cond.code yX2_words cX2_words 1 (some .int)]
def wsX3_save : List Cond := .code yX3_save cX3_save 2 (some .int) :: ((wsX3_save_r1 ++ wsX3_save_r2) ++ wsX30 ++ wsX20)
def wsX3_restore_r1 : List Cond := [Cond.fieldLink RX3 30 "HeatedStories" "saved" "[Z", Cond.fieldLink RX3 22 "HeatedStories" "history" "LHeatedStories$History;", Cond.fieldLink RX3 10 "HeatedStories" "now" "LHeatedStories$Shelf;", Cond.fieldLink RX3 26 "HeatedStories" "slots" "[LHeatedStories$Shelf;", Cond.fieldLink RX3 72 "HeatedStories$Shelf" "stories" "I", Cond.methodLink RX3 51 yX3_isWithin, Cond.static yX3_isWithin, Cond.initialized RX3, Cond.code yX3_isWithin cX3_isWithin 3 (some .boolean), Cond.methodLink RX3 61 yX0_record, Cond.instanceMethod yX0_record, Cond.selects RX0 yX0_record yX0_record, Cond.initialized RX0, Cond.code yX0_record cX0_record 2 none, Cond.fieldLink RX0 11 "HeatedStories$History" "states" "[LHeatedStories$Shelf;", Cond.fieldLink RX0 18 "HeatedStories$History" "oldest" "I", Cond.fieldLink RX0 22 "HeatedStories$History" "size" "I", Cond.methodLink RX0 25 yX2_copyFrom, Cond.instanceMethod yX2_copyFrom, Cond.selects RX2 yX2_copyFrom yX2_copyFrom, Cond.initialized RX2, Cond.code yX2_copyFrom cX2_copyFrom 3 none, Cond.fieldLink RX2 9 "HeatedStories$Shelf" "settings" "[I", Cond.methodLink RX2 37 arraycopyName]
def wsX3_restore_r2 : List Cond := [Cond.native arraycopyName, Cond.static arraycopyName, Cond.initialized "java/lang/System", Cond.fieldLink RX2 15 "HeatedStories$Shelf" "letters" "[I", Cond.fieldLink RX2 18 "HeatedStories$Shelf" "heats" "[I", Cond.fieldLink RX2 21 "HeatedStories$Shelf" "starts" "[I", Cond.fieldLink RX2 43 "HeatedStories$Shelf" "stories" "I", Cond.fieldLink RX2 24 "HeatedStories$Shelf" "families" "[I", Cond.fieldLink RX2 27 "HeatedStories$Shelf" "generations" "[I", Cond.fieldLink RX2 47 "HeatedStories$Shelf" "nextFamily" "I", Cond.fieldLink RX2 50 "HeatedStories$Shelf" "splits" "I", Cond.fieldLink RX2 53 "HeatedStories$Shelf" "boilings" "I", Cond.fieldLink RX2 56 "HeatedStories$Shelf" "fizzles" "I", Cond.methodLink RX2 33 yX2_words, Cond.instanceMethod yX2_words, Cond.selects RX2 yX2_words yX2_words, Cond.code yX2_words cX2_words 1 (some .int), Cond.methodLink RX3 113 yX2_copyFrom]
def wsX3_restore : List Cond := .code yX3_restore cX3_restore 2 (some .int) :: ((wsX3_restore_r1 ++ wsX3_restore_r2) ++ wsX30 ++ wsX20 ++ wsX00)
def wsX4_init : List Cond := .code yX4_init cX4_init 1 none :: ([.methodLink RX4 1 objectInit, .instanceMethod objectInit, .code objectInit ⟨#[0xb1]⟩ 1 none, .arrayClass .int, .fieldLink RX4 7 "HeatedStoriesModel" "s" "[I", .fieldLink RX4 13 "HeatedStoriesModel" "aside" "[I", .fieldLink RX4 16 "HeatedStoriesModel" "before" "[I", .fieldLink RX4 19 "HeatedStoriesModel" "slots" "[I", .arrayClass .boolean, .fieldLink RX4 22 "HeatedStoriesModel" "isSaved" "[Z", .fieldLink RX4 26 "HeatedStoriesModel" "pad" "[I", .fieldLink RX4 29 "HeatedStoriesModel" "letters" "[I", .fieldLink RX4 32 "HeatedStoriesModel" "heats" "[I", .fieldLink RX4 35 "HeatedStoriesModel" "toldLetter" "[I", .fieldLink RX4 38 "HeatedStoriesModel" "toldHeat" "[I", .fieldLink RX4 41 "HeatedStoriesModel" "toldStory" "[I"] ++ wsX40)
def wsX4_in : List Cond := .code yX4_in cX4_in 3 (some .boolean) :: ([])
def wsX4_isStory : List Cond := .code yX4_isStory cX4_isStory 2 (some .boolean) :: ([.fieldLink RX4 7 "HeatedStoriesModel" "s" "[I", .methodLink RX4 44 yX4_in, .static yX4_in, .initialized RX4, .code yX4_in cX4_in 3 (some .boolean)] ++ wsX40)
def wsX4_isWord : List Cond := .code yX4_isWord cX4_isWord 3 (some .boolean) :: ([.fieldLink RX4 7 "HeatedStoriesModel" "s" "[I", .methodLink RX4 48 yX4_isStory, .instanceMethod yX4_isStory, .selects RX4 yX4_isStory yX4_isStory, .initialized RX4, .code yX4_isStory cX4_isStory 2 (some .boolean), .methodLink RX4 44 yX4_in, .static yX4_in, .code yX4_in cX4_in 3 (some .boolean)] ++ wsX40)
def wsX4_first : List Cond := .code yX4_first cX4_first 4 (some .int) :: ([.fieldLink RX4 7 "HeatedStoriesModel" "s" "[I"] ++ wsX40)
def wsX4_know : List Cond := .code yX4_know cX4_know 2 none :: ([.fieldLink RX4 52 "HeatedStoriesModel" "known" "I", .fieldLink RX4 16 "HeatedStoriesModel" "before" "[I", .fieldLink RX4 7 "HeatedStoriesModel" "s" "[I"] ++ wsX40)
def wsX4_putAside : List Cond := .code yX4_putAside cX4_putAside 2 none :: ([.fieldLink RX4 13 "HeatedStoriesModel" "aside" "[I", .fieldLink RX4 7 "HeatedStoriesModel" "s" "[I"] ++ wsX40)
def wsX4_putBack : List Cond := .code yX4_putBack cX4_putBack 2 none :: ([.fieldLink RX4 7 "HeatedStoriesModel" "s" "[I", .fieldLink RX4 13 "HeatedStoriesModel" "aside" "[I"] ++ wsX40)
def wsX4_warm : List Cond := .code yX4_warm cX4_warm 4 none :: ([.fieldLink RX4 7 "HeatedStoriesModel" "s" "[I"] ++ wsX40)
def wsX4_storyOf : List Cond := .code yX4_storyOf cX4_storyOf 4 (some .int) :: ([.fieldLink RX4 7 "HeatedStoriesModel" "s" "[I"] ++ wsX40)
def wsX4_split : List Cond := .code yX4_split cX4_split 4 none :: ([.fieldLink RX4 7 "HeatedStoriesModel" "s" "[I"] ++ wsX40)
def wsX4_reactOne : List Cond := .code yX4_reactOne cX4_reactOne 5 none :: ([.fieldLink RX4 7 "HeatedStoriesModel" "s" "[I", .methodLink RX4 56 yX4_storyOf, .instanceMethod yX4_storyOf, .selects RX4 yX4_storyOf yX4_storyOf, .initialized RX4, .code yX4_storyOf cX4_storyOf 4 (some .int), .methodLink RX4 60 yX4_first, .instanceMethod yX4_first, .selects RX4 yX4_first yX4_first, .code yX4_first cX4_first 4 (some .int), .methodLink RX4 63 yX4_split, .instanceMethod yX4_split, .selects RX4 yX4_split yX4_split, .code yX4_split cX4_split 4 none, .methodLink RX4 67 yX4_warm, .instanceMethod yX4_warm, .selects RX4 yX4_warm yX4_warm, .code yX4_warm cX4_warm 4 none] ++ wsX40)
def wsX4_react : List Cond := .code yX4_react cX4_react 3 (some .int) :: ([.fieldLink RX4 7 "HeatedStoriesModel" "s" "[I", .methodLink RX4 70 yX4_reactOne, .instanceMethod yX4_reactOne, .selects RX4 yX4_reactOne yX4_reactOne, .initialized RX4, .code yX4_reactOne cX4_reactOne 5 none, .methodLink RX4 56 yX4_storyOf, .instanceMethod yX4_storyOf, .selects RX4 yX4_storyOf yX4_storyOf, .code yX4_storyOf cX4_storyOf 4 (some .int), .methodLink RX4 60 yX4_first, .instanceMethod yX4_first, .selects RX4 yX4_first yX4_first, .code yX4_first cX4_first 4 (some .int), .methodLink RX4 63 yX4_split, .instanceMethod yX4_split, .selects RX4 yX4_split yX4_split, .code yX4_split cX4_split 4 none, .methodLink RX4 67 yX4_warm, .instanceMethod yX4_warm, .selects RX4 yX4_warm yX4_warm, .code yX4_warm cX4_warm 4 none] ++ wsX40)
def wsX4_removeStory : List Cond := .code yX4_removeStory cX4_removeStory 3 none :: ([.fieldLink RX4 7 "HeatedStoriesModel" "s" "[I"] ++ wsX40)
def wsX4_removeWords : List Cond := .code yX4_removeWords cX4_removeWords 4 none :: ([.fieldLink RX4 7 "HeatedStoriesModel" "s" "[I"] ++ wsX40)
def wsX4_times : List Cond := .code yX4_times cX4_times 5 (some .int) :: ([.fieldLink RX4 7 "HeatedStoriesModel" "s" "[I", .methodLink RX4 60 yX4_first, .instanceMethod yX4_first, .selects RX4 yX4_first yX4_first, .initialized RX4, .code yX4_first cX4_first 4 (some .int)] ++ wsX40)
def wsX4_theme : List Cond := .code yX4_theme cX4_theme 4 (some .int) :: ([.methodLink RX4 74 yX4_times, .instanceMethod yX4_times, .selects RX4 yX4_times yX4_times, .initialized RX4, .code yX4_times cX4_times 5 (some .int), .fieldLink RX4 7 "HeatedStoriesModel" "s" "[I", .methodLink RX4 60 yX4_first, .instanceMethod yX4_first, .selects RX4 yX4_first yX4_first, .code yX4_first cX4_first 4 (some .int)] ++ wsX40)
def wsX4_heatOf : List Cond := .code yX4_heatOf cX4_heatOf 4 (some .int) :: ([.fieldLink RX4 7 "HeatedStoriesModel" "s" "[I", .methodLink RX4 60 yX4_first, .instanceMethod yX4_first, .selects RX4 yX4_first yX4_first, .initialized RX4, .code yX4_first cX4_first 4 (some .int)] ++ wsX40)
def wsX4_allHeat : List Cond := .code yX4_allHeat cX4_allHeat 3 (some .int) :: ([.fieldLink RX4 7 "HeatedStoriesModel" "s" "[I"] ++ wsX40)
def wsX4_set : List Cond := .code yX4_set cX4_set 6 (some .int) :: ([.fieldLink RX4 7 "HeatedStoriesModel" "s" "[I", .methodLink RX4 44 yX4_in, .static yX4_in, .initialized RX4, .code yX4_in cX4_in 3 (some .boolean), .methodLink RX4 78 yX4_know, .instanceMethod yX4_know, .selects RX4 yX4_know yX4_know, .code yX4_know cX4_know 2 none, .fieldLink RX4 52 "HeatedStoriesModel" "known" "I", .fieldLink RX4 16 "HeatedStoriesModel" "before" "[I"] ++ wsX40)
def wsX4_heat_r1 : List Cond := [Cond.methodLink RX4 81 yX4_isWord, Cond.instanceMethod yX4_isWord, Cond.selects RX4 yX4_isWord yX4_isWord, Cond.initialized RX4, Cond.code yX4_isWord cX4_isWord 3 (some .boolean), Cond.fieldLink RX4 7 "HeatedStoriesModel" "s" "[I", Cond.methodLink RX4 48 yX4_isStory, Cond.instanceMethod yX4_isStory, Cond.selects RX4 yX4_isStory yX4_isStory, Cond.code yX4_isStory cX4_isStory 2 (some .boolean), Cond.methodLink RX4 44 yX4_in, Cond.static yX4_in, Cond.code yX4_in cX4_in 3 (some .boolean), Cond.methodLink RX4 78 yX4_know, Cond.instanceMethod yX4_know, Cond.selects RX4 yX4_know yX4_know, Cond.code yX4_know cX4_know 2 none, Cond.fieldLink RX4 52 "HeatedStoriesModel" "known" "I", Cond.fieldLink RX4 16 "HeatedStoriesModel" "before" "[I", Cond.methodLink RX4 60 yX4_first, Cond.instanceMethod yX4_first, Cond.selects RX4 yX4_first yX4_first, Cond.code yX4_first cX4_first 4 (some .int), Cond.methodLink RX4 67 yX4_warm]
def wsX4_heat_r2 : List Cond := [Cond.instanceMethod yX4_warm, Cond.selects RX4 yX4_warm yX4_warm, Cond.code yX4_warm cX4_warm 4 none, Cond.methodLink RX4 85 yX4_react, Cond.instanceMethod yX4_react, Cond.selects RX4 yX4_react yX4_react, Cond.code yX4_react cX4_react 3 (some .int), Cond.methodLink RX4 70 yX4_reactOne, Cond.instanceMethod yX4_reactOne, Cond.selects RX4 yX4_reactOne yX4_reactOne, Cond.code yX4_reactOne cX4_reactOne 5 none, Cond.methodLink RX4 56 yX4_storyOf, Cond.instanceMethod yX4_storyOf, Cond.selects RX4 yX4_storyOf yX4_storyOf, Cond.code yX4_storyOf cX4_storyOf 4 (some .int), Cond.methodLink RX4 63 yX4_split, Cond.instanceMethod yX4_split, Cond.selects RX4 yX4_split yX4_split, Cond.code yX4_split cX4_split 4 none]
def wsX4_heat : List Cond := .code yX4_heat cX4_heat 4 (some .int) :: ((wsX4_heat_r1 ++ wsX4_heat_r2) ++ wsX40)
def wsX4_read_r1 : List Cond := [Cond.fieldLink RX4 7 "HeatedStoriesModel" "s" "[I", Cond.methodLink RX4 48 yX4_isStory, Cond.instanceMethod yX4_isStory, Cond.selects RX4 yX4_isStory yX4_isStory, Cond.initialized RX4, Cond.code yX4_isStory cX4_isStory 2 (some .boolean), Cond.methodLink RX4 44 yX4_in, Cond.static yX4_in, Cond.code yX4_in cX4_in 3 (some .boolean), Cond.methodLink RX4 78 yX4_know, Cond.instanceMethod yX4_know, Cond.selects RX4 yX4_know yX4_know, Cond.code yX4_know cX4_know 2 none, Cond.fieldLink RX4 52 "HeatedStoriesModel" "known" "I", Cond.fieldLink RX4 16 "HeatedStoriesModel" "before" "[I", Cond.methodLink RX4 60 yX4_first, Cond.instanceMethod yX4_first, Cond.selects RX4 yX4_first yX4_first, Cond.code yX4_first cX4_first 4 (some .int), Cond.methodLink RX4 67 yX4_warm, Cond.instanceMethod yX4_warm, Cond.selects RX4 yX4_warm yX4_warm, Cond.code yX4_warm cX4_warm 4 none, Cond.methodLink RX4 85 yX4_react]
def wsX4_read_r2 : List Cond := [Cond.instanceMethod yX4_react, Cond.selects RX4 yX4_react yX4_react, Cond.code yX4_react cX4_react 3 (some .int), Cond.methodLink RX4 70 yX4_reactOne, Cond.instanceMethod yX4_reactOne, Cond.selects RX4 yX4_reactOne yX4_reactOne, Cond.code yX4_reactOne cX4_reactOne 5 none, Cond.methodLink RX4 56 yX4_storyOf, Cond.instanceMethod yX4_storyOf, Cond.selects RX4 yX4_storyOf yX4_storyOf, Cond.code yX4_storyOf cX4_storyOf 4 (some .int), Cond.methodLink RX4 63 yX4_split, Cond.instanceMethod yX4_split, Cond.selects RX4 yX4_split yX4_split, Cond.code yX4_split cX4_split 4 none]
def wsX4_read : List Cond := .code yX4_read cX4_read 4 (some .int) :: ((wsX4_read_r1 ++ wsX4_read_r2) ++ wsX40)
def wsX4_fuse_r1 : List Cond := [Cond.fieldLink RX4 7 "HeatedStoriesModel" "s" "[I", Cond.fieldLink RX4 29 "HeatedStoriesModel" "letters" "[I", Cond.fieldLink RX4 32 "HeatedStoriesModel" "heats" "[I", Cond.methodLink RX4 48 yX4_isStory, Cond.instanceMethod yX4_isStory, Cond.selects RX4 yX4_isStory yX4_isStory, Cond.initialized RX4, Cond.code yX4_isStory cX4_isStory 2 (some .boolean), Cond.methodLink RX4 44 yX4_in, Cond.static yX4_in, Cond.code yX4_in cX4_in 3 (some .boolean), Cond.methodLink RX4 89 yX4_theme, Cond.instanceMethod yX4_theme, Cond.selects RX4 yX4_theme yX4_theme, Cond.code yX4_theme cX4_theme 4 (some .int), Cond.methodLink RX4 74 yX4_times, Cond.instanceMethod yX4_times, Cond.selects RX4 yX4_times yX4_times, Cond.code yX4_times cX4_times 5 (some .int), Cond.methodLink RX4 60 yX4_first, Cond.instanceMethod yX4_first, Cond.selects RX4 yX4_first yX4_first, Cond.code yX4_first cX4_first 4 (some .int), Cond.methodLink RX4 78 yX4_know]
def wsX4_fuse_r2 : List Cond := [Cond.instanceMethod yX4_know, Cond.selects RX4 yX4_know yX4_know, Cond.code yX4_know cX4_know 2 none, Cond.fieldLink RX4 52 "HeatedStoriesModel" "known" "I", Cond.fieldLink RX4 16 "HeatedStoriesModel" "before" "[I", Cond.methodLink RX4 92 yX4_removeWords, Cond.instanceMethod yX4_removeWords, Cond.selects RX4 yX4_removeWords yX4_removeWords, Cond.code yX4_removeWords cX4_removeWords 4 none, Cond.methodLink RX4 95 yX4_removeStory, Cond.instanceMethod yX4_removeStory, Cond.selects RX4 yX4_removeStory yX4_removeStory, Cond.code yX4_removeStory cX4_removeStory 3 none, Cond.methodLink RX4 67 yX4_warm, Cond.instanceMethod yX4_warm, Cond.selects RX4 yX4_warm yX4_warm, Cond.code yX4_warm cX4_warm 4 none, Cond.methodLink RX4 85 yX4_react, Cond.instanceMethod yX4_react, Cond.selects RX4 yX4_react yX4_react, Cond.code yX4_react cX4_react 3 (some .int), Cond.methodLink RX4 70 yX4_reactOne, Cond.instanceMethod yX4_reactOne, Cond.selects RX4 yX4_reactOne yX4_reactOne]
def wsX4_fuse_r3 : List Cond := [Cond.code yX4_reactOne cX4_reactOne 5 none, Cond.methodLink RX4 56 yX4_storyOf, Cond.instanceMethod yX4_storyOf, Cond.selects RX4 yX4_storyOf yX4_storyOf, Cond.code yX4_storyOf cX4_storyOf 4 (some .int), Cond.methodLink RX4 63 yX4_split, Cond.instanceMethod yX4_split, Cond.selects RX4 yX4_split yX4_split, Cond.code yX4_split cX4_split 4 none]
def wsX4_fuse : List Cond := .code yX4_fuse cX4_fuse 8 (some .int) :: ((wsX4_fuse_r1 ++ (wsX4_fuse_r2 ++ wsX4_fuse_r3)) ++ wsX40)
def wsX4_pass : List Cond := .code yX4_pass cX4_pass 4 (some .int) :: ([.fieldLink RX4 7 "HeatedStoriesModel" "s" "[I", .methodLink RX4 44 yX4_in, .static yX4_in, .initialized RX4, .code yX4_in cX4_in 3 (some .boolean), .methodLink RX4 78 yX4_know, .instanceMethod yX4_know, .selects RX4 yX4_know yX4_know, .code yX4_know cX4_know 2 none, .fieldLink RX4 52 "HeatedStoriesModel" "known" "I", .fieldLink RX4 16 "HeatedStoriesModel" "before" "[I", .methodLink RX4 98 yX4_allHeat, .instanceMethod yX4_allHeat, .selects RX4 yX4_allHeat yX4_allHeat, .code yX4_allHeat cX4_allHeat 3 (some .int)] ++ wsX40)
def wsX4_burn_r1 : List Cond := [Cond.fieldLink RX4 7 "HeatedStoriesModel" "s" "[I", Cond.methodLink RX4 48 yX4_isStory, Cond.instanceMethod yX4_isStory, Cond.selects RX4 yX4_isStory yX4_isStory, Cond.initialized RX4, Cond.code yX4_isStory cX4_isStory 2 (some .boolean), Cond.methodLink RX4 44 yX4_in, Cond.static yX4_in, Cond.code yX4_in cX4_in 3 (some .boolean), Cond.methodLink RX4 78 yX4_know, Cond.instanceMethod yX4_know, Cond.selects RX4 yX4_know yX4_know, Cond.code yX4_know cX4_know 2 none, Cond.fieldLink RX4 52 "HeatedStoriesModel" "known" "I", Cond.fieldLink RX4 16 "HeatedStoriesModel" "before" "[I", Cond.methodLink RX4 60 yX4_first, Cond.instanceMethod yX4_first, Cond.selects RX4 yX4_first yX4_first, Cond.code yX4_first cX4_first 4 (some .int), Cond.methodLink RX4 92 yX4_removeWords, Cond.instanceMethod yX4_removeWords, Cond.selects RX4 yX4_removeWords yX4_removeWords, Cond.code yX4_removeWords cX4_removeWords 4 none, Cond.methodLink RX4 95 yX4_removeStory]
def wsX4_burn_r2 : List Cond := [Cond.instanceMethod yX4_removeStory, Cond.selects RX4 yX4_removeStory yX4_removeStory, Cond.code yX4_removeStory cX4_removeStory 3 none]
def wsX4_burn : List Cond := .code yX4_burn cX4_burn 3 (some .int) :: ((wsX4_burn_r1 ++ wsX4_burn_r2) ++ wsX40)
def wsX4_word : List Cond := .code yX4_word cX4_word 5 (some .int) :: ([.fieldLink RX4 7 "HeatedStoriesModel" "s" "[I", .methodLink RX4 81 yX4_isWord, .instanceMethod yX4_isWord, .selects RX4 yX4_isWord yX4_isWord, .initialized RX4, .code yX4_isWord cX4_isWord 3 (some .boolean), .methodLink RX4 48 yX4_isStory, .instanceMethod yX4_isStory, .selects RX4 yX4_isStory yX4_isStory, .code yX4_isStory cX4_isStory 2 (some .boolean), .methodLink RX4 44 yX4_in, .static yX4_in, .code yX4_in cX4_in 3 (some .boolean), .methodLink RX4 60 yX4_first, .instanceMethod yX4_first, .selects RX4 yX4_first yX4_first, .code yX4_first cX4_first 4 (some .int), .methodLink RX4 74 yX4_times, .instanceMethod yX4_times, .selects RX4 yX4_times yX4_times, .code yX4_times cX4_times 5 (some .int)] ++ wsX40)
def wsX4_hottest : List Cond := .code yX4_hottest cX4_hottest 4 (some .int) :: ([.fieldLink RX4 7 "HeatedStoriesModel" "s" "[I", .methodLink RX4 60 yX4_first, .instanceMethod yX4_first, .selects RX4 yX4_first yX4_first, .initialized RX4, .code yX4_first cX4_first 4 (some .int)] ++ wsX40)
def wsX4_unlike : List Cond := .code yX4_unlike cX4_unlike 4 (some .int) :: ([.methodLink RX4 74 yX4_times, .instanceMethod yX4_times, .selects RX4 yX4_times yX4_times, .initialized RX4, .code yX4_times cX4_times 5 (some .int), .fieldLink RX4 7 "HeatedStoriesModel" "s" "[I", .methodLink RX4 60 yX4_first, .instanceMethod yX4_first, .selects RX4 yX4_first yX4_first, .code yX4_first cX4_first 4 (some .int)] ++ wsX40)
def wsX4_isSameBackwards : List Cond := .code yX4_isSameBackwards cX4_isSameBackwards 6 (some .int) :: ([.fieldLink RX4 7 "HeatedStoriesModel" "s" "[I", .methodLink RX4 60 yX4_first, .instanceMethod yX4_first, .selects RX4 yX4_first yX4_first, .initialized RX4, .code yX4_first cX4_first 4 (some .int)] ++ wsX40)
def wsX4_story_r1 : List Cond := [Cond.fieldLink RX4 7 "HeatedStoriesModel" "s" "[I", Cond.methodLink RX4 48 yX4_isStory, Cond.instanceMethod yX4_isStory, Cond.selects RX4 yX4_isStory yX4_isStory, Cond.initialized RX4, Cond.code yX4_isStory cX4_isStory 2 (some .boolean), Cond.methodLink RX4 44 yX4_in, Cond.static yX4_in, Cond.code yX4_in cX4_in 3 (some .boolean), Cond.methodLink RX4 101 yX4_heatOf, Cond.instanceMethod yX4_heatOf, Cond.selects RX4 yX4_heatOf yX4_heatOf, Cond.code yX4_heatOf cX4_heatOf 4 (some .int), Cond.methodLink RX4 60 yX4_first, Cond.instanceMethod yX4_first, Cond.selects RX4 yX4_first yX4_first, Cond.code yX4_first cX4_first 4 (some .int), Cond.methodLink RX4 89 yX4_theme, Cond.instanceMethod yX4_theme, Cond.selects RX4 yX4_theme yX4_theme, Cond.code yX4_theme cX4_theme 4 (some .int), Cond.methodLink RX4 74 yX4_times, Cond.instanceMethod yX4_times, Cond.selects RX4 yX4_times yX4_times]
def wsX4_story_r2 : List Cond := [Cond.code yX4_times cX4_times 5 (some .int), Cond.methodLink RX4 104 yX4_hottest, Cond.instanceMethod yX4_hottest, Cond.selects RX4 yX4_hottest yX4_hottest, Cond.code yX4_hottest cX4_hottest 4 (some .int), Cond.methodLink RX4 107 yX4_unlike, Cond.instanceMethod yX4_unlike, Cond.selects RX4 yX4_unlike yX4_unlike, Cond.code yX4_unlike cX4_unlike 4 (some .int), Cond.methodLink RX4 110 yX4_isSameBackwards, Cond.instanceMethod yX4_isSameBackwards, Cond.selects RX4 yX4_isSameBackwards yX4_isSameBackwards, Cond.code yX4_isSameBackwards cX4_isSameBackwards 6 (some .int)]
def wsX4_story : List Cond := .code yX4_story cX4_story 3 (some .int) :: ((wsX4_story_r1 ++ wsX4_story_r2) ++ wsX40)
def wsX4_families : List Cond := .code yX4_families cX4_families 5 (some .int) :: ([.fieldLink RX4 7 "HeatedStoriesModel" "s" "[I"] ++ wsX40)
def wsX4_greatest : List Cond := .code yX4_greatest cX4_greatest 3 (some .int) :: ([.fieldLink RX4 7 "HeatedStoriesModel" "s" "[I"] ++ wsX40)
def wsX4_count : List Cond := .code yX4_count cX4_count 2 (some .int) :: ([.fieldLink RX4 7 "HeatedStoriesModel" "s" "[I", .fieldLink RX4 119 "HeatedStoriesModel" "length" "I", .fieldLink RX4 52 "HeatedStoriesModel" "known" "I", .methodLink RX4 98 yX4_allHeat, .instanceMethod yX4_allHeat, .selects RX4 yX4_allHeat yX4_allHeat, .initialized RX4, .code yX4_allHeat cX4_allHeat 3 (some .int), .methodLink RX4 113 yX4_families, .instanceMethod yX4_families, .selects RX4 yX4_families yX4_families, .code yX4_families cX4_families 5 (some .int), .methodLink RX4 116 yX4_greatest, .instanceMethod yX4_greatest, .selects RX4 yX4_greatest yX4_greatest, .code yX4_greatest cX4_greatest 3 (some .int)] ++ wsX40)
def wsX4_letter : List Cond := .code yX4_letter cX4_letter 5 (some .int) :: ([.fieldLink RX4 7 "HeatedStoriesModel" "s" "[I", .methodLink RX4 44 yX4_in, .static yX4_in, .initialized RX4, .code yX4_in cX4_in 3 (some .boolean), .methodLink RX4 74 yX4_times, .instanceMethod yX4_times, .selects RX4 yX4_times yX4_times, .code yX4_times cX4_times 5 (some .int), .methodLink RX4 60 yX4_first, .instanceMethod yX4_first, .selects RX4 yX4_first yX4_first, .code yX4_first cX4_first 4 (some .int), .methodLink RX4 89 yX4_theme, .instanceMethod yX4_theme, .selects RX4 yX4_theme yX4_theme, .code yX4_theme cX4_theme 4 (some .int)] ++ wsX40)
def wsX4_sideBySide : List Cond := .code yX4_sideBySide cX4_sideBySide 11 (some .int) :: ([.fieldLink RX4 7 "HeatedStoriesModel" "s" "[I", .methodLink RX4 44 yX4_in, .static yX4_in, .initialized RX4, .code yX4_in cX4_in 3 (some .boolean), .methodLink RX4 60 yX4_first, .instanceMethod yX4_first, .selects RX4 yX4_first yX4_first, .code yX4_first cX4_first 4 (some .int)] ++ wsX40)
def wsX4_common : List Cond := .code yX4_common cX4_common 9 (some .int) :: ([.fieldLink RX4 7 "HeatedStoriesModel" "s" "[I", .methodLink RX4 48 yX4_isStory, .instanceMethod yX4_isStory, .selects RX4 yX4_isStory yX4_isStory, .initialized RX4, .code yX4_isStory cX4_isStory 2 (some .boolean), .methodLink RX4 44 yX4_in, .static yX4_in, .code yX4_in cX4_in 3 (some .boolean), .methodLink RX4 60 yX4_first, .instanceMethod yX4_first, .selects RX4 yX4_first yX4_first, .code yX4_first cX4_first 4 (some .int)] ++ wsX40)
def wsX4_tryHeat_r1 : List Cond := [Cond.fieldLink RX4 125 "HeatedStoriesModel" "reactions" "I", Cond.fieldLink RX4 7 "HeatedStoriesModel" "s" "[I", Cond.fieldLink RX4 13 "HeatedStoriesModel" "aside" "[I", Cond.fieldLink RX4 128 "HeatedStoriesModel" "newSplits" "I", Cond.fieldLink RX4 131 "HeatedStoriesModel" "storiesThen" "I", Cond.fieldLink RX4 134 "HeatedStoriesModel" "heatThen" "I", Cond.methodLink RX4 122 yX4_putAside, Cond.instanceMethod yX4_putAside, Cond.selects RX4 yX4_putAside yX4_putAside, Cond.initialized RX4, Cond.code yX4_putAside cX4_putAside 2 none, Cond.methodLink RX4 67 yX4_warm, Cond.instanceMethod yX4_warm, Cond.selects RX4 yX4_warm yX4_warm, Cond.code yX4_warm cX4_warm 4 none, Cond.methodLink RX4 85 yX4_react, Cond.instanceMethod yX4_react, Cond.selects RX4 yX4_react yX4_react, Cond.code yX4_react cX4_react 3 (some .int), Cond.methodLink RX4 70 yX4_reactOne, Cond.instanceMethod yX4_reactOne, Cond.selects RX4 yX4_reactOne yX4_reactOne, Cond.code yX4_reactOne cX4_reactOne 5 none, Cond.methodLink RX4 56 yX4_storyOf]
def wsX4_tryHeat_r2 : List Cond := [Cond.instanceMethod yX4_storyOf, Cond.selects RX4 yX4_storyOf yX4_storyOf, Cond.code yX4_storyOf cX4_storyOf 4 (some .int), Cond.methodLink RX4 60 yX4_first, Cond.instanceMethod yX4_first, Cond.selects RX4 yX4_first yX4_first, Cond.code yX4_first cX4_first 4 (some .int), Cond.methodLink RX4 63 yX4_split, Cond.instanceMethod yX4_split, Cond.selects RX4 yX4_split yX4_split, Cond.code yX4_split cX4_split 4 none, Cond.methodLink RX4 98 yX4_allHeat, Cond.instanceMethod yX4_allHeat, Cond.selects RX4 yX4_allHeat yX4_allHeat, Cond.code yX4_allHeat cX4_allHeat 3 (some .int), Cond.methodLink RX4 137 yX4_putBack, Cond.instanceMethod yX4_putBack, Cond.selects RX4 yX4_putBack yX4_putBack, Cond.code yX4_putBack cX4_putBack 2 none]
def wsX4_tryHeat : List Cond := .code yX4_tryHeat cX4_tryHeat 3 none :: ((wsX4_tryHeat_r1 ++ wsX4_tryHeat_r2) ++ wsX40)
def wsX4_ifHeated_r1 : List Cond := [Cond.fieldLink RX4 125 "HeatedStoriesModel" "reactions" "I", Cond.fieldLink RX4 128 "HeatedStoriesModel" "newSplits" "I", Cond.fieldLink RX4 131 "HeatedStoriesModel" "storiesThen" "I", Cond.fieldLink RX4 134 "HeatedStoriesModel" "heatThen" "I", Cond.methodLink RX4 81 yX4_isWord, Cond.instanceMethod yX4_isWord, Cond.selects RX4 yX4_isWord yX4_isWord, Cond.initialized RX4, Cond.code yX4_isWord cX4_isWord 3 (some .boolean), Cond.fieldLink RX4 7 "HeatedStoriesModel" "s" "[I", Cond.methodLink RX4 48 yX4_isStory, Cond.instanceMethod yX4_isStory, Cond.selects RX4 yX4_isStory yX4_isStory, Cond.code yX4_isStory cX4_isStory 2 (some .boolean), Cond.methodLink RX4 44 yX4_in, Cond.static yX4_in, Cond.code yX4_in cX4_in 3 (some .boolean), Cond.methodLink RX4 60 yX4_first, Cond.instanceMethod yX4_first, Cond.selects RX4 yX4_first yX4_first, Cond.code yX4_first cX4_first 4 (some .int), Cond.methodLink RX4 140 yX4_tryHeat, Cond.instanceMethod yX4_tryHeat, Cond.selects RX4 yX4_tryHeat yX4_tryHeat]
def wsX4_ifHeated_r2 : List Cond := [Cond.code yX4_tryHeat cX4_tryHeat 3 none, Cond.fieldLink RX4 13 "HeatedStoriesModel" "aside" "[I", Cond.methodLink RX4 122 yX4_putAside, Cond.instanceMethod yX4_putAside, Cond.selects RX4 yX4_putAside yX4_putAside, Cond.code yX4_putAside cX4_putAside 2 none, Cond.methodLink RX4 67 yX4_warm, Cond.instanceMethod yX4_warm, Cond.selects RX4 yX4_warm yX4_warm, Cond.code yX4_warm cX4_warm 4 none, Cond.methodLink RX4 85 yX4_react, Cond.instanceMethod yX4_react, Cond.selects RX4 yX4_react yX4_react, Cond.code yX4_react cX4_react 3 (some .int), Cond.methodLink RX4 70 yX4_reactOne, Cond.instanceMethod yX4_reactOne, Cond.selects RX4 yX4_reactOne yX4_reactOne, Cond.code yX4_reactOne cX4_reactOne 5 none, Cond.methodLink RX4 56 yX4_storyOf, Cond.instanceMethod yX4_storyOf, Cond.selects RX4 yX4_storyOf yX4_storyOf, Cond.code yX4_storyOf cX4_storyOf 4 (some .int), Cond.methodLink RX4 63 yX4_split, Cond.instanceMethod yX4_split]
def wsX4_ifHeated_r3 : List Cond := [Cond.selects RX4 yX4_split yX4_split, Cond.code yX4_split cX4_split 4 none, Cond.methodLink RX4 98 yX4_allHeat, Cond.instanceMethod yX4_allHeat, Cond.selects RX4 yX4_allHeat yX4_allHeat, Cond.code yX4_allHeat cX4_allHeat 3 (some .int), Cond.methodLink RX4 137 yX4_putBack, Cond.instanceMethod yX4_putBack, Cond.selects RX4 yX4_putBack yX4_putBack, Cond.code yX4_putBack cX4_putBack 2 none]
def wsX4_ifHeated : List Cond := .code yX4_ifHeated cX4_ifHeated 5 (some .int) :: ((wsX4_ifHeated_r1 ++ (wsX4_ifHeated_r2 ++ wsX4_ifHeated_r3)) ++ wsX40)
def wsX4_critical_r1 : List Cond := [Cond.fieldLink RX4 128 "HeatedStoriesModel" "newSplits" "I", Cond.methodLink RX4 81 yX4_isWord, Cond.instanceMethod yX4_isWord, Cond.selects RX4 yX4_isWord yX4_isWord, Cond.initialized RX4, Cond.code yX4_isWord cX4_isWord 3 (some .boolean), Cond.fieldLink RX4 7 "HeatedStoriesModel" "s" "[I", Cond.methodLink RX4 48 yX4_isStory, Cond.instanceMethod yX4_isStory, Cond.selects RX4 yX4_isStory yX4_isStory, Cond.code yX4_isStory cX4_isStory 2 (some .boolean), Cond.methodLink RX4 44 yX4_in, Cond.static yX4_in, Cond.code yX4_in cX4_in 3 (some .boolean), Cond.methodLink RX4 60 yX4_first, Cond.instanceMethod yX4_first, Cond.selects RX4 yX4_first yX4_first, Cond.code yX4_first cX4_first 4 (some .int), Cond.methodLink RX4 140 yX4_tryHeat, Cond.instanceMethod yX4_tryHeat, Cond.selects RX4 yX4_tryHeat yX4_tryHeat, Cond.code yX4_tryHeat cX4_tryHeat 3 none, Cond.fieldLink RX4 125 "HeatedStoriesModel" "reactions" "I", Cond.fieldLink RX4 13 "HeatedStoriesModel" "aside" "[I"]
def wsX4_critical_r2 : List Cond := [Cond.fieldLink RX4 131 "HeatedStoriesModel" "storiesThen" "I", Cond.fieldLink RX4 134 "HeatedStoriesModel" "heatThen" "I", Cond.methodLink RX4 122 yX4_putAside, Cond.instanceMethod yX4_putAside, Cond.selects RX4 yX4_putAside yX4_putAside, Cond.code yX4_putAside cX4_putAside 2 none, Cond.methodLink RX4 67 yX4_warm, Cond.instanceMethod yX4_warm, Cond.selects RX4 yX4_warm yX4_warm, Cond.code yX4_warm cX4_warm 4 none, Cond.methodLink RX4 85 yX4_react, Cond.instanceMethod yX4_react, Cond.selects RX4 yX4_react yX4_react, Cond.code yX4_react cX4_react 3 (some .int), Cond.methodLink RX4 70 yX4_reactOne, Cond.instanceMethod yX4_reactOne, Cond.selects RX4 yX4_reactOne yX4_reactOne, Cond.code yX4_reactOne cX4_reactOne 5 none, Cond.methodLink RX4 56 yX4_storyOf, Cond.instanceMethod yX4_storyOf, Cond.selects RX4 yX4_storyOf yX4_storyOf, Cond.code yX4_storyOf cX4_storyOf 4 (some .int), Cond.methodLink RX4 63 yX4_split, Cond.instanceMethod yX4_split]
def wsX4_critical_r3 : List Cond := [Cond.selects RX4 yX4_split yX4_split, Cond.code yX4_split cX4_split 4 none, Cond.methodLink RX4 98 yX4_allHeat, Cond.instanceMethod yX4_allHeat, Cond.selects RX4 yX4_allHeat yX4_allHeat, Cond.code yX4_allHeat cX4_allHeat 3 (some .int), Cond.methodLink RX4 137 yX4_putBack, Cond.instanceMethod yX4_putBack, Cond.selects RX4 yX4_putBack yX4_putBack, Cond.code yX4_putBack cX4_putBack 2 none]
def wsX4_critical : List Cond := .code yX4_critical cX4_critical 4 (some .int) :: ((wsX4_critical_r1 ++ (wsX4_critical_r2 ++ wsX4_critical_r3)) ++ wsX40)
def wsX4_touchiest_r1 : List Cond := [Cond.fieldLink RX4 7 "HeatedStoriesModel" "s" "[I", Cond.fieldLink RX4 125 "HeatedStoriesModel" "reactions" "I", Cond.methodLink RX4 44 yX4_in, Cond.static yX4_in, Cond.initialized RX4, Cond.code yX4_in cX4_in 3 (some .boolean), Cond.methodLink RX4 140 yX4_tryHeat, Cond.instanceMethod yX4_tryHeat, Cond.selects RX4 yX4_tryHeat yX4_tryHeat, Cond.code yX4_tryHeat cX4_tryHeat 3 none, Cond.fieldLink RX4 13 "HeatedStoriesModel" "aside" "[I", Cond.fieldLink RX4 128 "HeatedStoriesModel" "newSplits" "I", Cond.fieldLink RX4 131 "HeatedStoriesModel" "storiesThen" "I", Cond.fieldLink RX4 134 "HeatedStoriesModel" "heatThen" "I", Cond.methodLink RX4 122 yX4_putAside, Cond.instanceMethod yX4_putAside, Cond.selects RX4 yX4_putAside yX4_putAside, Cond.code yX4_putAside cX4_putAside 2 none, Cond.methodLink RX4 67 yX4_warm, Cond.instanceMethod yX4_warm, Cond.selects RX4 yX4_warm yX4_warm, Cond.code yX4_warm cX4_warm 4 none, Cond.methodLink RX4 85 yX4_react, Cond.instanceMethod yX4_react]
def wsX4_touchiest_r2 : List Cond := [Cond.selects RX4 yX4_react yX4_react, Cond.code yX4_react cX4_react 3 (some .int), Cond.methodLink RX4 70 yX4_reactOne, Cond.instanceMethod yX4_reactOne, Cond.selects RX4 yX4_reactOne yX4_reactOne, Cond.code yX4_reactOne cX4_reactOne 5 none, Cond.methodLink RX4 56 yX4_storyOf, Cond.instanceMethod yX4_storyOf, Cond.selects RX4 yX4_storyOf yX4_storyOf, Cond.code yX4_storyOf cX4_storyOf 4 (some .int), Cond.methodLink RX4 60 yX4_first, Cond.instanceMethod yX4_first, Cond.selects RX4 yX4_first yX4_first, Cond.code yX4_first cX4_first 4 (some .int), Cond.methodLink RX4 63 yX4_split, Cond.instanceMethod yX4_split, Cond.selects RX4 yX4_split yX4_split, Cond.code yX4_split cX4_split 4 none, Cond.methodLink RX4 98 yX4_allHeat, Cond.instanceMethod yX4_allHeat, Cond.selects RX4 yX4_allHeat yX4_allHeat, Cond.code yX4_allHeat cX4_allHeat 3 (some .int), Cond.methodLink RX4 137 yX4_putBack, Cond.instanceMethod yX4_putBack]
def wsX4_touchiest_r3 : List Cond := [Cond.selects RX4 yX4_putBack yX4_putBack, Cond.code yX4_putBack cX4_putBack 2 none]
def wsX4_touchiest : List Cond := .code yX4_touchiest cX4_touchiest 6 (some .int) :: ((wsX4_touchiest_r1 ++ (wsX4_touchiest_r2 ++ wsX4_touchiest_r3)) ++ wsX40)
def wsX4_coolestPair : List Cond := .code yX4_coolestPair cX4_coolestPair 9 (some .int) :: ([.fieldLink RX4 7 "HeatedStoriesModel" "s" "[I", .methodLink RX4 44 yX4_in, .static yX4_in, .initialized RX4, .code yX4_in cX4_in 3 (some .boolean), .methodLink RX4 101 yX4_heatOf, .instanceMethod yX4_heatOf, .selects RX4 yX4_heatOf yX4_heatOf, .code yX4_heatOf cX4_heatOf 4 (some .int), .methodLink RX4 60 yX4_first, .instanceMethod yX4_first, .selects RX4 yX4_first yX4_first, .code yX4_first cX4_first 4 (some .int), .methodLink RX4 89 yX4_theme, .instanceMethod yX4_theme, .selects RX4 yX4_theme yX4_theme, .code yX4_theme cX4_theme 4 (some .int), .methodLink RX4 74 yX4_times, .instanceMethod yX4_times, .selects RX4 yX4_times yX4_times, .code yX4_times cX4_times 5 (some .int)] ++ wsX40)
def wsX4_put : List Cond := .code yX4_put cX4_put 8 (some .int) :: ([.constantLong RX4 143 (255), .fieldLink RX4 119 "HeatedStoriesModel" "length" "I", .fieldLink RX4 26 "HeatedStoriesModel" "pad" "[I", .methodLink RX4 44 yX4_in, .static yX4_in, .initialized RX4, .code yX4_in cX4_in 3 (some .boolean)] ++ wsX40)
def wsX4_wipe : List Cond := .code yX4_wipe cX4_wipe 2 (some .int) :: ([.fieldLink RX4 119 "HeatedStoriesModel" "length" "I"] ++ wsX40)
def wsX4_sign : List Cond := .code yX4_sign cX4_sign 4 (some .int) :: ([.fieldLink RX4 145 "HeatedStoriesModel" "place" "I", .fieldLink RX4 119 "HeatedStoriesModel" "length" "I", .fieldLink RX4 26 "HeatedStoriesModel" "pad" "[I", .fieldLink RX4 148 "HeatedStoriesModel" "isWrong" "Z", .methodLink RX4 44 yX4_in, .static yX4_in, .initialized RX4, .code yX4_in cX4_in 3 (some .boolean)] ++ wsX40)
def wsX4_isNext : List Cond := .code yX4_isNext cX4_isNext 3 (some .boolean) :: ([.fieldLink RX4 148 "HeatedStoriesModel" "isWrong" "Z", .fieldLink RX4 145 "HeatedStoriesModel" "place" "I", .fieldLink RX4 119 "HeatedStoriesModel" "length" "I", .fieldLink RX4 26 "HeatedStoriesModel" "pad" "[I", .methodLink RX4 44 yX4_in, .static yX4_in, .initialized RX4, .code yX4_in cX4_in 3 (some .boolean)] ++ wsX40)
def wsX4_readPad : List Cond := .code yX4_readPad cX4_readPad 5 none :: ([.fieldLink RX4 145 "HeatedStoriesModel" "place" "I", .fieldLink RX4 148 "HeatedStoriesModel" "isWrong" "Z", .fieldLink RX4 152 "HeatedStoriesModel" "toldWords" "I", .fieldLink RX4 155 "HeatedStoriesModel" "toldStories" "I", .fieldLink RX4 35 "HeatedStoriesModel" "toldLetter" "[I", .fieldLink RX4 38 "HeatedStoriesModel" "toldHeat" "[I", .fieldLink RX4 41 "HeatedStoriesModel" "toldStory" "[I", .fieldLink RX4 119 "HeatedStoriesModel" "length" "I", .methodLink RX4 158 yX4_sign, .instanceMethod yX4_sign, .selects RX4 yX4_sign yX4_sign, .initialized RX4, .code yX4_sign cX4_sign 4 (some .int), .fieldLink RX4 26 "HeatedStoriesModel" "pad" "[I", .methodLink RX4 44 yX4_in, .static yX4_in, .code yX4_in cX4_in 3 (some .boolean), .methodLink RX4 161 yX4_isNext, .instanceMethod yX4_isNext, .selects RX4 yX4_isNext yX4_isNext, .code yX4_isNext cX4_isNext 3 (some .boolean)] ++ wsX40)
def wsX4_fault_r1 : List Cond := [Cond.fieldLink RX4 148 "HeatedStoriesModel" "isWrong" "Z", Cond.fieldLink RX4 145 "HeatedStoriesModel" "place" "I", Cond.methodLink RX4 164 yX4_readPad, Cond.instanceMethod yX4_readPad, Cond.selects RX4 yX4_readPad yX4_readPad, Cond.initialized RX4, Cond.code yX4_readPad cX4_readPad 5 none, Cond.fieldLink RX4 152 "HeatedStoriesModel" "toldWords" "I", Cond.fieldLink RX4 155 "HeatedStoriesModel" "toldStories" "I", Cond.fieldLink RX4 35 "HeatedStoriesModel" "toldLetter" "[I", Cond.fieldLink RX4 38 "HeatedStoriesModel" "toldHeat" "[I", Cond.fieldLink RX4 41 "HeatedStoriesModel" "toldStory" "[I", Cond.fieldLink RX4 119 "HeatedStoriesModel" "length" "I", Cond.methodLink RX4 158 yX4_sign, Cond.instanceMethod yX4_sign, Cond.selects RX4 yX4_sign yX4_sign, Cond.code yX4_sign cX4_sign 4 (some .int), Cond.fieldLink RX4 26 "HeatedStoriesModel" "pad" "[I", Cond.methodLink RX4 44 yX4_in, Cond.static yX4_in, Cond.code yX4_in cX4_in 3 (some .boolean), Cond.methodLink RX4 161 yX4_isNext, Cond.instanceMethod yX4_isNext, Cond.selects RX4 yX4_isNext yX4_isNext]
def wsX4_fault_r2 : List Cond := [Cond.code yX4_isNext cX4_isNext 3 (some .boolean)]
def wsX4_fault : List Cond := .code yX4_fault cX4_fault 1 (some .int) :: ((wsX4_fault_r1 ++ wsX4_fault_r2) ++ wsX40)
def wsX4_write_r1 : List Cond := [Cond.fieldLink RX4 148 "HeatedStoriesModel" "isWrong" "Z", Cond.fieldLink RX4 7 "HeatedStoriesModel" "s" "[I", Cond.fieldLink RX4 155 "HeatedStoriesModel" "toldStories" "I", Cond.fieldLink RX4 152 "HeatedStoriesModel" "toldWords" "I", Cond.fieldLink RX4 35 "HeatedStoriesModel" "toldLetter" "[I", Cond.fieldLink RX4 38 "HeatedStoriesModel" "toldHeat" "[I", Cond.fieldLink RX4 41 "HeatedStoriesModel" "toldStory" "[I", Cond.fieldLink RX4 119 "HeatedStoriesModel" "length" "I", Cond.methodLink RX4 164 yX4_readPad, Cond.instanceMethod yX4_readPad, Cond.selects RX4 yX4_readPad yX4_readPad, Cond.initialized RX4, Cond.code yX4_readPad cX4_readPad 5 none, Cond.fieldLink RX4 145 "HeatedStoriesModel" "place" "I", Cond.methodLink RX4 158 yX4_sign, Cond.instanceMethod yX4_sign, Cond.selects RX4 yX4_sign yX4_sign, Cond.code yX4_sign cX4_sign 4 (some .int), Cond.fieldLink RX4 26 "HeatedStoriesModel" "pad" "[I", Cond.methodLink RX4 44 yX4_in, Cond.static yX4_in, Cond.code yX4_in cX4_in 3 (some .boolean), Cond.methodLink RX4 161 yX4_isNext, Cond.instanceMethod yX4_isNext]
def wsX4_write_r2 : List Cond := [Cond.selects RX4 yX4_isNext yX4_isNext, Cond.code yX4_isNext cX4_isNext 3 (some .boolean), Cond.methodLink RX4 78 yX4_know, Cond.instanceMethod yX4_know, Cond.selects RX4 yX4_know yX4_know, Cond.code yX4_know cX4_know 2 none, Cond.fieldLink RX4 52 "HeatedStoriesModel" "known" "I", Cond.fieldLink RX4 16 "HeatedStoriesModel" "before" "[I", Cond.methodLink RX4 85 yX4_react, Cond.instanceMethod yX4_react, Cond.selects RX4 yX4_react yX4_react, Cond.code yX4_react cX4_react 3 (some .int), Cond.methodLink RX4 70 yX4_reactOne, Cond.instanceMethod yX4_reactOne, Cond.selects RX4 yX4_reactOne yX4_reactOne, Cond.code yX4_reactOne cX4_reactOne 5 none, Cond.methodLink RX4 56 yX4_storyOf, Cond.instanceMethod yX4_storyOf, Cond.selects RX4 yX4_storyOf yX4_storyOf, Cond.code yX4_storyOf cX4_storyOf 4 (some .int), Cond.methodLink RX4 60 yX4_first, Cond.instanceMethod yX4_first, Cond.selects RX4 yX4_first yX4_first, Cond.code yX4_first cX4_first 4 (some .int)]
def wsX4_write_r3 : List Cond := [Cond.methodLink RX4 63 yX4_split, Cond.instanceMethod yX4_split, Cond.selects RX4 yX4_split yX4_split, Cond.code yX4_split cX4_split 4 none, Cond.methodLink RX4 67 yX4_warm, Cond.instanceMethod yX4_warm, Cond.selects RX4 yX4_warm yX4_warm, Cond.code yX4_warm cX4_warm 4 none]
def wsX4_write : List Cond := .code yX4_write cX4_write 3 (some .int) :: ((wsX4_write_r1 ++ (wsX4_write_r2 ++ wsX4_write_r3)) ++ wsX40)
def wsX4_undo : List Cond := .code yX4_undo cX4_undo 2 (some .int) :: ([.fieldLink RX4 52 "HeatedStoriesModel" "known" "I", .fieldLink RX4 7 "HeatedStoriesModel" "s" "[I", .fieldLink RX4 16 "HeatedStoriesModel" "before" "[I"] ++ wsX40)
def wsX4_save : List Cond := .code yX4_save cX4_save 3 (some .int) :: ([.fieldLink RX4 19 "HeatedStoriesModel" "slots" "[I", .fieldLink RX4 7 "HeatedStoriesModel" "s" "[I", .fieldLink RX4 22 "HeatedStoriesModel" "isSaved" "[Z", .methodLink RX4 44 yX4_in, .static yX4_in, .initialized RX4, .code yX4_in cX4_in 3 (some .boolean)] ++ wsX40)
def wsX4_restore : List Cond := .code yX4_restore cX4_restore 3 (some .int) :: ([.fieldLink RX4 22 "HeatedStoriesModel" "isSaved" "[Z", .fieldLink RX4 7 "HeatedStoriesModel" "s" "[I", .fieldLink RX4 19 "HeatedStoriesModel" "slots" "[I", .methodLink RX4 44 yX4_in, .static yX4_in, .initialized RX4, .code yX4_in cX4_in 3 (some .boolean), .methodLink RX4 78 yX4_know, .instanceMethod yX4_know, .selects RX4 yX4_know yX4_know, .code yX4_know cX4_know 2 none, .fieldLink RX4 52 "HeatedStoriesModel" "known" "I", .fieldLink RX4 16 "HeatedStoriesModel" "before" "[I"] ++ wsX40)
def wsJ9_max_7cf53 : List Cond := .code yJ9_max_7cf53 cJ9_max_7cf53 2 (some .int) :: ([])
def wsJ9_min_7cf53 : List Cond := .code yJ9_min_7cf53 cJ9_min_7cf53 2 (some .int) :: ([])
def wsL_law_r1 : List Cond := [Cond.classLink RL 7 RX3, Cond.instantiable RX3 9, Cond.initialized RX3, Cond.classLink RL 10 RX4, Cond.instantiable RX4 21, Cond.initialized RX4, Cond.constantLong RL 86 (4294967295), Cond.methodLink RL 9 yX3_init, Cond.instanceMethod yX3_init, Cond.code yX3_init cX3_init 2 none, Cond.methodLink RX3 1 objectInit, Cond.instanceMethod objectInit, Cond.code objectInit ⟨#[0xb1]⟩ 1 none, Cond.classLink RX3 7 RX2, Cond.instantiable RX2 12, Cond.initialized RX2, Cond.fieldLink RX3 10 "HeatedStories" "now" "LHeatedStories$Shelf;", Cond.fieldLink RX3 16 "HeatedStories" "trial" "LHeatedStories$Shelf;", Cond.classLink RX3 19 RX0, Cond.instantiable RX0 3, Cond.initialized RX0, Cond.fieldLink RX3 22 "HeatedStories" "history" "LHeatedStories$History;", Cond.fieldLink RX3 26 "HeatedStories" "slots" "[LHeatedStories$Shelf;", Cond.arrayClass .boolean]
def wsL_law_r2 : List Cond := [Cond.fieldLink RX3 30 "HeatedStories" "saved" "[Z", Cond.classLink RX3 34 RX1, Cond.instantiable RX1 2, Cond.initialized RX1, Cond.fieldLink RX3 37 "HeatedStories" "pad" "LHeatedStories$Pad;", Cond.arrayClass .int, Cond.fieldLink RX3 41 "HeatedStories" "runs" "[I", Cond.fieldLink RX3 45 "HeatedStories" "themes" "[I", Cond.fieldLink RX3 48 "HeatedStories" "storyHeats" "[I", Cond.instanceMethod yX2_init, Cond.code yX2_init cX2_init 1 none, Cond.methodLink RX2 3 objectInit, Cond.fieldLink RX2 9 "HeatedStories$Shelf" "settings" "[I", Cond.fieldLink RX2 15 "HeatedStories$Shelf" "letters" "[I", Cond.fieldLink RX2 18 "HeatedStories$Shelf" "heats" "[I", Cond.fieldLink RX2 21 "HeatedStories$Shelf" "starts" "[I", Cond.fieldLink RX2 24 "HeatedStories$Shelf" "families" "[I", Cond.fieldLink RX2 27 "HeatedStories$Shelf" "generations" "[I", Cond.fieldLink RX2 30 "HeatedStories$Shelf" "tally" "[I", Cond.methodLink RX3 21 yX0_init, Cond.instanceMethod yX0_init, Cond.code yX0_init cX0_init 2 none, Cond.methodLink RX0 3 objectInit, Cond.classLink RX0 9 RX2]
def wsL_law_r3 : List Cond := [Cond.fieldLink RX0 11 "HeatedStories$History" "states" "[LHeatedStories$Shelf;", Cond.instanceMethod yX1_init, Cond.code yX1_init cX1_init 1 none, Cond.methodLink RX1 3 objectInit, Cond.arrayClass .char, Cond.fieldLink RX1 11 "HeatedStories$Pad" "characters" "[C", Cond.methodLink RL 12 yX4_init, Cond.instanceMethod yX4_init, Cond.code yX4_init cX4_init 1 none, Cond.methodLink RX4 1 objectInit, Cond.fieldLink RX4 7 "HeatedStoriesModel" "s" "[I", Cond.fieldLink RX4 13 "HeatedStoriesModel" "aside" "[I", Cond.fieldLink RX4 16 "HeatedStoriesModel" "before" "[I", Cond.fieldLink RX4 19 "HeatedStoriesModel" "slots" "[I", Cond.fieldLink RX4 22 "HeatedStoriesModel" "isSaved" "[Z", Cond.fieldLink RX4 26 "HeatedStoriesModel" "pad" "[I", Cond.fieldLink RX4 29 "HeatedStoriesModel" "letters" "[I", Cond.fieldLink RX4 32 "HeatedStoriesModel" "heats" "[I", Cond.fieldLink RX4 35 "HeatedStoriesModel" "toldLetter" "[I", Cond.fieldLink RX4 38 "HeatedStoriesModel" "toldHeat" "[I", Cond.fieldLink RX4 41 "HeatedStoriesModel" "toldStory" "[I", Cond.methodLink RL 13 yX3_set, Cond.instanceMethod yX3_set, Cond.selects RX3 yX3_set yX3_set]
def wsL_law_r4 : List Cond := [Cond.code yX3_set cX3_set 4 (some .int), Cond.fieldLink RX3 55 "HeatedStories" "LOWEST" "[I", Cond.fieldLink RX3 58 "HeatedStories" "HIGHEST" "[I", Cond.fieldLink RX3 65 "HeatedStories$Shelf" "settings" "[I", Cond.methodLink RX3 51 yX3_isWithin, Cond.static yX3_isWithin, Cond.code yX3_isWithin cX3_isWithin 3 (some .boolean), Cond.methodLink RX3 61 yX0_record, Cond.instanceMethod yX0_record, Cond.selects RX0 yX0_record yX0_record, Cond.code yX0_record cX0_record 2 none, Cond.fieldLink RX0 18 "HeatedStories$History" "oldest" "I", Cond.fieldLink RX0 22 "HeatedStories$History" "size" "I", Cond.methodLink RX0 25 yX2_copyFrom, Cond.instanceMethod yX2_copyFrom, Cond.selects RX2 yX2_copyFrom yX2_copyFrom, Cond.code yX2_copyFrom cX2_copyFrom 3 none, Cond.methodLink RX2 37 arraycopyName, Cond.native arraycopyName, Cond.static arraycopyName, Cond.initialized "java/lang/System", Cond.fieldLink RX2 43 "HeatedStories$Shelf" "stories" "I", Cond.fieldLink RX2 47 "HeatedStories$Shelf" "nextFamily" "I", Cond.fieldLink RX2 50 "HeatedStories$Shelf" "splits" "I"]
def wsL_law_r5 : List Cond := [Cond.fieldLink RX2 53 "HeatedStories$Shelf" "boilings" "I", Cond.fieldLink RX2 56 "HeatedStories$Shelf" "fizzles" "I", Cond.methodLink RX2 33 yX2_words, Cond.instanceMethod yX2_words, Cond.selects RX2 yX2_words yX2_words, Cond.code yX2_words cX2_words 1 (some .int), Cond.methodLink RL 17 yX4_set, Cond.instanceMethod yX4_set, Cond.selects RX4 yX4_set yX4_set, Cond.code yX4_set cX4_set 6 (some .int), Cond.methodLink RX4 44 yX4_in, Cond.static yX4_in, Cond.code yX4_in cX4_in 3 (some .boolean), Cond.methodLink RX4 78 yX4_know, Cond.instanceMethod yX4_know, Cond.selects RX4 yX4_know yX4_know, Cond.code yX4_know cX4_know 2 none, Cond.fieldLink RX4 52 "HeatedStoriesModel" "known" "I", Cond.methodLink RL 18 yX3_write, Cond.instanceMethod yX3_write, Cond.selects RX3 yX3_write yX3_write, Cond.code yX3_write cX3_write 1 (some .int), Cond.fieldLink RX3 72 "HeatedStories$Shelf" "stories" "I", Cond.fieldLink RX3 88 "HeatedStories$Pad" "length" "I"]
def wsL_law_r6 : List Cond := [Cond.methodLink RX3 68 yX1_firstFault, Cond.instanceMethod yX1_firstFault, Cond.selects RX1 yX1_firstFault yX1_firstFault, Cond.code yX1_firstFault cX1_firstFault 3 (some .int), Cond.fieldLink RX1 21 "HeatedStories$Pad" "length" "I", Cond.methodLink RX1 25 yX1_placeBehind, Cond.static yX1_placeBehind, Cond.code yX1_placeBehind cX1_placeBehind 2 (some .int), Cond.methodLink RX1 29 yX1_isWord, Cond.static yX1_isWord, Cond.code yX1_isWord cX1_isWord 1 (some .boolean), Cond.methodLink RX3 76 yX1_storiesIn, Cond.instanceMethod yX1_storiesIn, Cond.selects RX1 yX1_storiesIn yX1_storiesIn, Cond.code yX1_storiesIn cX1_storiesIn 3 (some .int), Cond.methodLink RX3 79 yX2_words, Cond.methodLink RX3 82 yX1_wordsIn, Cond.instanceMethod yX1_wordsIn, Cond.selects RX1 yX1_wordsIn yX1_wordsIn, Cond.code yX1_wordsIn cX1_wordsIn 3 (some .int), Cond.methodLink RX3 85 yX1_writeTo, Cond.instanceMethod yX1_writeTo, Cond.selects RX1 yX1_writeTo yX1_writeTo, Cond.code yX1_writeTo cX1_writeTo 4 none]
def wsL_law_r7 : List Cond := [Cond.methodLink RX1 33 yX2_addStory, Cond.instanceMethod yX2_addStory, Cond.selects RX2 yX2_addStory yX2_addStory, Cond.code yX2_addStory cX2_addStory 1 none, Cond.methodLink RX1 38 yX2_addWord, Cond.instanceMethod yX2_addWord, Cond.selects RX2 yX2_addWord yX2_addWord, Cond.code yX2_addWord cX2_addWord 3 none, Cond.methodLink RX1 42 yX2_addDigit, Cond.instanceMethod yX2_addDigit, Cond.selects RX2 yX2_addDigit yX2_addDigit, Cond.code yX2_addDigit cX2_addDigit 3 none, Cond.methodLink RX3 91 yX2_react, Cond.instanceMethod yX2_react, Cond.selects RX2 yX2_react yX2_react, Cond.code yX2_react cX2_react 4 (some .int), Cond.constant RX2 80 (1000000), Cond.methodLink RX2 85 Lib.Math.max.name, Cond.static Lib.Math.max.name, Cond.initialized "java/lang/Math", Cond.code Lib.Math.max.name Lib.Math.max.code 2 (some .int), Cond.methodLink RX2 81 yX2_reactAt, Cond.instanceMethod yX2_reactAt, Cond.selects RX2 yX2_reactAt yX2_reactAt]
def wsL_law_r8 : List Cond := [Cond.code yX2_reactAt cX2_reactAt 5 none, Cond.methodLink RX2 71 yX2_storyAt, Cond.instanceMethod yX2_storyAt, Cond.selects RX2 yX2_storyAt yX2_storyAt, Cond.code yX2_storyAt cX2_storyAt 3 (some .int), Cond.methodLink RX2 88 yX2_split, Cond.instanceMethod yX2_split, Cond.selects RX2 yX2_split yX2_split, Cond.code yX2_split cX2_split 4 none, Cond.methodLink RX2 92 yX2_warm, Cond.instanceMethod yX2_warm, Cond.selects RX2 yX2_warm yX2_warm, Cond.code yX2_warm cX2_warm 3 none, Cond.methodLink RX2 74 Lib.Math.min.name, Cond.static Lib.Math.min.name, Cond.code Lib.Math.min.name Lib.Math.min.code 2 (some .int), Cond.methodLink RL 22 yX4_write, Cond.instanceMethod yX4_write, Cond.selects RX4 yX4_write yX4_write, Cond.code yX4_write cX4_write 3 (some .int), Cond.fieldLink RX4 148 "HeatedStoriesModel" "isWrong" "Z", Cond.fieldLink RX4 155 "HeatedStoriesModel" "toldStories" "I", Cond.fieldLink RX4 152 "HeatedStoriesModel" "toldWords" "I", Cond.fieldLink RX4 119 "HeatedStoriesModel" "length" "I"]
def wsL_law_r9 : List Cond := [Cond.methodLink RX4 164 yX4_readPad, Cond.instanceMethod yX4_readPad, Cond.selects RX4 yX4_readPad yX4_readPad, Cond.code yX4_readPad cX4_readPad 5 none, Cond.fieldLink RX4 145 "HeatedStoriesModel" "place" "I", Cond.methodLink RX4 158 yX4_sign, Cond.instanceMethod yX4_sign, Cond.selects RX4 yX4_sign yX4_sign, Cond.code yX4_sign cX4_sign 4 (some .int), Cond.methodLink RX4 161 yX4_isNext, Cond.instanceMethod yX4_isNext, Cond.selects RX4 yX4_isNext yX4_isNext, Cond.code yX4_isNext cX4_isNext 3 (some .boolean), Cond.methodLink RX4 85 yX4_react, Cond.instanceMethod yX4_react, Cond.selects RX4 yX4_react yX4_react, Cond.code yX4_react cX4_react 3 (some .int), Cond.methodLink RX4 70 yX4_reactOne, Cond.instanceMethod yX4_reactOne, Cond.selects RX4 yX4_reactOne yX4_reactOne, Cond.code yX4_reactOne cX4_reactOne 5 none, Cond.methodLink RX4 56 yX4_storyOf, Cond.instanceMethod yX4_storyOf, Cond.selects RX4 yX4_storyOf yX4_storyOf]
def wsL_law_r10 : List Cond := [Cond.code yX4_storyOf cX4_storyOf 4 (some .int), Cond.methodLink RX4 60 yX4_first, Cond.instanceMethod yX4_first, Cond.selects RX4 yX4_first yX4_first, Cond.code yX4_first cX4_first 4 (some .int), Cond.methodLink RX4 63 yX4_split, Cond.instanceMethod yX4_split, Cond.selects RX4 yX4_split yX4_split, Cond.code yX4_split cX4_split 4 none, Cond.methodLink RX4 67 yX4_warm, Cond.instanceMethod yX4_warm, Cond.selects RX4 yX4_warm yX4_warm, Cond.code yX4_warm cX4_warm 4 none, Cond.methodLink RL 23 yX3_heat, Cond.instanceMethod yX3_heat, Cond.selects RX3 yX3_heat yX3_heat, Cond.code yX3_heat cX3_heat 4 (some .int), Cond.fieldLink RX3 98 "HeatedStories$Shelf" "starts" "[I", Cond.methodLink RX3 94 yX2_hasWord, Cond.instanceMethod yX2_hasWord, Cond.selects RX2 yX2_hasWord yX2_hasWord, Cond.code yX2_hasWord cX2_hasWord 3 (some .boolean), Cond.methodLink RX2 63 yX2_hasStory, Cond.instanceMethod yX2_hasStory]
def wsL_law_r11 : List Cond := [Cond.selects RX2 yX2_hasStory yX2_hasStory, Cond.code yX2_hasStory cX2_hasStory 2 (some .boolean), Cond.methodLink RX2 67 yX2_sizeOf, Cond.instanceMethod yX2_sizeOf, Cond.selects RX2 yX2_sizeOf yX2_sizeOf, Cond.code yX2_sizeOf cX2_sizeOf 2 (some .int), Cond.methodLink RX3 101 yX2_warm, Cond.methodLink RL 27 yX4_heat, Cond.instanceMethod yX4_heat, Cond.selects RX4 yX4_heat yX4_heat, Cond.code yX4_heat cX4_heat 4 (some .int), Cond.methodLink RX4 81 yX4_isWord, Cond.instanceMethod yX4_isWord, Cond.selects RX4 yX4_isWord yX4_isWord, Cond.code yX4_isWord cX4_isWord 3 (some .boolean), Cond.methodLink RX4 48 yX4_isStory, Cond.instanceMethod yX4_isStory, Cond.selects RX4 yX4_isStory yX4_isStory, Cond.code yX4_isStory cX4_isStory 2 (some .boolean), Cond.methodLink RL 28 yX3_read, Cond.instanceMethod yX3_read, Cond.selects RX3 yX3_read yX3_read, Cond.code yX3_read cX3_read 4 (some .int), Cond.methodLink RX3 105 yX2_hasStory]
def wsL_law_r12 : List Cond := [Cond.methodLink RL 31 yX4_read, Cond.instanceMethod yX4_read, Cond.selects RX4 yX4_read yX4_read, Cond.code yX4_read cX4_read 4 (some .int), Cond.methodLink RL 32 yX3_fuse, Cond.instanceMethod yX3_fuse, Cond.selects RX3 yX3_fuse yX3_fuse, Cond.code yX3_fuse cX3_fuse 5 (some .int), Cond.fieldLink RX3 124 "HeatedStories$Shelf" "generations" "[I", Cond.methodLink RX3 127 Lib.Math.max.name, Cond.methodLink RX3 109 yX2_themeOf, Cond.instanceMethod yX2_themeOf, Cond.selects RX2 yX2_themeOf yX2_themeOf, Cond.code yX2_themeOf cX2_themeOf 4 (some .int), Cond.methodLink RX2 108 yX2_tallyOf, Cond.instanceMethod yX2_tallyOf, Cond.selects RX2 yX2_tallyOf yX2_tallyOf, Cond.code yX2_tallyOf cX2_tallyOf 3 none, Cond.methodLink RX2 102 yJ7_fill_53178, Cond.static yJ7_fill_53178, Cond.initialized RJ7, Cond.code yJ7_fill_53178 cJ7_fill_53178 4 none, Cond.methodLink RX3 113 yX2_copyFrom, Cond.methodLink RX3 116 yX2_remove]
def wsL_law_r13 : List Cond := [Cond.instanceMethod yX2_remove, Cond.selects RX2 yX2_remove yX2_remove, Cond.code yX2_remove cX2_remove 7 none, Cond.methodLink RX3 120 yX2_append, Cond.instanceMethod yX2_append, Cond.selects RX2 yX2_append yX2_append, Cond.code yX2_append cX2_append 9 none, Cond.methodLink RL 35 yX4_fuse, Cond.instanceMethod yX4_fuse, Cond.selects RX4 yX4_fuse yX4_fuse, Cond.code yX4_fuse cX4_fuse 8 (some .int), Cond.methodLink RX4 89 yX4_theme, Cond.instanceMethod yX4_theme, Cond.selects RX4 yX4_theme yX4_theme, Cond.code yX4_theme cX4_theme 4 (some .int), Cond.methodLink RX4 74 yX4_times, Cond.instanceMethod yX4_times, Cond.selects RX4 yX4_times yX4_times, Cond.code yX4_times cX4_times 5 (some .int), Cond.methodLink RX4 92 yX4_removeWords, Cond.instanceMethod yX4_removeWords, Cond.selects RX4 yX4_removeWords yX4_removeWords, Cond.code yX4_removeWords cX4_removeWords 4 none, Cond.methodLink RX4 95 yX4_removeStory]
def wsL_law_r14 : List Cond := [Cond.instanceMethod yX4_removeStory, Cond.selects RX4 yX4_removeStory yX4_removeStory, Cond.code yX4_removeStory cX4_removeStory 3 none, Cond.methodLink RL 36 yX3_pass, Cond.instanceMethod yX3_pass, Cond.selects RX3 yX3_pass yX3_pass, Cond.code yX3_pass cX3_pass 4 (some .int), Cond.fieldLink RX3 133 "HeatedStories$Shelf" "heats" "[I", Cond.methodLink RX3 136 yX2_heatOfAll, Cond.instanceMethod yX2_heatOfAll, Cond.selects RX2 yX2_heatOfAll yX2_heatOfAll, Cond.code yX2_heatOfAll cX2_heatOfAll 1 (some .int), Cond.methodLink RX2 95 yX2_heatBetween, Cond.instanceMethod yX2_heatBetween, Cond.selects RX2 yX2_heatBetween yX2_heatBetween, Cond.code yX2_heatBetween cX2_heatBetween 5 (some .int), Cond.methodLink RL 40 yX4_pass, Cond.instanceMethod yX4_pass, Cond.selects RX4 yX4_pass yX4_pass, Cond.code yX4_pass cX4_pass 4 (some .int), Cond.methodLink RX4 98 yX4_allHeat, Cond.instanceMethod yX4_allHeat, Cond.selects RX4 yX4_allHeat yX4_allHeat, Cond.code yX4_allHeat cX4_allHeat 3 (some .int)]
def wsL_law_r15 : List Cond := [Cond.methodLink RL 41 yX3_burn, Cond.instanceMethod yX3_burn, Cond.selects RX3 yX3_burn yX3_burn, Cond.code yX3_burn cX3_burn 3 (some .int), Cond.methodLink RX3 139 yX2_sizeOf, Cond.methodLink RL 44 yX4_burn, Cond.instanceMethod yX4_burn, Cond.selects RX4 yX4_burn yX4_burn, Cond.code yX4_burn cX4_burn 3 (some .int), Cond.methodLink RL 45 yX3_word, Cond.instanceMethod yX3_word, Cond.selects RX3 yX3_word yX3_word, Cond.code yX3_word cX3_word 5 (some .int), Cond.fieldLink RX3 142 "HeatedStories$Shelf" "letters" "[I", Cond.methodLink RX3 145 yX2_timesIn, Cond.instanceMethod yX2_timesIn, Cond.selects RX2 yX2_timesIn yX2_timesIn, Cond.code yX2_timesIn cX2_timesIn 3 (some .int), Cond.methodLink RX2 98 yX2_timesBetween, Cond.instanceMethod yX2_timesBetween, Cond.selects RX2 yX2_timesBetween yX2_timesBetween, Cond.code yX2_timesBetween cX2_timesBetween 6 (some .int), Cond.methodLink RL 48 yX4_word, Cond.instanceMethod yX4_word]
def wsL_law_r16 : List Cond := [Cond.selects RX4 yX4_word yX4_word, Cond.code yX4_word cX4_word 5 (some .int), Cond.methodLink RL 49 yX3_story, Cond.instanceMethod yX3_story, Cond.selects RX3 yX3_story yX3_story, Cond.code yX3_story cX3_story 3 (some .int), Cond.fieldLink RX3 151 "HeatedStories$Shelf" "families" "[I", Cond.methodLink RX3 148 yX2_heatOf, Cond.instanceMethod yX2_heatOf, Cond.selects RX2 yX2_heatOf yX2_heatOf, Cond.code yX2_heatOf cX2_heatOf 2 (some .int), Cond.methodLink RX3 154 yX2_hottestOf, Cond.instanceMethod yX2_hottestOf, Cond.selects RX2 yX2_hottestOf yX2_hottestOf, Cond.code yX2_hottestOf cX2_hottestOf 4 (some .int), Cond.methodLink RX3 157 yX2_unlikeLettersOf, Cond.instanceMethod yX2_unlikeLettersOf, Cond.selects RX2 yX2_unlikeLettersOf yX2_unlikeLettersOf, Cond.code yX2_unlikeLettersOf cX2_unlikeLettersOf 4 (some .int), Cond.methodLink RX3 160 yX2_readsFromBothEnds, Cond.instanceMethod yX2_readsFromBothEnds, Cond.selects RX2 yX2_readsFromBothEnds yX2_readsFromBothEnds, Cond.code yX2_readsFromBothEnds cX2_readsFromBothEnds 4 (some .boolean), Cond.methodLink RL 52 yX4_story]
def wsL_law_r17 : List Cond := [Cond.instanceMethod yX4_story, Cond.selects RX4 yX4_story yX4_story, Cond.code yX4_story cX4_story 3 (some .int), Cond.methodLink RX4 101 yX4_heatOf, Cond.instanceMethod yX4_heatOf, Cond.selects RX4 yX4_heatOf yX4_heatOf, Cond.code yX4_heatOf cX4_heatOf 4 (some .int), Cond.methodLink RX4 104 yX4_hottest, Cond.instanceMethod yX4_hottest, Cond.selects RX4 yX4_hottest yX4_hottest, Cond.code yX4_hottest cX4_hottest 4 (some .int), Cond.methodLink RX4 107 yX4_unlike, Cond.instanceMethod yX4_unlike, Cond.selects RX4 yX4_unlike yX4_unlike, Cond.code yX4_unlike cX4_unlike 4 (some .int), Cond.methodLink RX4 110 yX4_isSameBackwards, Cond.instanceMethod yX4_isSameBackwards, Cond.selects RX4 yX4_isSameBackwards yX4_isSameBackwards, Cond.code yX4_isSameBackwards cX4_isSameBackwards 6 (some .int), Cond.methodLink RL 53 yX3_count, Cond.instanceMethod yX3_count, Cond.selects RX3 yX3_count yX3_count, Cond.code yX3_count cX3_count 2 (some .int), Cond.fieldLink RX3 166 "HeatedStories$Shelf" "splits" "I"]
def wsL_law_r18 : List Cond := [Cond.fieldLink RX3 169 "HeatedStories$Shelf" "boilings" "I", Cond.fieldLink RX3 172 "HeatedStories$Shelf" "fizzles" "I", Cond.fieldLink RX3 178 "HeatedStories$History" "size" "I", Cond.methodLink RX3 163 yX2_unlikeFamilies, Cond.instanceMethod yX2_unlikeFamilies, Cond.selects RX2 yX2_unlikeFamilies yX2_unlikeFamilies, Cond.code yX2_unlikeFamilies cX2_unlikeFamilies 3 (some .int), Cond.methodLink RX2 111 yX2_isFirstOfFamily, Cond.instanceMethod yX2_isFirstOfFamily, Cond.selects RX2 yX2_isFirstOfFamily yX2_isFirstOfFamily, Cond.code yX2_isFirstOfFamily cX2_isFirstOfFamily 3 (some .boolean), Cond.methodLink RX3 175 yX2_greatestGeneration, Cond.instanceMethod yX2_greatestGeneration, Cond.selects RX2 yX2_greatestGeneration yX2_greatestGeneration, Cond.code yX2_greatestGeneration cX2_greatestGeneration 3 (some .int), Cond.methodLink RL 56 yX4_count, Cond.instanceMethod yX4_count, Cond.selects RX4 yX4_count yX4_count, Cond.code yX4_count cX4_count 2 (some .int), Cond.methodLink RX4 113 yX4_families, Cond.instanceMethod yX4_families, Cond.selects RX4 yX4_families yX4_families, Cond.code yX4_families cX4_families 5 (some .int), Cond.methodLink RX4 116 yX4_greatest]
def wsL_law_r19 : List Cond := [Cond.instanceMethod yX4_greatest, Cond.selects RX4 yX4_greatest yX4_greatest, Cond.code yX4_greatest cX4_greatest 3 (some .int), Cond.methodLink RL 57 yX3_letter, Cond.instanceMethod yX3_letter, Cond.selects RX3 yX3_letter yX3_letter, Cond.code yX3_letter cX3_letter 3 (some .int), Cond.methodLink RX3 181 yX3_isLetter, Cond.static yX3_isLetter, Cond.code yX3_isLetter cX3_isLetter 1 (some .boolean), Cond.methodLink RX3 184 yX2_timesInAll, Cond.instanceMethod yX2_timesInAll, Cond.selects RX2 yX2_timesInAll yX2_timesInAll, Cond.code yX2_timesInAll cX2_timesInAll 2 (some .int), Cond.methodLink RX3 187 yX2_storiesWith, Cond.instanceMethod yX2_storiesWith, Cond.selects RX2 yX2_storiesWith yX2_storiesWith, Cond.code yX2_storiesWith cX2_storiesWith 4 (some .int), Cond.methodLink RX2 114 yX2_timesIn, Cond.methodLink RX3 190 yX2_storiesOfTheme, Cond.instanceMethod yX2_storiesOfTheme, Cond.selects RX2 yX2_storiesOfTheme yX2_storiesOfTheme, Cond.code yX2_storiesOfTheme cX2_storiesOfTheme 4 (some .int), Cond.methodLink RX2 117 yX2_themeOf]
def wsL_law_r20 : List Cond := [Cond.methodLink RX3 193 yX2_heatOfLetter, Cond.instanceMethod yX2_heatOfLetter, Cond.selects RX2 yX2_heatOfLetter yX2_heatOfLetter, Cond.code yX2_heatOfLetter cX2_heatOfLetter 4 (some .int), Cond.methodLink RL 60 yX4_letter, Cond.instanceMethod yX4_letter, Cond.selects RX4 yX4_letter yX4_letter, Cond.code yX4_letter cX4_letter 5 (some .int), Cond.methodLink RL 61 yX3_sideBySide, Cond.instanceMethod yX3_sideBySide, Cond.selects RX3 yX3_sideBySide yX3_sideBySide, Cond.code yX3_sideBySide cX3_sideBySide 7 (some .int), Cond.methodLink RX3 196 yX2_isPair, Cond.instanceMethod yX2_isPair, Cond.selects RX2 yX2_isPair yX2_isPair, Cond.code yX2_isPair cX2_isPair 4 (some .boolean), Cond.methodLink RX3 199 yX2_storyAt, Cond.methodLink RX3 202 yX2_placeOf, Cond.instanceMethod yX2_placeOf, Cond.selects RX2 yX2_placeOf yX2_placeOf, Cond.code yX2_placeOf cX2_placeOf 2 (some .int), Cond.methodLink RL 64 yX4_sideBySide, Cond.instanceMethod yX4_sideBySide, Cond.selects RX4 yX4_sideBySide yX4_sideBySide]
def wsL_law_r21 : List Cond := [Cond.code yX4_sideBySide cX4_sideBySide 11 (some .int), Cond.methodLink RL 65 yX3_common, Cond.instanceMethod yX3_common, Cond.selects RX3 yX3_common yX3_common, Cond.code yX3_common cX3_common 10 (some .int), Cond.methodLink RX3 205 yJ7_fill_53178, Cond.methodLink RL 68 yX4_common, Cond.instanceMethod yX4_common, Cond.selects RX4 yX4_common yX4_common, Cond.code yX4_common cX4_common 9 (some .int), Cond.methodLink RL 69 yX3_ifHeated, Cond.instanceMethod yX3_ifHeated, Cond.selects RX3 yX3_ifHeated yX3_ifHeated, Cond.code yX3_ifHeated cX3_ifHeated 6 (some .int), Cond.methodLink RX3 211 yX3_tryHeating, Cond.instanceMethod yX3_tryHeating, Cond.selects RX3 yX3_tryHeating yX3_tryHeating, Cond.code yX3_tryHeating cX3_tryHeating 3 (some .int), Cond.methodLink RL 73 yX4_ifHeated, Cond.instanceMethod yX4_ifHeated, Cond.selects RX4 yX4_ifHeated yX4_ifHeated, Cond.code yX4_ifHeated cX4_ifHeated 5 (some .int), Cond.fieldLink RX4 125 "HeatedStoriesModel" "reactions" "I", Cond.fieldLink RX4 128 "HeatedStoriesModel" "newSplits" "I"]
def wsL_law_r22 : List Cond := [Cond.fieldLink RX4 131 "HeatedStoriesModel" "storiesThen" "I", Cond.fieldLink RX4 134 "HeatedStoriesModel" "heatThen" "I", Cond.methodLink RX4 140 yX4_tryHeat, Cond.instanceMethod yX4_tryHeat, Cond.selects RX4 yX4_tryHeat yX4_tryHeat, Cond.code yX4_tryHeat cX4_tryHeat 3 none, Cond.methodLink RX4 122 yX4_putAside, Cond.instanceMethod yX4_putAside, Cond.selects RX4 yX4_putAside yX4_putAside, Cond.code yX4_putAside cX4_putAside 2 none, Cond.methodLink RX4 137 yX4_putBack, Cond.instanceMethod yX4_putBack, Cond.selects RX4 yX4_putBack yX4_putBack, Cond.code yX4_putBack cX4_putBack 2 none, Cond.methodLink RL 74 yX3_critical, Cond.instanceMethod yX3_critical, Cond.selects RX3 yX3_critical yX3_critical, Cond.code yX3_critical cX3_critical 7 (some .int), Cond.methodLink RX3 214 yX2_isCalm, Cond.instanceMethod yX2_isCalm, Cond.selects RX2 yX2_isCalm yX2_isCalm, Cond.code yX2_isCalm cX2_isCalm 2 (some .boolean), Cond.methodLink RL 77 yX4_critical, Cond.instanceMethod yX4_critical]
def wsL_law_r23 : List Cond := [Cond.selects RX4 yX4_critical yX4_critical, Cond.code yX4_critical cX4_critical 4 (some .int), Cond.methodLink RL 78 yX3_touchiest, Cond.instanceMethod yX3_touchiest, Cond.selects RX3 yX3_touchiest yX3_touchiest, Cond.code yX3_touchiest cX3_touchiest 9 (some .int), Cond.methodLink RL 81 yX4_touchiest, Cond.instanceMethod yX4_touchiest, Cond.selects RX4 yX4_touchiest yX4_touchiest, Cond.code yX4_touchiest cX4_touchiest 6 (some .int), Cond.methodLink RL 82 yX3_coolestPair, Cond.instanceMethod yX3_coolestPair, Cond.selects RX3 yX3_coolestPair yX3_coolestPair, Cond.code yX3_coolestPair cX3_coolestPair 8 (some .int), Cond.methodLink RL 85 yX4_coolestPair, Cond.instanceMethod yX4_coolestPair, Cond.selects RX4 yX4_coolestPair yX4_coolestPair, Cond.code yX4_coolestPair cX4_coolestPair 9 (some .int), Cond.methodLink RL 88 yX3_put, Cond.instanceMethod yX3_put, Cond.selects RX3 yX3_put yX3_put, Cond.code yX3_put cX3_put 4 (some .int), Cond.methodLink RX3 218 yX1_charactersIn, Cond.static yX1_charactersIn]
def wsL_law_r24 : List Cond := [Cond.code yX1_charactersIn cX1_charactersIn 5 (some .int), Cond.constantLong RX1 15 (255), Cond.methodLink RX3 222 yX1_add, Cond.instanceMethod yX1_add, Cond.selects RX1 yX1_add yX1_add, Cond.code yX1_add cX1_add 5 none, Cond.methodLink RL 92 yX4_put, Cond.instanceMethod yX4_put, Cond.selects RX4 yX4_put yX4_put, Cond.code yX4_put cX4_put 8 (some .int), Cond.constantLong RX4 143 (255), Cond.methodLink RL 93 yX3_wipe, Cond.instanceMethod yX3_wipe, Cond.selects RX3 yX3_wipe yX3_wipe, Cond.code yX3_wipe cX3_wipe 2 (some .int), Cond.methodLink RL 96 yX4_wipe, Cond.instanceMethod yX4_wipe, Cond.selects RX4 yX4_wipe yX4_wipe, Cond.code yX4_wipe cX4_wipe 2 (some .int), Cond.methodLink RL 97 yX3_fault, Cond.instanceMethod yX3_fault, Cond.selects RX3 yX3_fault yX3_fault, Cond.code yX3_fault cX3_fault 1 (some .int), Cond.methodLink RL 100 yX4_fault]
def wsL_law_r25 : List Cond := [Cond.instanceMethod yX4_fault, Cond.selects RX4 yX4_fault yX4_fault, Cond.code yX4_fault cX4_fault 1 (some .int), Cond.methodLink RL 101 yX3_undo, Cond.instanceMethod yX3_undo, Cond.selects RX3 yX3_undo yX3_undo, Cond.code yX3_undo cX3_undo 1 (some .int), Cond.methodLink RX3 226 yX0_takeBack, Cond.instanceMethod yX0_takeBack, Cond.selects RX0 yX0_takeBack yX0_takeBack, Cond.code yX0_takeBack cX0_takeBack 2 none, Cond.methodLink RL 104 yX4_undo, Cond.instanceMethod yX4_undo, Cond.selects RX4 yX4_undo yX4_undo, Cond.code yX4_undo cX4_undo 2 (some .int), Cond.methodLink RL 105 yX3_save, Cond.instanceMethod yX3_save, Cond.selects RX3 yX3_save yX3_save, Cond.code yX3_save cX3_save 2 (some .int), Cond.methodLink RL 108 yX4_save, Cond.instanceMethod yX4_save, Cond.selects RX4 yX4_save yX4_save, Cond.code yX4_save cX4_save 3 (some .int), Cond.methodLink RL 109 yX3_restore]
def wsL_law_r26 : List Cond := [Cond.instanceMethod yX3_restore, Cond.selects RX3 yX3_restore yX3_restore, Cond.code yX3_restore cX3_restore 2 (some .int), Cond.methodLink RL 112 yX4_restore, Cond.instanceMethod yX4_restore, Cond.selects RX4 yX4_restore yX4_restore, Cond.code yX4_restore cX4_restore 3 (some .int)]
def wsL_law : List Cond := (wsL_law_r1 ++ (wsL_law_r2 ++ (wsL_law_r3 ++ (wsL_law_r4 ++ (wsL_law_r5 ++ (wsL_law_r6 ++ (wsL_law_r7 ++ (wsL_law_r8 ++ (wsL_law_r9 ++ (wsL_law_r10 ++ (wsL_law_r11 ++ (wsL_law_r12 ++ (wsL_law_r13 ++ (wsL_law_r14 ++ (wsL_law_r15 ++ (wsL_law_r16 ++ (wsL_law_r17 ++ (wsL_law_r18 ++ (wsL_law_r19 ++ (wsL_law_r20 ++ (wsL_law_r21 ++ (wsL_law_r22 ++ (wsL_law_r23 ++ (wsL_law_r24 ++ (wsL_law_r25 ++ wsL_law_r26))))))))))))))))))))))))) ++ wsX30 ++ wsX40 ++ wsX20 ++ wsX00 ++ wsX10 ++ ([] : List Cond)
set_option maxRecDepth 20000 in
theorem wsL_law_in : ∀ w ∈ wsL_law, w ∈ lw_tbl := fun w h => (goodIn_p wsL_law [40, 43, 48, 102, 122, 475, 165, 168, 176, 180, 184, 544, 547, 551, 191, 195, 198, 201, 206, 211, 215, 219, 223, 227, 231, 254, 236, 240, 244, 248, 251, 728, 716, 720, 724, 575, 579, 583, 567, 587, 571, 258, 262, 266, 271, 555, 559, 563, 276, 591, 281, 285, 289, 292, 297, 301, 595, 599, 603, 607, 611, 306, 310, 314, 615, 619, 318, 623, 323, 327, 331, 627, 335, 339, 343, 347, 351, 631, 635, 639, 643, 647, 355, 359, 363, 367, 651, 655, 659, 371, 374, 378, 382, 387, 392, 663, 396, 400, 405, 667, 409, 671, 414, 418, 675, 679, 683, 687, 422, 426, 691, 430, 695, 434, 699, 438, 441, 446, 703, 450, 708, 454, 712, 458, 462, 732, 466, 736, 470, 740] (by decide +kernel) (by decide +kernel) w h).1
theorem inlX0 : ∀ w ∈ wsX00, w ∈ wsL_law := fun _ h => List.mem_append_left _ (List.mem_append_left _ (List.mem_append_right _ h))
theorem inX0 : ∀ w ∈ wsX00, w ∈ lw_tbl := fun w h => wsL_law_in w (inlX0 w h)
theorem inlX1 : ∀ w ∈ wsX10, w ∈ wsL_law := fun _ h => List.mem_append_left _ (List.mem_append_right _ h)
theorem inX1 : ∀ w ∈ wsX10, w ∈ lw_tbl := fun w h => wsL_law_in w (inlX1 w h)
theorem inlX2 : ∀ w ∈ wsX20, w ∈ wsL_law := fun _ h => List.mem_append_left _ (List.mem_append_left _ (List.mem_append_left _ (List.mem_append_right _ h)))
theorem inX2 : ∀ w ∈ wsX20, w ∈ lw_tbl := fun w h => wsL_law_in w (inlX2 w h)
theorem inlX3 : ∀ w ∈ wsX30, w ∈ wsL_law := fun _ h => List.mem_append_left _ (List.mem_append_left _ (List.mem_append_left _ (List.mem_append_left _ (List.mem_append_left _ (List.mem_append_right _ h)))))
theorem inX3 : ∀ w ∈ wsX30, w ∈ lw_tbl := fun w h => wsL_law_in w (inlX3 w h)
theorem inlX4 : ∀ w ∈ wsX40, w ∈ wsL_law := fun _ h => List.mem_append_left _ (List.mem_append_left _ (List.mem_append_left _ (List.mem_append_left _ (List.mem_append_right _ h))))
theorem inX4 : ∀ w ∈ wsX40, w ∈ lw_tbl := fun w h => wsL_law_in w (inlX4 w h)
theorem inJ9 : ∀ w ∈ wsJ90, w ∈ lw_tbl := by decide +kernel
theorem inJ10 : ∀ w ∈ wsJ100, w ∈ lw_tbl := by decide +kernel
theorem inJ7 : ∀ w ∈ wsJ70, w ∈ lw_tbl := by decide +kernel
set_option maxRecDepth 20000 in
theorem ggX0_init_X2_init : GoodIn wsX0_init wsX2_init := goodIn_r _ [9, 10, 2, 3, 11, 12, 13, 14, 15, 16, 17, 18, 22, 23, 24, 25, 26, 27, 28, 29, 30, 31, 32, 33] (by decide +kernel) (by decide +kernel)
set_option maxRecDepth 20000 in
theorem gX0_init_X2_init_n17 : GoodIn wsX0_init (wsX2_init) := ggX0_init_X2_init
theorem dX0_init_0 : decode cX0_init 0 = .ok (.aload_n 0, 1) := by decide +kernel
theorem dX0_init_1 : decode cX0_init 1 = .ok (.invokespecial 3, 3) := by decide +kernel
theorem dX0_init_4 : decode cX0_init 4 = .ok (.aload_n 0, 1) := by decide +kernel
theorem dX0_init_5 : decode cX0_init 5 = .ok (.bipush 6, 2) := by decide +kernel
theorem dX0_init_7 : decode cX0_init 7 = .ok (.anewarray 9, 3) := by decide +kernel
theorem dX0_init_10 : decode cX0_init 10 = .ok (.putfield 11, 3) := by decide +kernel
theorem dX0_init_13 : decode cX0_init 13 = .ok (.iconst 0, 1) := by decide +kernel
theorem dX0_init_14 : decode cX0_init 14 = .ok (.istore_n 1, 1) := by decide +kernel
theorem dX0_init_15 : decode cX0_init 15 = .ok (.iload_n 1, 1) := by decide +kernel
theorem dX0_init_16 : decode cX0_init 16 = .ok (.bipush 6, 2) := by decide +kernel
theorem dX0_init_18 : decode cX0_init 18 = .ok (.if_icmp .ge 22, 3) := by decide +kernel
theorem dX0_init_21 : decode cX0_init 21 = .ok (.aload_n 0, 1) := by decide +kernel
theorem dX0_init_22 : decode cX0_init 22 = .ok (.getfield 11, 3) := by decide +kernel
theorem dX0_init_25 : decode cX0_init 25 = .ok (.iload_n 1, 1) := by decide +kernel
theorem dX0_init_26 : decode cX0_init 26 = .ok (.new 9, 3) := by decide +kernel
theorem dX0_init_29 : decode cX0_init 29 = .ok (.dup, 1) := by decide +kernel
theorem dX0_init_30 : decode cX0_init 30 = .ok (.invokespecial 17, 3) := by decide +kernel
theorem dX0_init_33 : decode cX0_init 33 = .ok (.aastore, 1) := by decide +kernel
theorem dX0_init_34 : decode cX0_init 34 = .ok (.iinc 1 1, 3) := by decide +kernel
theorem dX0_init_37 : decode cX0_init 37 = .ok (.goto (-22), 3) := by decide +kernel
theorem dX0_init_40 : decode cX0_init 40 = .ok (.return_, 1) := by decide +kernel
set_option maxRecDepth 20000 in
theorem ggX0_record_X2_copyFrom : GoodIn wsX0_record wsX2_copyFrom := goodIn_r _ [8, 9, 10, 11, 12, 13, 14, 15, 16, 17, 18, 19, 20, 21, 22, 23, 24, 25, 26, 7, 27, 31, 32, 33, 34, 35, 36, 37, 38, 39, 40, 41, 42] (by decide +kernel) (by decide +kernel)
set_option maxRecDepth 20000 in
theorem gX0_record_X2_copyFrom : GoodIn wsX0_record (wsV RX0 25 RX2 yX2_copyFrom wsX2_copyFrom) := goodIn_app (goodIn_of _ (by decide +kernel)) ggX0_record_X2_copyFrom
theorem dX0_record_0 : decode cX0_record 0 = .ok (.aload_n 0, 1) := by decide +kernel
theorem dX0_record_1 : decode cX0_record 1 = .ok (.getfield 11, 3) := by decide +kernel
theorem dX0_record_4 : decode cX0_record 4 = .ok (.aload_n 0, 1) := by decide +kernel
theorem dX0_record_5 : decode cX0_record 5 = .ok (.getfield 18, 3) := by decide +kernel
theorem dX0_record_8 : decode cX0_record 8 = .ok (.aload_n 0, 1) := by decide +kernel
theorem dX0_record_9 : decode cX0_record 9 = .ok (.getfield 22, 3) := by decide +kernel
theorem dX0_record_12 : decode cX0_record 12 = .ok (.iadd, 1) := by decide +kernel
theorem dX0_record_13 : decode cX0_record 13 = .ok (.bipush 6, 2) := by decide +kernel
theorem dX0_record_15 : decode cX0_record 15 = .ok (.irem, 1) := by decide +kernel
theorem dX0_record_16 : decode cX0_record 16 = .ok (.aaload, 1) := by decide +kernel
theorem dX0_record_17 : decode cX0_record 17 = .ok (.aload_n 1, 1) := by decide +kernel
theorem dX0_record_18 : decode cX0_record 18 = .ok (.invokevirtual 25, 3) := by decide +kernel
theorem dX0_record_21 : decode cX0_record 21 = .ok (.aload_n 0, 1) := by decide +kernel
theorem dX0_record_22 : decode cX0_record 22 = .ok (.getfield 22, 3) := by decide +kernel
theorem dX0_record_25 : decode cX0_record 25 = .ok (.bipush 6, 2) := by decide +kernel
theorem dX0_record_27 : decode cX0_record 27 = .ok (.if_icmp .ge 16, 3) := by decide +kernel
theorem dX0_record_30 : decode cX0_record 30 = .ok (.aload_n 0, 1) := by decide +kernel
theorem dX0_record_31 : decode cX0_record 31 = .ok (.dup, 1) := by decide +kernel
theorem dX0_record_32 : decode cX0_record 32 = .ok (.getfield 22, 3) := by decide +kernel
theorem dX0_record_35 : decode cX0_record 35 = .ok (.iconst 1, 1) := by decide +kernel
theorem dX0_record_36 : decode cX0_record 36 = .ok (.iadd, 1) := by decide +kernel
theorem dX0_record_37 : decode cX0_record 37 = .ok (.putfield 22, 3) := by decide +kernel
theorem dX0_record_40 : decode cX0_record 40 = .ok (.goto 16, 3) := by decide +kernel
theorem dX0_record_43 : decode cX0_record 43 = .ok (.aload_n 0, 1) := by decide +kernel
theorem dX0_record_44 : decode cX0_record 44 = .ok (.aload_n 0, 1) := by decide +kernel
theorem dX0_record_45 : decode cX0_record 45 = .ok (.getfield 18, 3) := by decide +kernel
theorem dX0_record_48 : decode cX0_record 48 = .ok (.iconst 1, 1) := by decide +kernel
theorem dX0_record_49 : decode cX0_record 49 = .ok (.iadd, 1) := by decide +kernel
theorem dX0_record_50 : decode cX0_record 50 = .ok (.bipush 6, 2) := by decide +kernel
theorem dX0_record_52 : decode cX0_record 52 = .ok (.irem, 1) := by decide +kernel
theorem dX0_record_53 : decode cX0_record 53 = .ok (.putfield 18, 3) := by decide +kernel
theorem dX0_record_56 : decode cX0_record 56 = .ok (.return_, 1) := by decide +kernel
set_option maxRecDepth 20000 in
theorem ggX0_takeBack_X2_copyFrom : GoodIn wsX0_takeBack wsX2_copyFrom := goodIn_r _ [8, 9, 10, 11, 12, 13, 14, 15, 16, 17, 18, 19, 20, 21, 22, 23, 24, 25, 26, 7, 27, 31, 32, 33, 34, 35, 36, 37, 38, 39, 40, 41, 42] (by decide +kernel) (by decide +kernel)
set_option maxRecDepth 20000 in
theorem gX0_takeBack_X2_copyFrom : GoodIn wsX0_takeBack (wsV RX0 25 RX2 yX2_copyFrom wsX2_copyFrom) := goodIn_app (goodIn_of _ (by decide +kernel)) ggX0_takeBack_X2_copyFrom
theorem dX0_takeBack_0 : decode cX0_takeBack 0 = .ok (.aload_n 0, 1) := by decide +kernel
theorem dX0_takeBack_1 : decode cX0_takeBack 1 = .ok (.dup, 1) := by decide +kernel
theorem dX0_takeBack_2 : decode cX0_takeBack 2 = .ok (.getfield 22, 3) := by decide +kernel
theorem dX0_takeBack_5 : decode cX0_takeBack 5 = .ok (.iconst 1, 1) := by decide +kernel
theorem dX0_takeBack_6 : decode cX0_takeBack 6 = .ok (.isub, 1) := by decide +kernel
theorem dX0_takeBack_7 : decode cX0_takeBack 7 = .ok (.putfield 22, 3) := by decide +kernel
theorem dX0_takeBack_10 : decode cX0_takeBack 10 = .ok (.aload_n 1, 1) := by decide +kernel
theorem dX0_takeBack_11 : decode cX0_takeBack 11 = .ok (.aload_n 0, 1) := by decide +kernel
theorem dX0_takeBack_12 : decode cX0_takeBack 12 = .ok (.getfield 11, 3) := by decide +kernel
theorem dX0_takeBack_15 : decode cX0_takeBack 15 = .ok (.aload_n 0, 1) := by decide +kernel
theorem dX0_takeBack_16 : decode cX0_takeBack 16 = .ok (.getfield 18, 3) := by decide +kernel
theorem dX0_takeBack_19 : decode cX0_takeBack 19 = .ok (.aload_n 0, 1) := by decide +kernel
theorem dX0_takeBack_20 : decode cX0_takeBack 20 = .ok (.getfield 22, 3) := by decide +kernel
theorem dX0_takeBack_23 : decode cX0_takeBack 23 = .ok (.iadd, 1) := by decide +kernel
theorem dX0_takeBack_24 : decode cX0_takeBack 24 = .ok (.bipush 6, 2) := by decide +kernel
theorem dX0_takeBack_26 : decode cX0_takeBack 26 = .ok (.irem, 1) := by decide +kernel
theorem dX0_takeBack_27 : decode cX0_takeBack 27 = .ok (.aaload, 1) := by decide +kernel
theorem dX0_takeBack_28 : decode cX0_takeBack 28 = .ok (.invokevirtual 25, 3) := by decide +kernel
theorem dX0_takeBack_31 : decode cX0_takeBack 31 = .ok (.return_, 1) := by decide +kernel
theorem dX1_init_0 : decode cX1_init 0 = .ok (.aload_n 0, 1) := by decide +kernel
theorem dX1_init_1 : decode cX1_init 1 = .ok (.invokespecial 3, 3) := by decide +kernel
theorem dX1_init_4 : decode cX1_init 4 = .ok (.aload_n 0, 1) := by decide +kernel
theorem dX1_init_5 : decode cX1_init 5 = .ok (.bipush 60, 2) := by decide +kernel
theorem dX1_init_7 : decode cX1_init 7 = .ok (.newarray .char, 2) := by decide +kernel
theorem dX1_init_9 : decode cX1_init 9 = .ok (.putfield 11, 3) := by decide +kernel
theorem dX1_init_12 : decode cX1_init 12 = .ok (.return_, 1) := by decide +kernel
set_option maxRecDepth 20000 in
theorem ggX1_charactersIn_X3_isWithin : GoodIn wsX1_charactersIn wsX3_isWithin := goodIn_r _ [4] (by decide +kernel) (by decide +kernel)
set_option maxRecDepth 20000 in
theorem gX1_charactersIn_X3_isWithin_n17 : GoodIn wsX1_charactersIn (wsX3_isWithin) := ggX1_charactersIn_X3_isWithin
theorem dX1_charactersIn_0 : decode cX1_charactersIn 0 = .ok (.lload_n 0, 1) := by decide +kernel
theorem dX1_charactersIn_1 : decode cX1_charactersIn 1 = .ok (.lstore_n 2, 1) := by decide +kernel
theorem dX1_charactersIn_2 : decode cX1_charactersIn 2 = .ok (.iconst 0, 1) := by decide +kernel
theorem dX1_charactersIn_3 : decode cX1_charactersIn 3 = .ok (.istore 4, 2) := by decide +kernel
theorem dX1_charactersIn_5 : decode cX1_charactersIn 5 = .ok (.iload 4, 2) := by decide +kernel
theorem dX1_charactersIn_7 : decode cX1_charactersIn 7 = .ok (.bipush 8, 2) := by decide +kernel
theorem dX1_charactersIn_9 : decode cX1_charactersIn 9 = .ok (.if_icmp .ge 38, 3) := by decide +kernel
theorem dX1_charactersIn_12 : decode cX1_charactersIn 12 = .ok (.lload_n 2, 1) := by decide +kernel
theorem dX1_charactersIn_13 : decode cX1_charactersIn 13 = .ok (.lconst 0, 1) := by decide +kernel
theorem dX1_charactersIn_14 : decode cX1_charactersIn 14 = .ok (.lcmp, 1) := by decide +kernel
theorem dX1_charactersIn_15 : decode cX1_charactersIn 15 = .ok (.ifCond .eq 32, 3) := by decide +kernel
theorem dX1_charactersIn_18 : decode cX1_charactersIn 18 = .ok (.lload_n 2, 1) := by decide +kernel
theorem dX1_charactersIn_19 : decode cX1_charactersIn 19 = .ok (.ldc2_w 15, 3) := by decide +kernel
theorem dX1_charactersIn_22 : decode cX1_charactersIn 22 = .ok (.land, 1) := by decide +kernel
theorem dX1_charactersIn_23 : decode cX1_charactersIn 23 = .ok (.l2i, 1) := by decide +kernel
theorem dX1_charactersIn_24 : decode cX1_charactersIn 24 = .ok (.bipush 33, 2) := by decide +kernel
theorem dX1_charactersIn_26 : decode cX1_charactersIn 26 = .ok (.bipush 126, 2) := by decide +kernel
theorem dX1_charactersIn_28 : decode cX1_charactersIn 28 = .ok (.invokestatic 17, 3) := by decide +kernel
theorem dX1_charactersIn_31 : decode cX1_charactersIn 31 = .ok (.ifCond .ne 5, 3) := by decide +kernel
theorem dX1_charactersIn_34 : decode cX1_charactersIn 34 = .ok (.iconst 0, 1) := by decide +kernel
theorem dX1_charactersIn_35 : decode cX1_charactersIn 35 = .ok (.ireturn, 1) := by decide +kernel
theorem dX1_charactersIn_36 : decode cX1_charactersIn 36 = .ok (.lload_n 2, 1) := by decide +kernel
theorem dX1_charactersIn_37 : decode cX1_charactersIn 37 = .ok (.bipush 8, 2) := by decide +kernel
theorem dX1_charactersIn_39 : decode cX1_charactersIn 39 = .ok (.lushr, 1) := by decide +kernel
theorem dX1_charactersIn_40 : decode cX1_charactersIn 40 = .ok (.lstore_n 2, 1) := by decide +kernel
theorem dX1_charactersIn_41 : decode cX1_charactersIn 41 = .ok (.iinc 4 1, 3) := by decide +kernel
theorem dX1_charactersIn_44 : decode cX1_charactersIn 44 = .ok (.goto (-39), 3) := by decide +kernel
theorem dX1_charactersIn_47 : decode cX1_charactersIn 47 = .ok (.iload 4, 2) := by decide +kernel
theorem dX1_charactersIn_49 : decode cX1_charactersIn 49 = .ok (.ireturn, 1) := by decide +kernel
theorem dX1_add_0 : decode cX1_add 0 = .ok (.iload_n 3, 1) := by decide +kernel
theorem dX1_add_1 : decode cX1_add 1 = .ok (.iconst 1, 1) := by decide +kernel
theorem dX1_add_2 : decode cX1_add 2 = .ok (.isub, 1) := by decide +kernel
theorem dX1_add_3 : decode cX1_add 3 = .ok (.istore 4, 2) := by decide +kernel
theorem dX1_add_5 : decode cX1_add 5 = .ok (.iload 4, 2) := by decide +kernel
theorem dX1_add_7 : decode cX1_add 7 = .ok (.ifCond .lt 41, 3) := by decide +kernel
theorem dX1_add_10 : decode cX1_add 10 = .ok (.aload_n 0, 1) := by decide +kernel
theorem dX1_add_11 : decode cX1_add 11 = .ok (.getfield 11, 3) := by decide +kernel
theorem dX1_add_14 : decode cX1_add 14 = .ok (.aload_n 0, 1) := by decide +kernel
theorem dX1_add_15 : decode cX1_add 15 = .ok (.getfield 21, 3) := by decide +kernel
theorem dX1_add_18 : decode cX1_add 18 = .ok (.lload_n 1, 1) := by decide +kernel
theorem dX1_add_19 : decode cX1_add 19 = .ok (.bipush 8, 2) := by decide +kernel
theorem dX1_add_21 : decode cX1_add 21 = .ok (.iload 4, 2) := by decide +kernel
theorem dX1_add_23 : decode cX1_add 23 = .ok (.imul, 1) := by decide +kernel
theorem dX1_add_24 : decode cX1_add 24 = .ok (.lushr, 1) := by decide +kernel
theorem dX1_add_25 : decode cX1_add 25 = .ok (.ldc2_w 15, 3) := by decide +kernel
theorem dX1_add_28 : decode cX1_add 28 = .ok (.land, 1) := by decide +kernel
theorem dX1_add_29 : decode cX1_add 29 = .ok (.l2i, 1) := by decide +kernel
theorem dX1_add_30 : decode cX1_add 30 = .ok (.i2c, 1) := by decide +kernel
theorem dX1_add_31 : decode cX1_add 31 = .ok (.castore, 1) := by decide +kernel
theorem dX1_add_32 : decode cX1_add 32 = .ok (.aload_n 0, 1) := by decide +kernel
theorem dX1_add_33 : decode cX1_add 33 = .ok (.dup, 1) := by decide +kernel
theorem dX1_add_34 : decode cX1_add 34 = .ok (.getfield 21, 3) := by decide +kernel
theorem dX1_add_37 : decode cX1_add 37 = .ok (.iconst 1, 1) := by decide +kernel
theorem dX1_add_38 : decode cX1_add 38 = .ok (.iadd, 1) := by decide +kernel
theorem dX1_add_39 : decode cX1_add 39 = .ok (.putfield 21, 3) := by decide +kernel
theorem dX1_add_42 : decode cX1_add 42 = .ok (.iinc 4 (-1), 3) := by decide +kernel
theorem dX1_add_45 : decode cX1_add 45 = .ok (.goto (-40), 3) := by decide +kernel
theorem dX1_add_48 : decode cX1_add 48 = .ok (.return_, 1) := by decide +kernel
set_option maxRecDepth 20000 in
theorem ggX1_firstFault_X1_placeBehind : GoodIn wsX1_firstFault wsX1_placeBehind := goodIn_r _ [6, 7, 8, 5, 9, 10, 11, 12] (by decide +kernel) (by decide +kernel)
set_option maxRecDepth 20000 in
theorem gX1_firstFault_X1_placeBehind : GoodIn wsX1_firstFault (va_wsS RX1 25 yX1_placeBehind wsX1_placeBehind) := goodIn_app (goodIn_of _ (by decide +kernel)) ggX1_firstFault_X1_placeBehind
theorem dX1_firstFault_0 : decode cX1_firstFault 0 = .ok (.iconst 0, 1) := by decide +kernel
theorem dX1_firstFault_1 : decode cX1_firstFault 1 = .ok (.istore_n 1, 1) := by decide +kernel
theorem dX1_firstFault_2 : decode cX1_firstFault 2 = .ok (.iconst 0, 1) := by decide +kernel
theorem dX1_firstFault_3 : decode cX1_firstFault 3 = .ok (.istore_n 2, 1) := by decide +kernel
theorem dX1_firstFault_4 : decode cX1_firstFault 4 = .ok (.iload_n 2, 1) := by decide +kernel
theorem dX1_firstFault_5 : decode cX1_firstFault 5 = .ok (.aload_n 0, 1) := by decide +kernel
theorem dX1_firstFault_6 : decode cX1_firstFault 6 = .ok (.getfield 21, 3) := by decide +kernel
theorem dX1_firstFault_9 : decode cX1_firstFault 9 = .ok (.if_icmp .ge 27, 3) := by decide +kernel
theorem dX1_firstFault_12 : decode cX1_firstFault 12 = .ok (.iload_n 1, 1) := by decide +kernel
theorem dX1_firstFault_13 : decode cX1_firstFault 13 = .ok (.aload_n 0, 1) := by decide +kernel
theorem dX1_firstFault_14 : decode cX1_firstFault 14 = .ok (.getfield 11, 3) := by decide +kernel
theorem dX1_firstFault_17 : decode cX1_firstFault 17 = .ok (.iload_n 2, 1) := by decide +kernel
theorem dX1_firstFault_18 : decode cX1_firstFault 18 = .ok (.caload, 1) := by decide +kernel
theorem dX1_firstFault_19 : decode cX1_firstFault 19 = .ok (.invokestatic 25, 3) := by decide +kernel
theorem dX1_firstFault_22 : decode cX1_firstFault 22 = .ok (.istore_n 1, 1) := by decide +kernel
theorem dX1_firstFault_23 : decode cX1_firstFault 23 = .ok (.iload_n 1, 1) := by decide +kernel
theorem dX1_firstFault_24 : decode cX1_firstFault 24 = .ok (.iconst 4, 1) := by decide +kernel
theorem dX1_firstFault_25 : decode cX1_firstFault 25 = .ok (.if_icmp .ne 5, 3) := by decide +kernel
theorem dX1_firstFault_28 : decode cX1_firstFault 28 = .ok (.iload_n 2, 1) := by decide +kernel
theorem dX1_firstFault_29 : decode cX1_firstFault 29 = .ok (.ireturn, 1) := by decide +kernel
theorem dX1_firstFault_30 : decode cX1_firstFault 30 = .ok (.iinc 2 1, 3) := by decide +kernel
theorem dX1_firstFault_33 : decode cX1_firstFault 33 = .ok (.goto (-29), 3) := by decide +kernel
theorem dX1_firstFault_36 : decode cX1_firstFault 36 = .ok (.iload_n 1, 1) := by decide +kernel
theorem dX1_firstFault_37 : decode cX1_firstFault 37 = .ok (.ifCond .ne 10, 3) := by decide +kernel
theorem dX1_firstFault_40 : decode cX1_firstFault 40 = .ok (.aload_n 0, 1) := by decide +kernel
theorem dX1_firstFault_41 : decode cX1_firstFault 41 = .ok (.getfield 21, 3) := by decide +kernel
theorem dX1_firstFault_44 : decode cX1_firstFault 44 = .ok (.goto 5, 3) := by decide +kernel
theorem dX1_firstFault_47 : decode cX1_firstFault 47 = .ok (.bipush (-6), 2) := by decide +kernel
theorem dX1_firstFault_49 : decode cX1_firstFault 49 = .ok (.ireturn, 1) := by decide +kernel
set_option maxRecDepth 20000 in
theorem ggX1_placeBehind_X1_isWord : GoodIn wsX1_placeBehind wsX1_isWord := goodIn_r _ [4, 5, 6, 7] (by decide +kernel) (by decide +kernel)
set_option maxRecDepth 20000 in
theorem gX1_placeBehind_X1_isWord : GoodIn wsX1_placeBehind (va_wsS RX1 29 yX1_isWord wsX1_isWord) := goodIn_app (goodIn_of _ (by decide +kernel)) ggX1_placeBehind_X1_isWord
set_option maxRecDepth 20000 in
theorem ggX1_placeBehind_X3_isWithin : GoodIn wsX1_placeBehind wsX3_isWithin := goodIn_r _ [7] (by decide +kernel) (by decide +kernel)
set_option maxRecDepth 20000 in
theorem gX1_placeBehind_X3_isWithin_n17 : GoodIn wsX1_placeBehind (wsX3_isWithin) := ggX1_placeBehind_X3_isWithin
theorem dX1_placeBehind_0 : decode cX1_placeBehind 0 = .ok (.iload_n 1, 1) := by decide +kernel
theorem dX1_placeBehind_1 : decode cX1_placeBehind 1 = .ok (.invokestatic 29, 3) := by decide +kernel
theorem dX1_placeBehind_4 : decode cX1_placeBehind 4 = .ok (.ifCond .eq 5, 3) := by decide +kernel
theorem dX1_placeBehind_7 : decode cX1_placeBehind 7 = .ok (.iconst 1, 1) := by decide +kernel
theorem dX1_placeBehind_8 : decode cX1_placeBehind 8 = .ok (.ireturn, 1) := by decide +kernel
theorem dX1_placeBehind_9 : decode cX1_placeBehind 9 = .ok (.iload_n 0, 1) := by decide +kernel
theorem dX1_placeBehind_10 : decode cX1_placeBehind 10 = .ok (.ifCond .ne 5, 3) := by decide +kernel
theorem dX1_placeBehind_13 : decode cX1_placeBehind 13 = .ok (.iconst 4, 1) := by decide +kernel
theorem dX1_placeBehind_14 : decode cX1_placeBehind 14 = .ok (.ireturn, 1) := by decide +kernel
theorem dX1_placeBehind_15 : decode cX1_placeBehind 15 = .ok (.iload_n 1, 1) := by decide +kernel
theorem dX1_placeBehind_16 : decode cX1_placeBehind 16 = .ok (.bipush 47, 2) := by decide +kernel
theorem dX1_placeBehind_18 : decode cX1_placeBehind 18 = .ok (.if_icmp .ne 5, 3) := by decide +kernel
theorem dX1_placeBehind_21 : decode cX1_placeBehind 21 = .ok (.iconst 0, 1) := by decide +kernel
theorem dX1_placeBehind_22 : decode cX1_placeBehind 22 = .ok (.ireturn, 1) := by decide +kernel
theorem dX1_placeBehind_23 : decode cX1_placeBehind 23 = .ok (.iload_n 0, 1) := by decide +kernel
theorem dX1_placeBehind_24 : decode cX1_placeBehind 24 = .ok (.iconst 1, 1) := by decide +kernel
theorem dX1_placeBehind_25 : decode cX1_placeBehind 25 = .ok (.if_icmp .ne 16, 3) := by decide +kernel
theorem dX1_placeBehind_28 : decode cX1_placeBehind 28 = .ok (.iload_n 1, 1) := by decide +kernel
theorem dX1_placeBehind_29 : decode cX1_placeBehind 29 = .ok (.bipush 49, 2) := by decide +kernel
theorem dX1_placeBehind_31 : decode cX1_placeBehind 31 = .ok (.bipush 57, 2) := by decide +kernel
theorem dX1_placeBehind_33 : decode cX1_placeBehind 33 = .ok (.invokestatic 17, 3) := by decide +kernel
theorem dX1_placeBehind_36 : decode cX1_placeBehind 36 = .ok (.ifCond .eq 5, 3) := by decide +kernel
theorem dX1_placeBehind_39 : decode cX1_placeBehind 39 = .ok (.iconst 2, 1) := by decide +kernel
theorem dX1_placeBehind_40 : decode cX1_placeBehind 40 = .ok (.ireturn, 1) := by decide +kernel
theorem dX1_placeBehind_41 : decode cX1_placeBehind 41 = .ok (.iload_n 0, 1) := by decide +kernel
theorem dX1_placeBehind_42 : decode cX1_placeBehind 42 = .ok (.iconst 2, 1) := by decide +kernel
theorem dX1_placeBehind_43 : decode cX1_placeBehind 43 = .ok (.if_icmp .ne 16, 3) := by decide +kernel
theorem dX1_placeBehind_46 : decode cX1_placeBehind 46 = .ok (.iload_n 1, 1) := by decide +kernel
theorem dX1_placeBehind_47 : decode cX1_placeBehind 47 = .ok (.bipush 48, 2) := by decide +kernel
theorem dX1_placeBehind_49 : decode cX1_placeBehind 49 = .ok (.bipush 57, 2) := by decide +kernel
theorem dX1_placeBehind_51 : decode cX1_placeBehind 51 = .ok (.invokestatic 17, 3) := by decide +kernel
theorem dX1_placeBehind_54 : decode cX1_placeBehind 54 = .ok (.ifCond .eq 5, 3) := by decide +kernel
theorem dX1_placeBehind_57 : decode cX1_placeBehind 57 = .ok (.iconst 3, 1) := by decide +kernel
theorem dX1_placeBehind_58 : decode cX1_placeBehind 58 = .ok (.ireturn, 1) := by decide +kernel
theorem dX1_placeBehind_59 : decode cX1_placeBehind 59 = .ok (.iconst 4, 1) := by decide +kernel
theorem dX1_placeBehind_60 : decode cX1_placeBehind 60 = .ok (.ireturn, 1) := by decide +kernel
set_option maxRecDepth 20000 in
theorem ggX1_isWord_X3_isWithin : GoodIn wsX1_isWord wsX3_isWithin := goodIn_r _ [3] (by decide +kernel) (by decide +kernel)
set_option maxRecDepth 20000 in
theorem gX1_isWord_X3_isWithin_n17 : GoodIn wsX1_isWord (wsX3_isWithin) := ggX1_isWord_X3_isWithin
theorem dX1_isWord_0 : decode cX1_isWord 0 = .ok (.iload_n 0, 1) := by decide +kernel
theorem dX1_isWord_1 : decode cX1_isWord 1 = .ok (.bipush 97, 2) := by decide +kernel
theorem dX1_isWord_3 : decode cX1_isWord 3 = .ok (.bipush 122, 2) := by decide +kernel
theorem dX1_isWord_5 : decode cX1_isWord 5 = .ok (.invokestatic 17, 3) := by decide +kernel
theorem dX1_isWord_8 : decode cX1_isWord 8 = .ok (.ireturn, 1) := by decide +kernel
theorem dX1_storiesIn_0 : decode cX1_storiesIn 0 = .ok (.iconst 1, 1) := by decide +kernel
theorem dX1_storiesIn_1 : decode cX1_storiesIn 1 = .ok (.istore_n 1, 1) := by decide +kernel
theorem dX1_storiesIn_2 : decode cX1_storiesIn 2 = .ok (.iconst 0, 1) := by decide +kernel
theorem dX1_storiesIn_3 : decode cX1_storiesIn 3 = .ok (.istore_n 2, 1) := by decide +kernel
theorem dX1_storiesIn_4 : decode cX1_storiesIn 4 = .ok (.iload_n 2, 1) := by decide +kernel
theorem dX1_storiesIn_5 : decode cX1_storiesIn 5 = .ok (.aload_n 0, 1) := by decide +kernel
theorem dX1_storiesIn_6 : decode cX1_storiesIn 6 = .ok (.getfield 21, 3) := by decide +kernel
theorem dX1_storiesIn_9 : decode cX1_storiesIn 9 = .ok (.if_icmp .ge 28, 3) := by decide +kernel
theorem dX1_storiesIn_12 : decode cX1_storiesIn 12 = .ok (.iload_n 1, 1) := by decide +kernel
theorem dX1_storiesIn_13 : decode cX1_storiesIn 13 = .ok (.aload_n 0, 1) := by decide +kernel
theorem dX1_storiesIn_14 : decode cX1_storiesIn 14 = .ok (.getfield 11, 3) := by decide +kernel
theorem dX1_storiesIn_17 : decode cX1_storiesIn 17 = .ok (.iload_n 2, 1) := by decide +kernel
theorem dX1_storiesIn_18 : decode cX1_storiesIn 18 = .ok (.caload, 1) := by decide +kernel
theorem dX1_storiesIn_19 : decode cX1_storiesIn 19 = .ok (.bipush 47, 2) := by decide +kernel
theorem dX1_storiesIn_21 : decode cX1_storiesIn 21 = .ok (.if_icmp .ne 7, 3) := by decide +kernel
theorem dX1_storiesIn_24 : decode cX1_storiesIn 24 = .ok (.iconst 1, 1) := by decide +kernel
theorem dX1_storiesIn_25 : decode cX1_storiesIn 25 = .ok (.goto 4, 3) := by decide +kernel
theorem dX1_storiesIn_28 : decode cX1_storiesIn 28 = .ok (.iconst 0, 1) := by decide +kernel
theorem dX1_storiesIn_29 : decode cX1_storiesIn 29 = .ok (.iadd, 1) := by decide +kernel
theorem dX1_storiesIn_30 : decode cX1_storiesIn 30 = .ok (.istore_n 1, 1) := by decide +kernel
theorem dX1_storiesIn_31 : decode cX1_storiesIn 31 = .ok (.iinc 2 1, 3) := by decide +kernel
theorem dX1_storiesIn_34 : decode cX1_storiesIn 34 = .ok (.goto (-30), 3) := by decide +kernel
theorem dX1_storiesIn_37 : decode cX1_storiesIn 37 = .ok (.iload_n 1, 1) := by decide +kernel
theorem dX1_storiesIn_38 : decode cX1_storiesIn 38 = .ok (.ireturn, 1) := by decide +kernel
set_option maxRecDepth 20000 in
theorem ggX1_wordsIn_X1_isWord : GoodIn wsX1_wordsIn wsX1_isWord := goodIn_r _ [6, 7, 8, 9] (by decide +kernel) (by decide +kernel)
set_option maxRecDepth 20000 in
theorem gX1_wordsIn_X1_isWord : GoodIn wsX1_wordsIn (va_wsS RX1 29 yX1_isWord wsX1_isWord) := goodIn_app (goodIn_of _ (by decide +kernel)) ggX1_wordsIn_X1_isWord
theorem dX1_wordsIn_0 : decode cX1_wordsIn 0 = .ok (.iconst 0, 1) := by decide +kernel
theorem dX1_wordsIn_1 : decode cX1_wordsIn 1 = .ok (.istore_n 1, 1) := by decide +kernel
theorem dX1_wordsIn_2 : decode cX1_wordsIn 2 = .ok (.iconst 0, 1) := by decide +kernel
theorem dX1_wordsIn_3 : decode cX1_wordsIn 3 = .ok (.istore_n 2, 1) := by decide +kernel
theorem dX1_wordsIn_4 : decode cX1_wordsIn 4 = .ok (.iload_n 2, 1) := by decide +kernel
theorem dX1_wordsIn_5 : decode cX1_wordsIn 5 = .ok (.aload_n 0, 1) := by decide +kernel
theorem dX1_wordsIn_6 : decode cX1_wordsIn 6 = .ok (.getfield 21, 3) := by decide +kernel
theorem dX1_wordsIn_9 : decode cX1_wordsIn 9 = .ok (.if_icmp .ge 29, 3) := by decide +kernel
theorem dX1_wordsIn_12 : decode cX1_wordsIn 12 = .ok (.iload_n 1, 1) := by decide +kernel
theorem dX1_wordsIn_13 : decode cX1_wordsIn 13 = .ok (.aload_n 0, 1) := by decide +kernel
theorem dX1_wordsIn_14 : decode cX1_wordsIn 14 = .ok (.getfield 11, 3) := by decide +kernel
theorem dX1_wordsIn_17 : decode cX1_wordsIn 17 = .ok (.iload_n 2, 1) := by decide +kernel
theorem dX1_wordsIn_18 : decode cX1_wordsIn 18 = .ok (.caload, 1) := by decide +kernel
theorem dX1_wordsIn_19 : decode cX1_wordsIn 19 = .ok (.invokestatic 29, 3) := by decide +kernel
theorem dX1_wordsIn_22 : decode cX1_wordsIn 22 = .ok (.ifCond .eq 7, 3) := by decide +kernel
theorem dX1_wordsIn_25 : decode cX1_wordsIn 25 = .ok (.iconst 1, 1) := by decide +kernel
theorem dX1_wordsIn_26 : decode cX1_wordsIn 26 = .ok (.goto 4, 3) := by decide +kernel
theorem dX1_wordsIn_29 : decode cX1_wordsIn 29 = .ok (.iconst 0, 1) := by decide +kernel
theorem dX1_wordsIn_30 : decode cX1_wordsIn 30 = .ok (.iadd, 1) := by decide +kernel
theorem dX1_wordsIn_31 : decode cX1_wordsIn 31 = .ok (.istore_n 1, 1) := by decide +kernel
theorem dX1_wordsIn_32 : decode cX1_wordsIn 32 = .ok (.iinc 2 1, 3) := by decide +kernel
theorem dX1_wordsIn_35 : decode cX1_wordsIn 35 = .ok (.goto (-31), 3) := by decide +kernel
theorem dX1_wordsIn_38 : decode cX1_wordsIn 38 = .ok (.iload_n 1, 1) := by decide +kernel
theorem dX1_wordsIn_39 : decode cX1_wordsIn 39 = .ok (.ireturn, 1) := by decide +kernel
set_option maxRecDepth 20000 in
theorem ggX1_writeTo_X2_addStory : GoodIn wsX1_writeTo wsX2_addStory := goodIn_r _ [7, 8, 9, 10, 11, 12, 36, 37, 38, 39, 40, 41, 42, 43, 44, 45, 46, 47] (by decide +kernel) (by decide +kernel)
set_option maxRecDepth 20000 in
theorem gX1_writeTo_X2_addStory : GoodIn wsX1_writeTo (wsV RX1 33 RX2 yX2_addStory wsX2_addStory) := goodIn_app (goodIn_of _ (by decide +kernel)) ggX1_writeTo_X2_addStory
set_option maxRecDepth 20000 in
theorem ggX1_writeTo_X1_isWord : GoodIn wsX1_writeTo wsX1_isWord := goodIn_r _ [16, 17, 18, 19] (by decide +kernel) (by decide +kernel)
set_option maxRecDepth 20000 in
theorem gX1_writeTo_X1_isWord : GoodIn wsX1_writeTo (va_wsS RX1 29 yX1_isWord wsX1_isWord) := goodIn_app (goodIn_of _ (by decide +kernel)) ggX1_writeTo_X1_isWord
set_option maxRecDepth 20000 in
theorem ggX1_writeTo_X2_addWord : GoodIn wsX1_writeTo wsX2_addWord := goodIn_r _ [23, 24, 25, 12, 9, 26, 27, 28, 6, 29, 36, 37, 38, 39, 40, 41, 42, 43, 44, 45, 46, 47] (by decide +kernel) (by decide +kernel)
set_option maxRecDepth 20000 in
theorem gX1_writeTo_X2_addWord : GoodIn wsX1_writeTo (wsV RX1 38 RX2 yX2_addWord wsX2_addWord) := goodIn_app (goodIn_of _ (by decide +kernel)) ggX1_writeTo_X2_addWord
set_option maxRecDepth 20000 in
theorem ggX1_writeTo_X2_addDigit : GoodIn wsX1_writeTo wsX2_addDigit := goodIn_r _ [33, 25, 26, 27, 28, 6, 29, 12, 9, 36, 37, 38, 39, 40, 41, 42, 43, 44, 45, 46, 47] (by decide +kernel) (by decide +kernel)
set_option maxRecDepth 20000 in
theorem gX1_writeTo_X2_addDigit : GoodIn wsX1_writeTo (wsV RX1 42 RX2 yX2_addDigit wsX2_addDigit) := goodIn_app (goodIn_of _ (by decide +kernel)) ggX1_writeTo_X2_addDigit
theorem dX1_writeTo_0 : decode cX1_writeTo 0 = .ok (.aload_n 1, 1) := by decide +kernel
theorem dX1_writeTo_1 : decode cX1_writeTo 1 = .ok (.invokevirtual 33, 3) := by decide +kernel
theorem dX1_writeTo_4 : decode cX1_writeTo 4 = .ok (.iconst 0, 1) := by decide +kernel
theorem dX1_writeTo_5 : decode cX1_writeTo 5 = .ok (.istore_n 2, 1) := by decide +kernel
theorem dX1_writeTo_6 : decode cX1_writeTo 6 = .ok (.iload_n 2, 1) := by decide +kernel
theorem dX1_writeTo_7 : decode cX1_writeTo 7 = .ok (.aload_n 0, 1) := by decide +kernel
theorem dX1_writeTo_8 : decode cX1_writeTo 8 = .ok (.getfield 21, 3) := by decide +kernel
theorem dX1_writeTo_11 : decode cX1_writeTo 11 = .ok (.if_icmp .ge 55, 3) := by decide +kernel
theorem dX1_writeTo_14 : decode cX1_writeTo 14 = .ok (.aload_n 0, 1) := by decide +kernel
theorem dX1_writeTo_15 : decode cX1_writeTo 15 = .ok (.getfield 11, 3) := by decide +kernel
theorem dX1_writeTo_18 : decode cX1_writeTo 18 = .ok (.iload_n 2, 1) := by decide +kernel
theorem dX1_writeTo_19 : decode cX1_writeTo 19 = .ok (.caload, 1) := by decide +kernel
theorem dX1_writeTo_20 : decode cX1_writeTo 20 = .ok (.istore_n 3, 1) := by decide +kernel
theorem dX1_writeTo_21 : decode cX1_writeTo 21 = .ok (.iload_n 3, 1) := by decide +kernel
theorem dX1_writeTo_22 : decode cX1_writeTo 22 = .ok (.bipush 47, 2) := by decide +kernel
theorem dX1_writeTo_24 : decode cX1_writeTo 24 = .ok (.if_icmp .ne 10, 3) := by decide +kernel
theorem dX1_writeTo_27 : decode cX1_writeTo 27 = .ok (.aload_n 1, 1) := by decide +kernel
theorem dX1_writeTo_28 : decode cX1_writeTo 28 = .ok (.invokevirtual 33, 3) := by decide +kernel
theorem dX1_writeTo_31 : decode cX1_writeTo 31 = .ok (.goto 29, 3) := by decide +kernel
theorem dX1_writeTo_34 : decode cX1_writeTo 34 = .ok (.iload_n 3, 1) := by decide +kernel
theorem dX1_writeTo_35 : decode cX1_writeTo 35 = .ok (.invokestatic 29, 3) := by decide +kernel
theorem dX1_writeTo_38 : decode cX1_writeTo 38 = .ok (.ifCond .eq 14, 3) := by decide +kernel
theorem dX1_writeTo_41 : decode cX1_writeTo 41 = .ok (.aload_n 1, 1) := by decide +kernel
theorem dX1_writeTo_42 : decode cX1_writeTo 42 = .ok (.iload_n 3, 1) := by decide +kernel
theorem dX1_writeTo_43 : decode cX1_writeTo 43 = .ok (.bipush 97, 2) := by decide +kernel
theorem dX1_writeTo_45 : decode cX1_writeTo 45 = .ok (.isub, 1) := by decide +kernel
theorem dX1_writeTo_46 : decode cX1_writeTo 46 = .ok (.invokevirtual 38, 3) := by decide +kernel
theorem dX1_writeTo_49 : decode cX1_writeTo 49 = .ok (.goto 11, 3) := by decide +kernel
theorem dX1_writeTo_52 : decode cX1_writeTo 52 = .ok (.aload_n 1, 1) := by decide +kernel
theorem dX1_writeTo_53 : decode cX1_writeTo 53 = .ok (.iload_n 3, 1) := by decide +kernel
theorem dX1_writeTo_54 : decode cX1_writeTo 54 = .ok (.bipush 48, 2) := by decide +kernel
theorem dX1_writeTo_56 : decode cX1_writeTo 56 = .ok (.isub, 1) := by decide +kernel
theorem dX1_writeTo_57 : decode cX1_writeTo 57 = .ok (.invokevirtual 42, 3) := by decide +kernel
theorem dX1_writeTo_60 : decode cX1_writeTo 60 = .ok (.iinc 2 1, 3) := by decide +kernel
theorem dX1_writeTo_63 : decode cX1_writeTo 63 = .ok (.goto (-57), 3) := by decide +kernel
theorem dX1_writeTo_66 : decode cX1_writeTo 66 = .ok (.return_, 1) := by decide +kernel
theorem dX2_init_0 : decode cX2_init 0 = .ok (.aload_n 0, 1) := by decide +kernel
theorem dX2_init_1 : decode cX2_init 1 = .ok (.invokespecial 3, 3) := by decide +kernel
theorem dX2_init_4 : decode cX2_init 4 = .ok (.aload_n 0, 1) := by decide +kernel
theorem dX2_init_5 : decode cX2_init 5 = .ok (.iconst 3, 1) := by decide +kernel
theorem dX2_init_6 : decode cX2_init 6 = .ok (.newarray .int, 2) := by decide +kernel
theorem dX2_init_8 : decode cX2_init 8 = .ok (.dup, 1) := by decide +kernel
theorem dX2_init_9 : decode cX2_init 9 = .ok (.iconst 0, 1) := by decide +kernel
theorem dX2_init_10 : decode cX2_init 10 = .ok (.bipush 20, 2) := by decide +kernel
theorem dX2_init_12 : decode cX2_init 12 = .ok (.iastore, 1) := by decide +kernel
theorem dX2_init_13 : decode cX2_init 13 = .ok (.dup, 1) := by decide +kernel
theorem dX2_init_14 : decode cX2_init 14 = .ok (.iconst 1, 1) := by decide +kernel
theorem dX2_init_15 : decode cX2_init 15 = .ok (.iconst 3, 1) := by decide +kernel
theorem dX2_init_16 : decode cX2_init 16 = .ok (.iastore, 1) := by decide +kernel
theorem dX2_init_17 : decode cX2_init 17 = .ok (.dup, 1) := by decide +kernel
theorem dX2_init_18 : decode cX2_init 18 = .ok (.iconst 2, 1) := by decide +kernel
theorem dX2_init_19 : decode cX2_init 19 = .ok (.iconst 2, 1) := by decide +kernel
theorem dX2_init_20 : decode cX2_init 20 = .ok (.iastore, 1) := by decide +kernel
theorem dX2_init_21 : decode cX2_init 21 = .ok (.putfield 9, 3) := by decide +kernel
theorem dX2_init_24 : decode cX2_init 24 = .ok (.aload_n 0, 1) := by decide +kernel
theorem dX2_init_25 : decode cX2_init 25 = .ok (.sipush 150, 3) := by decide +kernel
theorem dX2_init_28 : decode cX2_init 28 = .ok (.newarray .int, 2) := by decide +kernel
theorem dX2_init_30 : decode cX2_init 30 = .ok (.putfield 15, 3) := by decide +kernel
theorem dX2_init_33 : decode cX2_init 33 = .ok (.aload_n 0, 1) := by decide +kernel
theorem dX2_init_34 : decode cX2_init 34 = .ok (.sipush 150, 3) := by decide +kernel
theorem dX2_init_37 : decode cX2_init 37 = .ok (.newarray .int, 2) := by decide +kernel
theorem dX2_init_39 : decode cX2_init 39 = .ok (.putfield 18, 3) := by decide +kernel
theorem dX2_init_42 : decode cX2_init 42 = .ok (.aload_n 0, 1) := by decide +kernel
theorem dX2_init_43 : decode cX2_init 43 = .ok (.bipush 13, 2) := by decide +kernel
theorem dX2_init_45 : decode cX2_init 45 = .ok (.newarray .int, 2) := by decide +kernel
theorem dX2_init_47 : decode cX2_init 47 = .ok (.putfield 21, 3) := by decide +kernel
theorem dX2_init_50 : decode cX2_init 50 = .ok (.aload_n 0, 1) := by decide +kernel
theorem dX2_init_51 : decode cX2_init 51 = .ok (.bipush 12, 2) := by decide +kernel
theorem dX2_init_53 : decode cX2_init 53 = .ok (.newarray .int, 2) := by decide +kernel
theorem dX2_init_55 : decode cX2_init 55 = .ok (.putfield 24, 3) := by decide +kernel
theorem dX2_init_58 : decode cX2_init 58 = .ok (.aload_n 0, 1) := by decide +kernel
theorem dX2_init_59 : decode cX2_init 59 = .ok (.bipush 12, 2) := by decide +kernel
theorem dX2_init_61 : decode cX2_init 61 = .ok (.newarray .int, 2) := by decide +kernel
theorem dX2_init_63 : decode cX2_init 63 = .ok (.putfield 27, 3) := by decide +kernel
theorem dX2_init_66 : decode cX2_init 66 = .ok (.aload_n 0, 1) := by decide +kernel
theorem dX2_init_67 : decode cX2_init 67 = .ok (.bipush 26, 2) := by decide +kernel
theorem dX2_init_69 : decode cX2_init 69 = .ok (.newarray .int, 2) := by decide +kernel
theorem dX2_init_71 : decode cX2_init 71 = .ok (.putfield 30, 3) := by decide +kernel
theorem dX2_init_74 : decode cX2_init 74 = .ok (.return_, 1) := by decide +kernel
set_option maxRecDepth 20000 in
theorem ggX2_copyFrom_X2_words : GoodIn wsX2_copyFrom wsX2_words := goodIn_r _ [20, 8, 9, 21, 22, 23, 24, 25, 26, 27, 28, 29, 30, 31, 32] (by decide +kernel) (by decide +kernel)
set_option maxRecDepth 20000 in
theorem gX2_copyFrom_X2_words : GoodIn wsX2_copyFrom (wsV RX2 33 RX2 yX2_words wsX2_words) := goodIn_app (goodIn_of _ (by decide +kernel)) ggX2_copyFrom_X2_words
theorem dX2_copyFrom_0 : decode cX2_copyFrom 0 = .ok (.aload_n 1, 1) := by decide +kernel
theorem dX2_copyFrom_1 : decode cX2_copyFrom 1 = .ok (.invokevirtual 33, 3) := by decide +kernel
theorem dX2_copyFrom_4 : decode cX2_copyFrom 4 = .ok (.istore_n 2, 1) := by decide +kernel
theorem dX2_copyFrom_5 : decode cX2_copyFrom 5 = .ok (.aload_n 1, 1) := by decide +kernel
theorem dX2_copyFrom_6 : decode cX2_copyFrom 6 = .ok (.getfield 9, 3) := by decide +kernel
theorem dX2_copyFrom_9 : decode cX2_copyFrom 9 = .ok (.iconst 0, 1) := by decide +kernel
theorem dX2_copyFrom_10 : decode cX2_copyFrom 10 = .ok (.aload_n 0, 1) := by decide +kernel
theorem dX2_copyFrom_11 : decode cX2_copyFrom 11 = .ok (.getfield 9, 3) := by decide +kernel
theorem dX2_copyFrom_14 : decode cX2_copyFrom 14 = .ok (.iconst 0, 1) := by decide +kernel
theorem dX2_copyFrom_15 : decode cX2_copyFrom 15 = .ok (.iconst 3, 1) := by decide +kernel
theorem dX2_copyFrom_16 : decode cX2_copyFrom 16 = .ok (.invokestatic 37, 3) := by decide +kernel
theorem dX2_copyFrom_19 : decode cX2_copyFrom 19 = .ok (.aload_n 1, 1) := by decide +kernel
theorem dX2_copyFrom_20 : decode cX2_copyFrom 20 = .ok (.getfield 15, 3) := by decide +kernel
theorem dX2_copyFrom_23 : decode cX2_copyFrom 23 = .ok (.iconst 0, 1) := by decide +kernel
theorem dX2_copyFrom_24 : decode cX2_copyFrom 24 = .ok (.aload_n 0, 1) := by decide +kernel
theorem dX2_copyFrom_25 : decode cX2_copyFrom 25 = .ok (.getfield 15, 3) := by decide +kernel
theorem dX2_copyFrom_28 : decode cX2_copyFrom 28 = .ok (.iconst 0, 1) := by decide +kernel
theorem dX2_copyFrom_29 : decode cX2_copyFrom 29 = .ok (.iload_n 2, 1) := by decide +kernel
theorem dX2_copyFrom_30 : decode cX2_copyFrom 30 = .ok (.invokestatic 37, 3) := by decide +kernel
theorem dX2_copyFrom_33 : decode cX2_copyFrom 33 = .ok (.aload_n 1, 1) := by decide +kernel
theorem dX2_copyFrom_34 : decode cX2_copyFrom 34 = .ok (.getfield 18, 3) := by decide +kernel
theorem dX2_copyFrom_37 : decode cX2_copyFrom 37 = .ok (.iconst 0, 1) := by decide +kernel
theorem dX2_copyFrom_38 : decode cX2_copyFrom 38 = .ok (.aload_n 0, 1) := by decide +kernel
theorem dX2_copyFrom_39 : decode cX2_copyFrom 39 = .ok (.getfield 18, 3) := by decide +kernel
theorem dX2_copyFrom_42 : decode cX2_copyFrom 42 = .ok (.iconst 0, 1) := by decide +kernel
theorem dX2_copyFrom_43 : decode cX2_copyFrom 43 = .ok (.iload_n 2, 1) := by decide +kernel
theorem dX2_copyFrom_44 : decode cX2_copyFrom 44 = .ok (.invokestatic 37, 3) := by decide +kernel
theorem dX2_copyFrom_47 : decode cX2_copyFrom 47 = .ok (.aload_n 1, 1) := by decide +kernel
theorem dX2_copyFrom_48 : decode cX2_copyFrom 48 = .ok (.getfield 21, 3) := by decide +kernel
theorem dX2_copyFrom_51 : decode cX2_copyFrom 51 = .ok (.iconst 0, 1) := by decide +kernel
theorem dX2_copyFrom_52 : decode cX2_copyFrom 52 = .ok (.aload_n 0, 1) := by decide +kernel
theorem dX2_copyFrom_53 : decode cX2_copyFrom 53 = .ok (.getfield 21, 3) := by decide +kernel
theorem dX2_copyFrom_56 : decode cX2_copyFrom 56 = .ok (.iconst 0, 1) := by decide +kernel
theorem dX2_copyFrom_57 : decode cX2_copyFrom 57 = .ok (.aload_n 1, 1) := by decide +kernel
theorem dX2_copyFrom_58 : decode cX2_copyFrom 58 = .ok (.getfield 43, 3) := by decide +kernel
theorem dX2_copyFrom_61 : decode cX2_copyFrom 61 = .ok (.iconst 1, 1) := by decide +kernel
theorem dX2_copyFrom_62 : decode cX2_copyFrom 62 = .ok (.iadd, 1) := by decide +kernel
theorem dX2_copyFrom_63 : decode cX2_copyFrom 63 = .ok (.invokestatic 37, 3) := by decide +kernel
theorem dX2_copyFrom_66 : decode cX2_copyFrom 66 = .ok (.aload_n 1, 1) := by decide +kernel
theorem dX2_copyFrom_67 : decode cX2_copyFrom 67 = .ok (.getfield 24, 3) := by decide +kernel
theorem dX2_copyFrom_70 : decode cX2_copyFrom 70 = .ok (.iconst 0, 1) := by decide +kernel
theorem dX2_copyFrom_71 : decode cX2_copyFrom 71 = .ok (.aload_n 0, 1) := by decide +kernel
theorem dX2_copyFrom_72 : decode cX2_copyFrom 72 = .ok (.getfield 24, 3) := by decide +kernel
theorem dX2_copyFrom_75 : decode cX2_copyFrom 75 = .ok (.iconst 0, 1) := by decide +kernel
theorem dX2_copyFrom_76 : decode cX2_copyFrom 76 = .ok (.aload_n 1, 1) := by decide +kernel
theorem dX2_copyFrom_77 : decode cX2_copyFrom 77 = .ok (.getfield 43, 3) := by decide +kernel
theorem dX2_copyFrom_80 : decode cX2_copyFrom 80 = .ok (.invokestatic 37, 3) := by decide +kernel
theorem dX2_copyFrom_83 : decode cX2_copyFrom 83 = .ok (.aload_n 1, 1) := by decide +kernel
theorem dX2_copyFrom_84 : decode cX2_copyFrom 84 = .ok (.getfield 27, 3) := by decide +kernel
theorem dX2_copyFrom_87 : decode cX2_copyFrom 87 = .ok (.iconst 0, 1) := by decide +kernel
theorem dX2_copyFrom_88 : decode cX2_copyFrom 88 = .ok (.aload_n 0, 1) := by decide +kernel
theorem dX2_copyFrom_89 : decode cX2_copyFrom 89 = .ok (.getfield 27, 3) := by decide +kernel
theorem dX2_copyFrom_92 : decode cX2_copyFrom 92 = .ok (.iconst 0, 1) := by decide +kernel
theorem dX2_copyFrom_93 : decode cX2_copyFrom 93 = .ok (.aload_n 1, 1) := by decide +kernel
theorem dX2_copyFrom_94 : decode cX2_copyFrom 94 = .ok (.getfield 43, 3) := by decide +kernel
theorem dX2_copyFrom_97 : decode cX2_copyFrom 97 = .ok (.invokestatic 37, 3) := by decide +kernel
theorem dX2_copyFrom_100 : decode cX2_copyFrom 100 = .ok (.aload_n 0, 1) := by decide +kernel
theorem dX2_copyFrom_101 : decode cX2_copyFrom 101 = .ok (.aload_n 1, 1) := by decide +kernel
theorem dX2_copyFrom_102 : decode cX2_copyFrom 102 = .ok (.getfield 43, 3) := by decide +kernel
theorem dX2_copyFrom_105 : decode cX2_copyFrom 105 = .ok (.putfield 43, 3) := by decide +kernel
theorem dX2_copyFrom_108 : decode cX2_copyFrom 108 = .ok (.aload_n 0, 1) := by decide +kernel
theorem dX2_copyFrom_109 : decode cX2_copyFrom 109 = .ok (.aload_n 1, 1) := by decide +kernel
theorem dX2_copyFrom_110 : decode cX2_copyFrom 110 = .ok (.getfield 47, 3) := by decide +kernel
theorem dX2_copyFrom_113 : decode cX2_copyFrom 113 = .ok (.putfield 47, 3) := by decide +kernel
theorem dX2_copyFrom_116 : decode cX2_copyFrom 116 = .ok (.aload_n 0, 1) := by decide +kernel
theorem dX2_copyFrom_117 : decode cX2_copyFrom 117 = .ok (.aload_n 1, 1) := by decide +kernel
theorem dX2_copyFrom_118 : decode cX2_copyFrom 118 = .ok (.getfield 50, 3) := by decide +kernel
theorem dX2_copyFrom_121 : decode cX2_copyFrom 121 = .ok (.putfield 50, 3) := by decide +kernel
theorem dX2_copyFrom_124 : decode cX2_copyFrom 124 = .ok (.aload_n 0, 1) := by decide +kernel
theorem dX2_copyFrom_125 : decode cX2_copyFrom 125 = .ok (.aload_n 1, 1) := by decide +kernel
theorem dX2_copyFrom_126 : decode cX2_copyFrom 126 = .ok (.getfield 53, 3) := by decide +kernel
theorem dX2_copyFrom_129 : decode cX2_copyFrom 129 = .ok (.putfield 53, 3) := by decide +kernel
theorem dX2_copyFrom_132 : decode cX2_copyFrom 132 = .ok (.aload_n 0, 1) := by decide +kernel
theorem dX2_copyFrom_133 : decode cX2_copyFrom 133 = .ok (.aload_n 1, 1) := by decide +kernel
theorem dX2_copyFrom_134 : decode cX2_copyFrom 134 = .ok (.getfield 56, 3) := by decide +kernel
theorem dX2_copyFrom_137 : decode cX2_copyFrom 137 = .ok (.putfield 56, 3) := by decide +kernel
theorem dX2_copyFrom_140 : decode cX2_copyFrom 140 = .ok (.return_, 1) := by decide +kernel
theorem dX2_words_0 : decode cX2_words 0 = .ok (.aload_n 0, 1) := by decide +kernel
theorem dX2_words_1 : decode cX2_words 1 = .ok (.getfield 21, 3) := by decide +kernel
theorem dX2_words_4 : decode cX2_words 4 = .ok (.aload_n 0, 1) := by decide +kernel
theorem dX2_words_5 : decode cX2_words 5 = .ok (.getfield 43, 3) := by decide +kernel
theorem dX2_words_8 : decode cX2_words 8 = .ok (.iaload, 1) := by decide +kernel
theorem dX2_words_9 : decode cX2_words 9 = .ok (.ireturn, 1) := by decide +kernel
set_option maxRecDepth 20000 in
theorem ggX2_hasStory_X3_isWithin : GoodIn wsX2_hasStory wsX3_isWithin := goodIn_r _ [4] (by decide +kernel) (by decide +kernel)
set_option maxRecDepth 20000 in
theorem gX2_hasStory_X3_isWithin_n59 : GoodIn wsX2_hasStory (wsX3_isWithin) := ggX2_hasStory_X3_isWithin
theorem dX2_hasStory_0 : decode cX2_hasStory 0 = .ok (.iload_n 1, 1) := by decide +kernel
theorem dX2_hasStory_1 : decode cX2_hasStory 1 = .ok (.iconst 0, 1) := by decide +kernel
theorem dX2_hasStory_2 : decode cX2_hasStory 2 = .ok (.aload_n 0, 1) := by decide +kernel
theorem dX2_hasStory_3 : decode cX2_hasStory 3 = .ok (.getfield 43, 3) := by decide +kernel
theorem dX2_hasStory_6 : decode cX2_hasStory 6 = .ok (.iconst 1, 1) := by decide +kernel
theorem dX2_hasStory_7 : decode cX2_hasStory 7 = .ok (.isub, 1) := by decide +kernel
theorem dX2_hasStory_8 : decode cX2_hasStory 8 = .ok (.invokestatic 59, 3) := by decide +kernel
theorem dX2_hasStory_11 : decode cX2_hasStory 11 = .ok (.ireturn, 1) := by decide +kernel
set_option maxRecDepth 20000 in
theorem ggX2_hasWord_X2_hasStory : GoodIn wsX2_hasWord wsX2_hasStory := goodIn_r _ [5, 6, 7, 8, 9, 15, 16, 17, 18, 19, 20, 21, 22, 23, 24, 25, 26] (by decide +kernel) (by decide +kernel)
set_option maxRecDepth 20000 in
theorem gX2_hasWord_X2_hasStory : GoodIn wsX2_hasWord (wsV RX2 63 RX2 yX2_hasStory wsX2_hasStory) := goodIn_app (goodIn_of _ (by decide +kernel)) ggX2_hasWord_X2_hasStory
set_option maxRecDepth 20000 in
theorem ggX2_hasWord_X2_sizeOf : GoodIn wsX2_hasWord wsX2_sizeOf := goodIn_r _ [13, 14, 15, 16, 17, 18, 19, 20, 21, 22, 23, 24, 25, 26] (by decide +kernel) (by decide +kernel)
set_option maxRecDepth 20000 in
theorem gX2_hasWord_X2_sizeOf : GoodIn wsX2_hasWord (wsV RX2 67 RX2 yX2_sizeOf wsX2_sizeOf) := goodIn_app (goodIn_of _ (by decide +kernel)) ggX2_hasWord_X2_sizeOf
set_option maxRecDepth 20000 in
theorem ggX2_hasWord_X3_isWithin : GoodIn wsX2_hasWord wsX3_isWithin := goodIn_r _ [9] (by decide +kernel) (by decide +kernel)
set_option maxRecDepth 20000 in
theorem gX2_hasWord_X3_isWithin_n59 : GoodIn wsX2_hasWord (wsX3_isWithin) := ggX2_hasWord_X3_isWithin
theorem dX2_hasWord_0 : decode cX2_hasWord 0 = .ok (.aload_n 0, 1) := by decide +kernel
theorem dX2_hasWord_1 : decode cX2_hasWord 1 = .ok (.iload_n 1, 1) := by decide +kernel
theorem dX2_hasWord_2 : decode cX2_hasWord 2 = .ok (.invokevirtual 63, 3) := by decide +kernel
theorem dX2_hasWord_5 : decode cX2_hasWord 5 = .ok (.ifCond .eq 22, 3) := by decide +kernel
theorem dX2_hasWord_8 : decode cX2_hasWord 8 = .ok (.iload_n 2, 1) := by decide +kernel
theorem dX2_hasWord_9 : decode cX2_hasWord 9 = .ok (.iconst 0, 1) := by decide +kernel
theorem dX2_hasWord_10 : decode cX2_hasWord 10 = .ok (.aload_n 0, 1) := by decide +kernel
theorem dX2_hasWord_11 : decode cX2_hasWord 11 = .ok (.iload_n 1, 1) := by decide +kernel
theorem dX2_hasWord_12 : decode cX2_hasWord 12 = .ok (.invokevirtual 67, 3) := by decide +kernel
theorem dX2_hasWord_15 : decode cX2_hasWord 15 = .ok (.iconst 1, 1) := by decide +kernel
theorem dX2_hasWord_16 : decode cX2_hasWord 16 = .ok (.isub, 1) := by decide +kernel
theorem dX2_hasWord_17 : decode cX2_hasWord 17 = .ok (.invokestatic 59, 3) := by decide +kernel
theorem dX2_hasWord_20 : decode cX2_hasWord 20 = .ok (.ifCond .eq 7, 3) := by decide +kernel
theorem dX2_hasWord_23 : decode cX2_hasWord 23 = .ok (.iconst 1, 1) := by decide +kernel
theorem dX2_hasWord_24 : decode cX2_hasWord 24 = .ok (.goto 4, 3) := by decide +kernel
theorem dX2_hasWord_27 : decode cX2_hasWord 27 = .ok (.iconst 0, 1) := by decide +kernel
theorem dX2_hasWord_28 : decode cX2_hasWord 28 = .ok (.ireturn, 1) := by decide +kernel
theorem dX2_sizeOf_0 : decode cX2_sizeOf 0 = .ok (.aload_n 0, 1) := by decide +kernel
theorem dX2_sizeOf_1 : decode cX2_sizeOf 1 = .ok (.getfield 21, 3) := by decide +kernel
theorem dX2_sizeOf_4 : decode cX2_sizeOf 4 = .ok (.iload_n 1, 1) := by decide +kernel
theorem dX2_sizeOf_5 : decode cX2_sizeOf 5 = .ok (.iconst 1, 1) := by decide +kernel
theorem dX2_sizeOf_6 : decode cX2_sizeOf 6 = .ok (.iadd, 1) := by decide +kernel
theorem dX2_sizeOf_7 : decode cX2_sizeOf 7 = .ok (.iaload, 1) := by decide +kernel
theorem dX2_sizeOf_8 : decode cX2_sizeOf 8 = .ok (.aload_n 0, 1) := by decide +kernel
theorem dX2_sizeOf_9 : decode cX2_sizeOf 9 = .ok (.getfield 21, 3) := by decide +kernel
theorem dX2_sizeOf_12 : decode cX2_sizeOf 12 = .ok (.iload_n 1, 1) := by decide +kernel
theorem dX2_sizeOf_13 : decode cX2_sizeOf 13 = .ok (.iaload, 1) := by decide +kernel
theorem dX2_sizeOf_14 : decode cX2_sizeOf 14 = .ok (.isub, 1) := by decide +kernel
theorem dX2_sizeOf_15 : decode cX2_sizeOf 15 = .ok (.ireturn, 1) := by decide +kernel
theorem dX2_storyAt_0 : decode cX2_storyAt 0 = .ok (.iconst 0, 1) := by decide +kernel
theorem dX2_storyAt_1 : decode cX2_storyAt 1 = .ok (.istore_n 2, 1) := by decide +kernel
theorem dX2_storyAt_2 : decode cX2_storyAt 2 = .ok (.iload_n 2, 1) := by decide +kernel
theorem dX2_storyAt_3 : decode cX2_storyAt 3 = .ok (.iconst 1, 1) := by decide +kernel
theorem dX2_storyAt_4 : decode cX2_storyAt 4 = .ok (.iadd, 1) := by decide +kernel
theorem dX2_storyAt_5 : decode cX2_storyAt 5 = .ok (.aload_n 0, 1) := by decide +kernel
theorem dX2_storyAt_6 : decode cX2_storyAt 6 = .ok (.getfield 43, 3) := by decide +kernel
theorem dX2_storyAt_9 : decode cX2_storyAt 9 = .ok (.if_icmp .ge 21, 3) := by decide +kernel
theorem dX2_storyAt_12 : decode cX2_storyAt 12 = .ok (.aload_n 0, 1) := by decide +kernel
theorem dX2_storyAt_13 : decode cX2_storyAt 13 = .ok (.getfield 21, 3) := by decide +kernel
theorem dX2_storyAt_16 : decode cX2_storyAt 16 = .ok (.iload_n 2, 1) := by decide +kernel
theorem dX2_storyAt_17 : decode cX2_storyAt 17 = .ok (.iconst 1, 1) := by decide +kernel
theorem dX2_storyAt_18 : decode cX2_storyAt 18 = .ok (.iadd, 1) := by decide +kernel
theorem dX2_storyAt_19 : decode cX2_storyAt 19 = .ok (.iaload, 1) := by decide +kernel
theorem dX2_storyAt_20 : decode cX2_storyAt 20 = .ok (.iload_n 1, 1) := by decide +kernel
theorem dX2_storyAt_21 : decode cX2_storyAt 21 = .ok (.if_icmp .gt 9, 3) := by decide +kernel
theorem dX2_storyAt_24 : decode cX2_storyAt 24 = .ok (.iinc 2 1, 3) := by decide +kernel
theorem dX2_storyAt_27 : decode cX2_storyAt 27 = .ok (.goto (-25), 3) := by decide +kernel
theorem dX2_storyAt_30 : decode cX2_storyAt 30 = .ok (.iload_n 2, 1) := by decide +kernel
theorem dX2_storyAt_31 : decode cX2_storyAt 31 = .ok (.ireturn, 1) := by decide +kernel
set_option maxRecDepth 20000 in
theorem ggX2_placeOf_X2_storyAt : GoodIn wsX2_placeOf wsX2_storyAt := goodIn_r _ [6, 7, 1, 8, 9, 10, 11, 12, 13, 14, 15, 16, 17, 18, 19] (by decide +kernel) (by decide +kernel)
set_option maxRecDepth 20000 in
theorem gX2_placeOf_X2_storyAt : GoodIn wsX2_placeOf (wsV RX2 71 RX2 yX2_storyAt wsX2_storyAt) := goodIn_app (goodIn_of _ (by decide +kernel)) ggX2_placeOf_X2_storyAt
theorem dX2_placeOf_0 : decode cX2_placeOf 0 = .ok (.iload_n 1, 1) := by decide +kernel
theorem dX2_placeOf_1 : decode cX2_placeOf 1 = .ok (.aload_n 0, 1) := by decide +kernel
theorem dX2_placeOf_2 : decode cX2_placeOf 2 = .ok (.getfield 21, 3) := by decide +kernel
theorem dX2_placeOf_5 : decode cX2_placeOf 5 = .ok (.aload_n 0, 1) := by decide +kernel
theorem dX2_placeOf_6 : decode cX2_placeOf 6 = .ok (.iload_n 1, 1) := by decide +kernel
theorem dX2_placeOf_7 : decode cX2_placeOf 7 = .ok (.invokevirtual 71, 3) := by decide +kernel
theorem dX2_placeOf_10 : decode cX2_placeOf 10 = .ok (.iaload, 1) := by decide +kernel
theorem dX2_placeOf_11 : decode cX2_placeOf 11 = .ok (.isub, 1) := by decide +kernel
theorem dX2_placeOf_12 : decode cX2_placeOf 12 = .ok (.ireturn, 1) := by decide +kernel
theorem dX2_addStory_0 : decode cX2_addStory 0 = .ok (.aload_n 0, 1) := by decide +kernel
theorem dX2_addStory_1 : decode cX2_addStory 1 = .ok (.getfield 24, 3) := by decide +kernel
theorem dX2_addStory_4 : decode cX2_addStory 4 = .ok (.aload_n 0, 1) := by decide +kernel
theorem dX2_addStory_5 : decode cX2_addStory 5 = .ok (.getfield 43, 3) := by decide +kernel
theorem dX2_addStory_8 : decode cX2_addStory 8 = .ok (.aload_n 0, 1) := by decide +kernel
theorem dX2_addStory_9 : decode cX2_addStory 9 = .ok (.getfield 47, 3) := by decide +kernel
theorem dX2_addStory_12 : decode cX2_addStory 12 = .ok (.iastore, 1) := by decide +kernel
theorem dX2_addStory_13 : decode cX2_addStory 13 = .ok (.aload_n 0, 1) := by decide +kernel
theorem dX2_addStory_14 : decode cX2_addStory 14 = .ok (.getfield 27, 3) := by decide +kernel
theorem dX2_addStory_17 : decode cX2_addStory 17 = .ok (.aload_n 0, 1) := by decide +kernel
theorem dX2_addStory_18 : decode cX2_addStory 18 = .ok (.getfield 43, 3) := by decide +kernel
theorem dX2_addStory_21 : decode cX2_addStory 21 = .ok (.iconst 0, 1) := by decide +kernel
theorem dX2_addStory_22 : decode cX2_addStory 22 = .ok (.iastore, 1) := by decide +kernel
theorem dX2_addStory_23 : decode cX2_addStory 23 = .ok (.aload_n 0, 1) := by decide +kernel
theorem dX2_addStory_24 : decode cX2_addStory 24 = .ok (.getfield 21, 3) := by decide +kernel
theorem dX2_addStory_27 : decode cX2_addStory 27 = .ok (.aload_n 0, 1) := by decide +kernel
theorem dX2_addStory_28 : decode cX2_addStory 28 = .ok (.getfield 43, 3) := by decide +kernel
theorem dX2_addStory_31 : decode cX2_addStory 31 = .ok (.iconst 1, 1) := by decide +kernel
theorem dX2_addStory_32 : decode cX2_addStory 32 = .ok (.iadd, 1) := by decide +kernel
theorem dX2_addStory_33 : decode cX2_addStory 33 = .ok (.aload_n 0, 1) := by decide +kernel
theorem dX2_addStory_34 : decode cX2_addStory 34 = .ok (.getfield 21, 3) := by decide +kernel
theorem dX2_addStory_37 : decode cX2_addStory 37 = .ok (.aload_n 0, 1) := by decide +kernel
theorem dX2_addStory_38 : decode cX2_addStory 38 = .ok (.getfield 43, 3) := by decide +kernel
theorem dX2_addStory_41 : decode cX2_addStory 41 = .ok (.iaload, 1) := by decide +kernel
theorem dX2_addStory_42 : decode cX2_addStory 42 = .ok (.iastore, 1) := by decide +kernel
theorem dX2_addStory_43 : decode cX2_addStory 43 = .ok (.aload_n 0, 1) := by decide +kernel
theorem dX2_addStory_44 : decode cX2_addStory 44 = .ok (.dup, 1) := by decide +kernel
theorem dX2_addStory_45 : decode cX2_addStory 45 = .ok (.getfield 47, 3) := by decide +kernel
theorem dX2_addStory_48 : decode cX2_addStory 48 = .ok (.iconst 1, 1) := by decide +kernel
theorem dX2_addStory_49 : decode cX2_addStory 49 = .ok (.iadd, 1) := by decide +kernel
theorem dX2_addStory_50 : decode cX2_addStory 50 = .ok (.putfield 47, 3) := by decide +kernel
theorem dX2_addStory_53 : decode cX2_addStory 53 = .ok (.aload_n 0, 1) := by decide +kernel
theorem dX2_addStory_54 : decode cX2_addStory 54 = .ok (.dup, 1) := by decide +kernel
theorem dX2_addStory_55 : decode cX2_addStory 55 = .ok (.getfield 43, 3) := by decide +kernel
theorem dX2_addStory_58 : decode cX2_addStory 58 = .ok (.iconst 1, 1) := by decide +kernel
theorem dX2_addStory_59 : decode cX2_addStory 59 = .ok (.iadd, 1) := by decide +kernel
theorem dX2_addStory_60 : decode cX2_addStory 60 = .ok (.putfield 43, 3) := by decide +kernel
theorem dX2_addStory_63 : decode cX2_addStory 63 = .ok (.return_, 1) := by decide +kernel
set_option maxRecDepth 20000 in
theorem ggX2_addWord_X2_words : GoodIn wsX2_addWord wsX2_words := goodIn_r _ [9, 3, 4, 10, 11, 12, 13, 14, 15, 16, 17, 18, 19, 20, 21] (by decide +kernel) (by decide +kernel)
set_option maxRecDepth 20000 in
theorem gX2_addWord_X2_words : GoodIn wsX2_addWord (wsV RX2 33 RX2 yX2_words wsX2_words) := goodIn_app (goodIn_of _ (by decide +kernel)) ggX2_addWord_X2_words
theorem dX2_addWord_0 : decode cX2_addWord 0 = .ok (.aload_n 0, 1) := by decide +kernel
theorem dX2_addWord_1 : decode cX2_addWord 1 = .ok (.invokevirtual 33, 3) := by decide +kernel
theorem dX2_addWord_4 : decode cX2_addWord 4 = .ok (.istore_n 2, 1) := by decide +kernel
theorem dX2_addWord_5 : decode cX2_addWord 5 = .ok (.aload_n 0, 1) := by decide +kernel
theorem dX2_addWord_6 : decode cX2_addWord 6 = .ok (.getfield 15, 3) := by decide +kernel
theorem dX2_addWord_9 : decode cX2_addWord 9 = .ok (.iload_n 2, 1) := by decide +kernel
theorem dX2_addWord_10 : decode cX2_addWord 10 = .ok (.iload_n 1, 1) := by decide +kernel
theorem dX2_addWord_11 : decode cX2_addWord 11 = .ok (.iastore, 1) := by decide +kernel
theorem dX2_addWord_12 : decode cX2_addWord 12 = .ok (.aload_n 0, 1) := by decide +kernel
theorem dX2_addWord_13 : decode cX2_addWord 13 = .ok (.getfield 18, 3) := by decide +kernel
theorem dX2_addWord_16 : decode cX2_addWord 16 = .ok (.iload_n 2, 1) := by decide +kernel
theorem dX2_addWord_17 : decode cX2_addWord 17 = .ok (.iconst 0, 1) := by decide +kernel
theorem dX2_addWord_18 : decode cX2_addWord 18 = .ok (.iastore, 1) := by decide +kernel
theorem dX2_addWord_19 : decode cX2_addWord 19 = .ok (.aload_n 0, 1) := by decide +kernel
theorem dX2_addWord_20 : decode cX2_addWord 20 = .ok (.getfield 21, 3) := by decide +kernel
theorem dX2_addWord_23 : decode cX2_addWord 23 = .ok (.aload_n 0, 1) := by decide +kernel
theorem dX2_addWord_24 : decode cX2_addWord 24 = .ok (.getfield 43, 3) := by decide +kernel
theorem dX2_addWord_27 : decode cX2_addWord 27 = .ok (.iload_n 2, 1) := by decide +kernel
theorem dX2_addWord_28 : decode cX2_addWord 28 = .ok (.iconst 1, 1) := by decide +kernel
theorem dX2_addWord_29 : decode cX2_addWord 29 = .ok (.iadd, 1) := by decide +kernel
theorem dX2_addWord_30 : decode cX2_addWord 30 = .ok (.iastore, 1) := by decide +kernel
theorem dX2_addWord_31 : decode cX2_addWord 31 = .ok (.return_, 1) := by decide +kernel
set_option maxRecDepth 20000 in
theorem ggX2_addDigit_X2_words : GoodIn wsX2_addDigit wsX2_words := goodIn_r _ [6, 7, 8, 9, 10, 11, 12, 13, 14, 15, 16, 17, 18, 19, 20] (by decide +kernel) (by decide +kernel)
set_option maxRecDepth 20000 in
theorem gX2_addDigit_X2_words : GoodIn wsX2_addDigit (wsV RX2 33 RX2 yX2_words wsX2_words) := goodIn_app (goodIn_of _ (by decide +kernel)) ggX2_addDigit_X2_words
theorem dX2_addDigit_0 : decode cX2_addDigit 0 = .ok (.aload_n 0, 1) := by decide +kernel
theorem dX2_addDigit_1 : decode cX2_addDigit 1 = .ok (.invokevirtual 33, 3) := by decide +kernel
theorem dX2_addDigit_4 : decode cX2_addDigit 4 = .ok (.iconst 1, 1) := by decide +kernel
theorem dX2_addDigit_5 : decode cX2_addDigit 5 = .ok (.isub, 1) := by decide +kernel
theorem dX2_addDigit_6 : decode cX2_addDigit 6 = .ok (.istore_n 2, 1) := by decide +kernel
theorem dX2_addDigit_7 : decode cX2_addDigit 7 = .ok (.aload_n 0, 1) := by decide +kernel
theorem dX2_addDigit_8 : decode cX2_addDigit 8 = .ok (.getfield 18, 3) := by decide +kernel
theorem dX2_addDigit_11 : decode cX2_addDigit 11 = .ok (.iload_n 2, 1) := by decide +kernel
theorem dX2_addDigit_12 : decode cX2_addDigit 12 = .ok (.aload_n 0, 1) := by decide +kernel
theorem dX2_addDigit_13 : decode cX2_addDigit 13 = .ok (.getfield 18, 3) := by decide +kernel
theorem dX2_addDigit_16 : decode cX2_addDigit 16 = .ok (.iload_n 2, 1) := by decide +kernel
theorem dX2_addDigit_17 : decode cX2_addDigit 17 = .ok (.iaload, 1) := by decide +kernel
theorem dX2_addDigit_18 : decode cX2_addDigit 18 = .ok (.bipush 10, 2) := by decide +kernel
theorem dX2_addDigit_20 : decode cX2_addDigit 20 = .ok (.imul, 1) := by decide +kernel
theorem dX2_addDigit_21 : decode cX2_addDigit 21 = .ok (.iload_n 1, 1) := by decide +kernel
theorem dX2_addDigit_22 : decode cX2_addDigit 22 = .ok (.iadd, 1) := by decide +kernel
theorem dX2_addDigit_23 : decode cX2_addDigit 23 = .ok (.iastore, 1) := by decide +kernel
theorem dX2_addDigit_24 : decode cX2_addDigit 24 = .ok (.return_, 1) := by decide +kernel
theorem dX2_warm_0 : decode cX2_warm 0 = .ok (.aload_n 0, 1) := by decide +kernel
theorem dX2_warm_1 : decode cX2_warm 1 = .ok (.getfield 18, 3) := by decide +kernel
theorem dX2_warm_4 : decode cX2_warm 4 = .ok (.iload_n 1, 1) := by decide +kernel
theorem dX2_warm_5 : decode cX2_warm 5 = .ok (.sipush 999, 3) := by decide +kernel
theorem dX2_warm_8 : decode cX2_warm 8 = .ok (.aload_n 0, 1) := by decide +kernel
theorem dX2_warm_9 : decode cX2_warm 9 = .ok (.getfield 18, 3) := by decide +kernel
theorem dX2_warm_12 : decode cX2_warm 12 = .ok (.iload_n 1, 1) := by decide +kernel
theorem dX2_warm_13 : decode cX2_warm 13 = .ok (.iaload, 1) := by decide +kernel
theorem dX2_warm_14 : decode cX2_warm 14 = .ok (.iload_n 2, 1) := by decide +kernel
theorem dX2_warm_15 : decode cX2_warm 15 = .ok (.iadd, 1) := by decide +kernel
theorem dX2_warm_16 : decode cX2_warm 16 = .ok (.invokestatic 74, 3) := by decide +kernel
theorem dX2_warm_19 : decode cX2_warm 19 = .ok (.iastore, 1) := by decide +kernel
theorem dX2_warm_20 : decode cX2_warm 20 = .ok (.return_, 1) := by decide +kernel
set_option maxRecDepth 20000 in
theorem ggX2_remove_X2_words : GoodIn wsX2_remove wsX2_words := goodIn_r _ [15, 1, 2, 16, 17, 18, 19, 20, 21, 22, 23, 24, 25, 26, 27] (by decide +kernel) (by decide +kernel)
set_option maxRecDepth 20000 in
theorem gX2_remove_X2_words : GoodIn wsX2_remove (wsV RX2 33 RX2 yX2_words wsX2_words) := goodIn_app (goodIn_of _ (by decide +kernel)) ggX2_remove_X2_words
theorem dX2_remove_0 : decode cX2_remove 0 = .ok (.aload_n 0, 1) := by decide +kernel
theorem dX2_remove_1 : decode cX2_remove 1 = .ok (.getfield 21, 3) := by decide +kernel
theorem dX2_remove_4 : decode cX2_remove 4 = .ok (.iload_n 1, 1) := by decide +kernel
theorem dX2_remove_5 : decode cX2_remove 5 = .ok (.iaload, 1) := by decide +kernel
theorem dX2_remove_6 : decode cX2_remove 6 = .ok (.istore_n 2, 1) := by decide +kernel
theorem dX2_remove_7 : decode cX2_remove 7 = .ok (.aload_n 0, 1) := by decide +kernel
theorem dX2_remove_8 : decode cX2_remove 8 = .ok (.getfield 21, 3) := by decide +kernel
theorem dX2_remove_11 : decode cX2_remove 11 = .ok (.iload_n 1, 1) := by decide +kernel
theorem dX2_remove_12 : decode cX2_remove 12 = .ok (.iconst 1, 1) := by decide +kernel
theorem dX2_remove_13 : decode cX2_remove 13 = .ok (.iadd, 1) := by decide +kernel
theorem dX2_remove_14 : decode cX2_remove 14 = .ok (.iaload, 1) := by decide +kernel
theorem dX2_remove_15 : decode cX2_remove 15 = .ok (.istore_n 3, 1) := by decide +kernel
theorem dX2_remove_16 : decode cX2_remove 16 = .ok (.aload_n 0, 1) := by decide +kernel
theorem dX2_remove_17 : decode cX2_remove 17 = .ok (.invokevirtual 33, 3) := by decide +kernel
theorem dX2_remove_20 : decode cX2_remove 20 = .ok (.iload_n 3, 1) := by decide +kernel
theorem dX2_remove_21 : decode cX2_remove 21 = .ok (.isub, 1) := by decide +kernel
theorem dX2_remove_22 : decode cX2_remove 22 = .ok (.istore 4, 2) := by decide +kernel
theorem dX2_remove_24 : decode cX2_remove 24 = .ok (.aload_n 0, 1) := by decide +kernel
theorem dX2_remove_25 : decode cX2_remove 25 = .ok (.getfield 43, 3) := by decide +kernel
theorem dX2_remove_28 : decode cX2_remove 28 = .ok (.iconst 1, 1) := by decide +kernel
theorem dX2_remove_29 : decode cX2_remove 29 = .ok (.isub, 1) := by decide +kernel
theorem dX2_remove_30 : decode cX2_remove 30 = .ok (.iload_n 1, 1) := by decide +kernel
theorem dX2_remove_31 : decode cX2_remove 31 = .ok (.isub, 1) := by decide +kernel
theorem dX2_remove_32 : decode cX2_remove 32 = .ok (.istore 5, 2) := by decide +kernel
theorem dX2_remove_34 : decode cX2_remove 34 = .ok (.aload_n 0, 1) := by decide +kernel
theorem dX2_remove_35 : decode cX2_remove 35 = .ok (.getfield 15, 3) := by decide +kernel
theorem dX2_remove_38 : decode cX2_remove 38 = .ok (.iload_n 3, 1) := by decide +kernel
theorem dX2_remove_39 : decode cX2_remove 39 = .ok (.aload_n 0, 1) := by decide +kernel
theorem dX2_remove_40 : decode cX2_remove 40 = .ok (.getfield 15, 3) := by decide +kernel
theorem dX2_remove_43 : decode cX2_remove 43 = .ok (.iload_n 2, 1) := by decide +kernel
theorem dX2_remove_44 : decode cX2_remove 44 = .ok (.iload 4, 2) := by decide +kernel
theorem dX2_remove_46 : decode cX2_remove 46 = .ok (.invokestatic 37, 3) := by decide +kernel
theorem dX2_remove_49 : decode cX2_remove 49 = .ok (.aload_n 0, 1) := by decide +kernel
theorem dX2_remove_50 : decode cX2_remove 50 = .ok (.getfield 18, 3) := by decide +kernel
theorem dX2_remove_53 : decode cX2_remove 53 = .ok (.iload_n 3, 1) := by decide +kernel
theorem dX2_remove_54 : decode cX2_remove 54 = .ok (.aload_n 0, 1) := by decide +kernel
theorem dX2_remove_55 : decode cX2_remove 55 = .ok (.getfield 18, 3) := by decide +kernel
theorem dX2_remove_58 : decode cX2_remove 58 = .ok (.iload_n 2, 1) := by decide +kernel
theorem dX2_remove_59 : decode cX2_remove 59 = .ok (.iload 4, 2) := by decide +kernel
theorem dX2_remove_61 : decode cX2_remove 61 = .ok (.invokestatic 37, 3) := by decide +kernel
theorem dX2_remove_64 : decode cX2_remove 64 = .ok (.aload_n 0, 1) := by decide +kernel
theorem dX2_remove_65 : decode cX2_remove 65 = .ok (.getfield 24, 3) := by decide +kernel
theorem dX2_remove_68 : decode cX2_remove 68 = .ok (.iload_n 1, 1) := by decide +kernel
theorem dX2_remove_69 : decode cX2_remove 69 = .ok (.iconst 1, 1) := by decide +kernel
theorem dX2_remove_70 : decode cX2_remove 70 = .ok (.iadd, 1) := by decide +kernel
theorem dX2_remove_71 : decode cX2_remove 71 = .ok (.aload_n 0, 1) := by decide +kernel
theorem dX2_remove_72 : decode cX2_remove 72 = .ok (.getfield 24, 3) := by decide +kernel
theorem dX2_remove_75 : decode cX2_remove 75 = .ok (.iload_n 1, 1) := by decide +kernel
theorem dX2_remove_76 : decode cX2_remove 76 = .ok (.iload 5, 2) := by decide +kernel
theorem dX2_remove_78 : decode cX2_remove 78 = .ok (.invokestatic 37, 3) := by decide +kernel
theorem dX2_remove_81 : decode cX2_remove 81 = .ok (.aload_n 0, 1) := by decide +kernel
theorem dX2_remove_82 : decode cX2_remove 82 = .ok (.getfield 27, 3) := by decide +kernel
theorem dX2_remove_85 : decode cX2_remove 85 = .ok (.iload_n 1, 1) := by decide +kernel
theorem dX2_remove_86 : decode cX2_remove 86 = .ok (.iconst 1, 1) := by decide +kernel
theorem dX2_remove_87 : decode cX2_remove 87 = .ok (.iadd, 1) := by decide +kernel
theorem dX2_remove_88 : decode cX2_remove 88 = .ok (.aload_n 0, 1) := by decide +kernel
theorem dX2_remove_89 : decode cX2_remove 89 = .ok (.getfield 27, 3) := by decide +kernel
theorem dX2_remove_92 : decode cX2_remove 92 = .ok (.iload_n 1, 1) := by decide +kernel
theorem dX2_remove_93 : decode cX2_remove 93 = .ok (.iload 5, 2) := by decide +kernel
theorem dX2_remove_95 : decode cX2_remove 95 = .ok (.invokestatic 37, 3) := by decide +kernel
theorem dX2_remove_98 : decode cX2_remove 98 = .ok (.iload_n 1, 1) := by decide +kernel
theorem dX2_remove_99 : decode cX2_remove 99 = .ok (.istore 6, 2) := by decide +kernel
theorem dX2_remove_101 : decode cX2_remove 101 = .ok (.iload 6, 2) := by decide +kernel
theorem dX2_remove_103 : decode cX2_remove 103 = .ok (.aload_n 0, 1) := by decide +kernel
theorem dX2_remove_104 : decode cX2_remove 104 = .ok (.getfield 43, 3) := by decide +kernel
theorem dX2_remove_107 : decode cX2_remove 107 = .ok (.if_icmp .ge 29, 3) := by decide +kernel
theorem dX2_remove_110 : decode cX2_remove 110 = .ok (.aload_n 0, 1) := by decide +kernel
theorem dX2_remove_111 : decode cX2_remove 111 = .ok (.getfield 21, 3) := by decide +kernel
theorem dX2_remove_114 : decode cX2_remove 114 = .ok (.iload 6, 2) := by decide +kernel
theorem dX2_remove_116 : decode cX2_remove 116 = .ok (.aload_n 0, 1) := by decide +kernel
theorem dX2_remove_117 : decode cX2_remove 117 = .ok (.getfield 21, 3) := by decide +kernel
theorem dX2_remove_120 : decode cX2_remove 120 = .ok (.iload 6, 2) := by decide +kernel
theorem dX2_remove_122 : decode cX2_remove 122 = .ok (.iconst 1, 1) := by decide +kernel
theorem dX2_remove_123 : decode cX2_remove 123 = .ok (.iadd, 1) := by decide +kernel
theorem dX2_remove_124 : decode cX2_remove 124 = .ok (.iaload, 1) := by decide +kernel
theorem dX2_remove_125 : decode cX2_remove 125 = .ok (.iload_n 3, 1) := by decide +kernel
theorem dX2_remove_126 : decode cX2_remove 126 = .ok (.iload_n 2, 1) := by decide +kernel
theorem dX2_remove_127 : decode cX2_remove 127 = .ok (.isub, 1) := by decide +kernel
theorem dX2_remove_128 : decode cX2_remove 128 = .ok (.isub, 1) := by decide +kernel
theorem dX2_remove_129 : decode cX2_remove 129 = .ok (.iastore, 1) := by decide +kernel
theorem dX2_remove_130 : decode cX2_remove 130 = .ok (.iinc 6 1, 3) := by decide +kernel
theorem dX2_remove_133 : decode cX2_remove 133 = .ok (.goto (-32), 3) := by decide +kernel
theorem dX2_remove_136 : decode cX2_remove 136 = .ok (.aload_n 0, 1) := by decide +kernel
theorem dX2_remove_137 : decode cX2_remove 137 = .ok (.dup, 1) := by decide +kernel
theorem dX2_remove_138 : decode cX2_remove 138 = .ok (.getfield 43, 3) := by decide +kernel
theorem dX2_remove_141 : decode cX2_remove 141 = .ok (.iconst 1, 1) := by decide +kernel
theorem dX2_remove_142 : decode cX2_remove 142 = .ok (.isub, 1) := by decide +kernel
theorem dX2_remove_143 : decode cX2_remove 143 = .ok (.putfield 43, 3) := by decide +kernel
theorem dX2_remove_146 : decode cX2_remove 146 = .ok (.return_, 1) := by decide +kernel
set_option maxRecDepth 20000 in
theorem ggX2_append_X2_sizeOf : GoodIn wsX2_append wsX2_sizeOf := goodIn_r _ [13, 1, 18, 19, 20, 21, 22, 23, 24, 25, 26, 27, 28, 29] (by decide +kernel) (by decide +kernel)
set_option maxRecDepth 20000 in
theorem gX2_append_X2_sizeOf : GoodIn wsX2_append (wsV RX2 67 RX2 yX2_sizeOf wsX2_sizeOf) := goodIn_app (goodIn_of _ (by decide +kernel)) ggX2_append_X2_sizeOf
set_option maxRecDepth 20000 in
theorem ggX2_append_X2_words : GoodIn wsX2_append wsX2_words := goodIn_r _ [17, 1, 8, 18, 19, 20, 21, 22, 23, 24, 25, 26, 27, 28, 29] (by decide +kernel) (by decide +kernel)
set_option maxRecDepth 20000 in
theorem gX2_append_X2_words : GoodIn wsX2_append (wsV RX2 33 RX2 yX2_words wsX2_words) := goodIn_app (goodIn_of _ (by decide +kernel)) ggX2_append_X2_words
theorem dX2_append_0 : decode cX2_append 0 = .ok (.aload_n 0, 1) := by decide +kernel
theorem dX2_append_1 : decode cX2_append 1 = .ok (.getfield 21, 3) := by decide +kernel
theorem dX2_append_4 : decode cX2_append 4 = .ok (.iload_n 1, 1) := by decide +kernel
theorem dX2_append_5 : decode cX2_append 5 = .ok (.iconst 1, 1) := by decide +kernel
theorem dX2_append_6 : decode cX2_append 6 = .ok (.iadd, 1) := by decide +kernel
theorem dX2_append_7 : decode cX2_append 7 = .ok (.iaload, 1) := by decide +kernel
theorem dX2_append_8 : decode cX2_append 8 = .ok (.istore 4, 2) := by decide +kernel
theorem dX2_append_10 : decode cX2_append 10 = .ok (.aload_n 2, 1) := by decide +kernel
theorem dX2_append_11 : decode cX2_append 11 = .ok (.getfield 21, 3) := by decide +kernel
theorem dX2_append_14 : decode cX2_append 14 = .ok (.iload_n 3, 1) := by decide +kernel
theorem dX2_append_15 : decode cX2_append 15 = .ok (.iaload, 1) := by decide +kernel
theorem dX2_append_16 : decode cX2_append 16 = .ok (.istore 5, 2) := by decide +kernel
theorem dX2_append_18 : decode cX2_append 18 = .ok (.aload_n 2, 1) := by decide +kernel
theorem dX2_append_19 : decode cX2_append 19 = .ok (.iload_n 3, 1) := by decide +kernel
theorem dX2_append_20 : decode cX2_append 20 = .ok (.invokevirtual 67, 3) := by decide +kernel
theorem dX2_append_23 : decode cX2_append 23 = .ok (.istore 6, 2) := by decide +kernel
theorem dX2_append_25 : decode cX2_append 25 = .ok (.aload_n 0, 1) := by decide +kernel
theorem dX2_append_26 : decode cX2_append 26 = .ok (.invokevirtual 33, 3) := by decide +kernel
theorem dX2_append_29 : decode cX2_append 29 = .ok (.iload 4, 2) := by decide +kernel
theorem dX2_append_31 : decode cX2_append 31 = .ok (.isub, 1) := by decide +kernel
theorem dX2_append_32 : decode cX2_append 32 = .ok (.istore 7, 2) := by decide +kernel
theorem dX2_append_34 : decode cX2_append 34 = .ok (.aload_n 0, 1) := by decide +kernel
theorem dX2_append_35 : decode cX2_append 35 = .ok (.getfield 15, 3) := by decide +kernel
theorem dX2_append_38 : decode cX2_append 38 = .ok (.iload 4, 2) := by decide +kernel
theorem dX2_append_40 : decode cX2_append 40 = .ok (.aload_n 0, 1) := by decide +kernel
theorem dX2_append_41 : decode cX2_append 41 = .ok (.getfield 15, 3) := by decide +kernel
theorem dX2_append_44 : decode cX2_append 44 = .ok (.iload 4, 2) := by decide +kernel
theorem dX2_append_46 : decode cX2_append 46 = .ok (.iload 6, 2) := by decide +kernel
theorem dX2_append_48 : decode cX2_append 48 = .ok (.iadd, 1) := by decide +kernel
theorem dX2_append_49 : decode cX2_append 49 = .ok (.iload 7, 2) := by decide +kernel
theorem dX2_append_51 : decode cX2_append 51 = .ok (.invokestatic 37, 3) := by decide +kernel
theorem dX2_append_54 : decode cX2_append 54 = .ok (.aload_n 0, 1) := by decide +kernel
theorem dX2_append_55 : decode cX2_append 55 = .ok (.getfield 18, 3) := by decide +kernel
theorem dX2_append_58 : decode cX2_append 58 = .ok (.iload 4, 2) := by decide +kernel
theorem dX2_append_60 : decode cX2_append 60 = .ok (.aload_n 0, 1) := by decide +kernel
theorem dX2_append_61 : decode cX2_append 61 = .ok (.getfield 18, 3) := by decide +kernel
theorem dX2_append_64 : decode cX2_append 64 = .ok (.iload 4, 2) := by decide +kernel
theorem dX2_append_66 : decode cX2_append 66 = .ok (.iload 6, 2) := by decide +kernel
theorem dX2_append_68 : decode cX2_append 68 = .ok (.iadd, 1) := by decide +kernel
theorem dX2_append_69 : decode cX2_append 69 = .ok (.iload 7, 2) := by decide +kernel
theorem dX2_append_71 : decode cX2_append 71 = .ok (.invokestatic 37, 3) := by decide +kernel
theorem dX2_append_74 : decode cX2_append 74 = .ok (.aload_n 2, 1) := by decide +kernel
theorem dX2_append_75 : decode cX2_append 75 = .ok (.getfield 15, 3) := by decide +kernel
theorem dX2_append_78 : decode cX2_append 78 = .ok (.iload 5, 2) := by decide +kernel
theorem dX2_append_80 : decode cX2_append 80 = .ok (.aload_n 0, 1) := by decide +kernel
theorem dX2_append_81 : decode cX2_append 81 = .ok (.getfield 15, 3) := by decide +kernel
theorem dX2_append_84 : decode cX2_append 84 = .ok (.iload 4, 2) := by decide +kernel
theorem dX2_append_86 : decode cX2_append 86 = .ok (.iload 6, 2) := by decide +kernel
theorem dX2_append_88 : decode cX2_append 88 = .ok (.invokestatic 37, 3) := by decide +kernel
theorem dX2_append_91 : decode cX2_append 91 = .ok (.aload_n 2, 1) := by decide +kernel
theorem dX2_append_92 : decode cX2_append 92 = .ok (.getfield 18, 3) := by decide +kernel
theorem dX2_append_95 : decode cX2_append 95 = .ok (.iload 5, 2) := by decide +kernel
theorem dX2_append_97 : decode cX2_append 97 = .ok (.aload_n 0, 1) := by decide +kernel
theorem dX2_append_98 : decode cX2_append 98 = .ok (.getfield 18, 3) := by decide +kernel
theorem dX2_append_101 : decode cX2_append 101 = .ok (.iload 4, 2) := by decide +kernel
theorem dX2_append_103 : decode cX2_append 103 = .ok (.iload 6, 2) := by decide +kernel
theorem dX2_append_105 : decode cX2_append 105 = .ok (.invokestatic 37, 3) := by decide +kernel
theorem dX2_append_108 : decode cX2_append 108 = .ok (.iload_n 1, 1) := by decide +kernel
theorem dX2_append_109 : decode cX2_append 109 = .ok (.iconst 1, 1) := by decide +kernel
theorem dX2_append_110 : decode cX2_append 110 = .ok (.iadd, 1) := by decide +kernel
theorem dX2_append_111 : decode cX2_append 111 = .ok (.istore 8, 2) := by decide +kernel
theorem dX2_append_113 : decode cX2_append 113 = .ok (.iload 8, 2) := by decide +kernel
theorem dX2_append_115 : decode cX2_append 115 = .ok (.aload_n 0, 1) := by decide +kernel
theorem dX2_append_116 : decode cX2_append 116 = .ok (.getfield 43, 3) := by decide +kernel
theorem dX2_append_119 : decode cX2_append 119 = .ok (.if_icmp .gt 21, 3) := by decide +kernel
theorem dX2_append_122 : decode cX2_append 122 = .ok (.aload_n 0, 1) := by decide +kernel
theorem dX2_append_123 : decode cX2_append 123 = .ok (.getfield 21, 3) := by decide +kernel
theorem dX2_append_126 : decode cX2_append 126 = .ok (.iload 8, 2) := by decide +kernel
theorem dX2_append_128 : decode cX2_append 128 = .ok (.dup2, 1) := by decide +kernel
theorem dX2_append_129 : decode cX2_append 129 = .ok (.iaload, 1) := by decide +kernel
theorem dX2_append_130 : decode cX2_append 130 = .ok (.iload 6, 2) := by decide +kernel
theorem dX2_append_132 : decode cX2_append 132 = .ok (.iadd, 1) := by decide +kernel
theorem dX2_append_133 : decode cX2_append 133 = .ok (.iastore, 1) := by decide +kernel
theorem dX2_append_134 : decode cX2_append 134 = .ok (.iinc 8 1, 3) := by decide +kernel
theorem dX2_append_137 : decode cX2_append 137 = .ok (.goto (-24), 3) := by decide +kernel
theorem dX2_append_140 : decode cX2_append 140 = .ok (.return_, 1) := by decide +kernel
set_option maxRecDepth 20000 in
theorem ggX2_isCalm_X2_words : GoodIn wsX2_isCalm wsX2_words := goodIn_r _ [7, 8, 9, 10, 11, 12, 13, 14, 15, 16, 17, 18, 19, 20, 21] (by decide +kernel) (by decide +kernel)
set_option maxRecDepth 20000 in
theorem gX2_isCalm_X2_words : GoodIn wsX2_isCalm (wsV RX2 33 RX2 yX2_words wsX2_words) := goodIn_app (goodIn_of _ (by decide +kernel)) ggX2_isCalm_X2_words
theorem dX2_isCalm_0 : decode cX2_isCalm 0 = .ok (.iconst 0, 1) := by decide +kernel
theorem dX2_isCalm_1 : decode cX2_isCalm 1 = .ok (.istore_n 1, 1) := by decide +kernel
theorem dX2_isCalm_2 : decode cX2_isCalm 2 = .ok (.iload_n 1, 1) := by decide +kernel
theorem dX2_isCalm_3 : decode cX2_isCalm 3 = .ok (.aload_n 0, 1) := by decide +kernel
theorem dX2_isCalm_4 : decode cX2_isCalm 4 = .ok (.invokevirtual 33, 3) := by decide +kernel
theorem dX2_isCalm_7 : decode cX2_isCalm 7 = .ok (.if_icmp .ge 26, 3) := by decide +kernel
theorem dX2_isCalm_10 : decode cX2_isCalm 10 = .ok (.aload_n 0, 1) := by decide +kernel
theorem dX2_isCalm_11 : decode cX2_isCalm 11 = .ok (.getfield 18, 3) := by decide +kernel
theorem dX2_isCalm_14 : decode cX2_isCalm 14 = .ok (.iload_n 1, 1) := by decide +kernel
theorem dX2_isCalm_15 : decode cX2_isCalm 15 = .ok (.iaload, 1) := by decide +kernel
theorem dX2_isCalm_16 : decode cX2_isCalm 16 = .ok (.aload_n 0, 1) := by decide +kernel
theorem dX2_isCalm_17 : decode cX2_isCalm 17 = .ok (.getfield 9, 3) := by decide +kernel
theorem dX2_isCalm_20 : decode cX2_isCalm 20 = .ok (.iconst 0, 1) := by decide +kernel
theorem dX2_isCalm_21 : decode cX2_isCalm 21 = .ok (.iaload, 1) := by decide +kernel
theorem dX2_isCalm_22 : decode cX2_isCalm 22 = .ok (.if_icmp .lt 5, 3) := by decide +kernel
theorem dX2_isCalm_25 : decode cX2_isCalm 25 = .ok (.iconst 0, 1) := by decide +kernel
theorem dX2_isCalm_26 : decode cX2_isCalm 26 = .ok (.ireturn, 1) := by decide +kernel
theorem dX2_isCalm_27 : decode cX2_isCalm 27 = .ok (.iinc 1 1, 3) := by decide +kernel
theorem dX2_isCalm_30 : decode cX2_isCalm 30 = .ok (.goto (-28), 3) := by decide +kernel
theorem dX2_isCalm_33 : decode cX2_isCalm 33 = .ok (.iconst 1, 1) := by decide +kernel
theorem dX2_isCalm_34 : decode cX2_isCalm 34 = .ok (.ireturn, 1) := by decide +kernel
set_option maxRecDepth 20000 in
theorem ggX2_react_X2_words : GoodIn wsX2_react wsX2_words := goodIn_r _ [12, 13, 14, 43, 44, 45, 46, 47, 48, 49, 50, 51, 52, 53, 54] (by decide +kernel) (by decide +kernel)
set_option maxRecDepth 20000 in
theorem gX2_react_X2_words : GoodIn wsX2_react (wsV RX2 33 RX2 yX2_words wsX2_words) := goodIn_app (goodIn_of _ (by decide +kernel)) ggX2_react_X2_words
set_option maxRecDepth 20000 in
theorem ggX2_react_X2_reactAt : GoodIn wsX2_react wsX2_reactAt := goodIn_r _ [18, 13, 19, 14, 20, 21, 2, 3, 22, 23, 24, 11, 25, 26, 27, 28, 29, 30, 31, 32, 33, 34, 35, 36, 37, 38, 39, 40, 41, 6, 42, 43, 44, 45, 46, 47, 48, 49, 50, 51, 52, 53, 54] (by decide +kernel) (by decide +kernel)
set_option maxRecDepth 20000 in
theorem gX2_react_X2_reactAt : GoodIn wsX2_react (wsV RX2 81 RX2 yX2_reactAt wsX2_reactAt) := goodIn_app (goodIn_of _ (by decide +kernel)) ggX2_react_X2_reactAt
theorem dX2_react_0 : decode cX2_react 0 = .ok (.iconst 0, 1) := by decide +kernel
theorem dX2_react_1 : decode cX2_react 1 = .ok (.istore_n 1, 1) := by decide +kernel
theorem dX2_react_2 : decode cX2_react 2 = .ok (.iconst 0, 1) := by decide +kernel
theorem dX2_react_3 : decode cX2_react 3 = .ok (.istore_n 2, 1) := by decide +kernel
theorem dX2_react_4 : decode cX2_react 4 = .ok (.iconst 0, 1) := by decide +kernel
theorem dX2_react_5 : decode cX2_react 5 = .ok (.istore_n 3, 1) := by decide +kernel
theorem dX2_react_6 : decode cX2_react 6 = .ok (.iload_n 3, 1) := by decide +kernel
theorem dX2_react_7 : decode cX2_react 7 = .ok (.ldc 80, 2) := by decide +kernel
theorem dX2_react_9 : decode cX2_react 9 = .ok (.if_icmp .ge 54, 3) := by decide +kernel
theorem dX2_react_12 : decode cX2_react 12 = .ok (.iload_n 2, 1) := by decide +kernel
theorem dX2_react_13 : decode cX2_react 13 = .ok (.aload_n 0, 1) := by decide +kernel
theorem dX2_react_14 : decode cX2_react 14 = .ok (.invokevirtual 33, 3) := by decide +kernel
theorem dX2_react_17 : decode cX2_react 17 = .ok (.if_icmp .ge 46, 3) := by decide +kernel
theorem dX2_react_20 : decode cX2_react 20 = .ok (.aload_n 0, 1) := by decide +kernel
theorem dX2_react_21 : decode cX2_react 21 = .ok (.getfield 18, 3) := by decide +kernel
theorem dX2_react_24 : decode cX2_react 24 = .ok (.iload_n 2, 1) := by decide +kernel
theorem dX2_react_25 : decode cX2_react 25 = .ok (.iaload, 1) := by decide +kernel
theorem dX2_react_26 : decode cX2_react 26 = .ok (.aload_n 0, 1) := by decide +kernel
theorem dX2_react_27 : decode cX2_react 27 = .ok (.getfield 9, 3) := by decide +kernel
theorem dX2_react_30 : decode cX2_react 30 = .ok (.iconst 0, 1) := by decide +kernel
theorem dX2_react_31 : decode cX2_react 31 = .ok (.iaload, 1) := by decide +kernel
theorem dX2_react_32 : decode cX2_react 32 = .ok (.if_icmp .ge 9, 3) := by decide +kernel
theorem dX2_react_35 : decode cX2_react 35 = .ok (.iinc 2 1, 3) := by decide +kernel
theorem dX2_react_38 : decode cX2_react 38 = .ok (.goto 19, 3) := by decide +kernel
theorem dX2_react_41 : decode cX2_react 41 = .ok (.aload_n 0, 1) := by decide +kernel
theorem dX2_react_42 : decode cX2_react 42 = .ok (.iload_n 2, 1) := by decide +kernel
theorem dX2_react_43 : decode cX2_react 43 = .ok (.invokevirtual 81, 3) := by decide +kernel
theorem dX2_react_46 : decode cX2_react 46 = .ok (.iinc 1 1, 3) := by decide +kernel
theorem dX2_react_49 : decode cX2_react 49 = .ok (.iconst 0, 1) := by decide +kernel
theorem dX2_react_50 : decode cX2_react 50 = .ok (.iload_n 2, 1) := by decide +kernel
theorem dX2_react_51 : decode cX2_react 51 = .ok (.iconst 1, 1) := by decide +kernel
theorem dX2_react_52 : decode cX2_react 52 = .ok (.isub, 1) := by decide +kernel
theorem dX2_react_53 : decode cX2_react 53 = .ok (.invokestatic 85, 3) := by decide +kernel
theorem dX2_react_56 : decode cX2_react 56 = .ok (.istore_n 2, 1) := by decide +kernel
theorem dX2_react_57 : decode cX2_react 57 = .ok (.iinc 3 1, 3) := by decide +kernel
theorem dX2_react_60 : decode cX2_react 60 = .ok (.goto (-54), 3) := by decide +kernel
theorem dX2_react_63 : decode cX2_react 63 = .ok (.iload_n 1, 1) := by decide +kernel
theorem dX2_react_64 : decode cX2_react 64 = .ok (.ireturn, 1) := by decide +kernel
set_option maxRecDepth 20000 in
theorem ggX2_reactAt_X2_storyAt : GoodIn wsX2_reactAt wsX2_storyAt := goodIn_r _ [12, 3, 1, 31, 32, 33, 34, 35, 36, 37, 38, 39, 40, 41, 42] (by decide +kernel) (by decide +kernel)
set_option maxRecDepth 20000 in
theorem gX2_reactAt_X2_storyAt : GoodIn wsX2_reactAt (wsV RX2 71 RX2 yX2_storyAt wsX2_storyAt) := goodIn_app (goodIn_of _ (by decide +kernel)) ggX2_reactAt_X2_storyAt
set_option maxRecDepth 20000 in
theorem ggX2_reactAt_X2_split : GoodIn wsX2_reactAt wsX2_split := goodIn_r _ [16, 3, 1, 17, 18, 19, 20, 21, 22, 31, 32, 33, 34, 35, 36, 37, 38, 39, 40, 41, 42] (by decide +kernel) (by decide +kernel)
set_option maxRecDepth 20000 in
theorem gX2_reactAt_X2_split : GoodIn wsX2_reactAt (wsV RX2 88 RX2 yX2_split wsX2_split) := goodIn_app (goodIn_of _ (by decide +kernel)) ggX2_reactAt_X2_split
set_option maxRecDepth 20000 in
theorem ggX2_reactAt_X2_warm : GoodIn wsX2_reactAt wsX2_warm := goodIn_r _ [26, 6, 27, 28, 29, 30, 31, 32, 33, 34, 35, 36, 37, 38, 39, 40, 41, 42] (by decide +kernel) (by decide +kernel)
set_option maxRecDepth 20000 in
theorem gX2_reactAt_X2_warm : GoodIn wsX2_reactAt (wsV RX2 92 RX2 yX2_warm wsX2_warm) := goodIn_app (goodIn_of _ (by decide +kernel)) ggX2_reactAt_X2_warm
theorem dX2_reactAt_0 : decode cX2_reactAt 0 = .ok (.aload_n 0, 1) := by decide +kernel
theorem dX2_reactAt_1 : decode cX2_reactAt 1 = .ok (.iload_n 1, 1) := by decide +kernel
theorem dX2_reactAt_2 : decode cX2_reactAt 2 = .ok (.invokevirtual 71, 3) := by decide +kernel
theorem dX2_reactAt_5 : decode cX2_reactAt 5 = .ok (.istore_n 2, 1) := by decide +kernel
theorem dX2_reactAt_6 : decode cX2_reactAt 6 = .ok (.aload_n 0, 1) := by decide +kernel
theorem dX2_reactAt_7 : decode cX2_reactAt 7 = .ok (.getfield 21, 3) := by decide +kernel
theorem dX2_reactAt_10 : decode cX2_reactAt 10 = .ok (.iload_n 2, 1) := by decide +kernel
theorem dX2_reactAt_11 : decode cX2_reactAt 11 = .ok (.iaload, 1) := by decide +kernel
theorem dX2_reactAt_12 : decode cX2_reactAt 12 = .ok (.istore_n 3, 1) := by decide +kernel
theorem dX2_reactAt_13 : decode cX2_reactAt 13 = .ok (.aload_n 0, 1) := by decide +kernel
theorem dX2_reactAt_14 : decode cX2_reactAt 14 = .ok (.getfield 21, 3) := by decide +kernel
theorem dX2_reactAt_17 : decode cX2_reactAt 17 = .ok (.iload_n 2, 1) := by decide +kernel
theorem dX2_reactAt_18 : decode cX2_reactAt 18 = .ok (.iconst 1, 1) := by decide +kernel
theorem dX2_reactAt_19 : decode cX2_reactAt 19 = .ok (.iadd, 1) := by decide +kernel
theorem dX2_reactAt_20 : decode cX2_reactAt 20 = .ok (.iaload, 1) := by decide +kernel
theorem dX2_reactAt_21 : decode cX2_reactAt 21 = .ok (.istore 4, 2) := by decide +kernel
theorem dX2_reactAt_23 : decode cX2_reactAt 23 = .ok (.iload_n 1, 1) := by decide +kernel
theorem dX2_reactAt_24 : decode cX2_reactAt 24 = .ok (.iload_n 3, 1) := by decide +kernel
theorem dX2_reactAt_25 : decode cX2_reactAt 25 = .ok (.if_icmp .ne 16, 3) := by decide +kernel
theorem dX2_reactAt_28 : decode cX2_reactAt 28 = .ok (.aload_n 0, 1) := by decide +kernel
theorem dX2_reactAt_29 : decode cX2_reactAt 29 = .ok (.dup, 1) := by decide +kernel
theorem dX2_reactAt_30 : decode cX2_reactAt 30 = .ok (.getfield 53, 3) := by decide +kernel
theorem dX2_reactAt_33 : decode cX2_reactAt 33 = .ok (.iconst 1, 1) := by decide +kernel
theorem dX2_reactAt_34 : decode cX2_reactAt 34 = .ok (.iadd, 1) := by decide +kernel
theorem dX2_reactAt_35 : decode cX2_reactAt 35 = .ok (.putfield 53, 3) := by decide +kernel
theorem dX2_reactAt_38 : decode cX2_reactAt 38 = .ok (.goto 41, 3) := by decide +kernel
theorem dX2_reactAt_41 : decode cX2_reactAt 41 = .ok (.aload_n 0, 1) := by decide +kernel
theorem dX2_reactAt_42 : decode cX2_reactAt 42 = .ok (.getfield 43, 3) := by decide +kernel
theorem dX2_reactAt_45 : decode cX2_reactAt 45 = .ok (.bipush 12, 2) := by decide +kernel
theorem dX2_reactAt_47 : decode cX2_reactAt 47 = .ok (.if_icmp .ge 22, 3) := by decide +kernel
theorem dX2_reactAt_50 : decode cX2_reactAt 50 = .ok (.aload_n 0, 1) := by decide +kernel
theorem dX2_reactAt_51 : decode cX2_reactAt 51 = .ok (.dup, 1) := by decide +kernel
theorem dX2_reactAt_52 : decode cX2_reactAt 52 = .ok (.getfield 50, 3) := by decide +kernel
theorem dX2_reactAt_55 : decode cX2_reactAt 55 = .ok (.iconst 1, 1) := by decide +kernel
theorem dX2_reactAt_56 : decode cX2_reactAt 56 = .ok (.iadd, 1) := by decide +kernel
theorem dX2_reactAt_57 : decode cX2_reactAt 57 = .ok (.putfield 50, 3) := by decide +kernel
theorem dX2_reactAt_60 : decode cX2_reactAt 60 = .ok (.aload_n 0, 1) := by decide +kernel
theorem dX2_reactAt_61 : decode cX2_reactAt 61 = .ok (.iload_n 2, 1) := by decide +kernel
theorem dX2_reactAt_62 : decode cX2_reactAt 62 = .ok (.iload_n 1, 1) := by decide +kernel
theorem dX2_reactAt_63 : decode cX2_reactAt 63 = .ok (.invokevirtual 88, 3) := by decide +kernel
theorem dX2_reactAt_66 : decode cX2_reactAt 66 = .ok (.goto 13, 3) := by decide +kernel
theorem dX2_reactAt_69 : decode cX2_reactAt 69 = .ok (.aload_n 0, 1) := by decide +kernel
theorem dX2_reactAt_70 : decode cX2_reactAt 70 = .ok (.dup, 1) := by decide +kernel
theorem dX2_reactAt_71 : decode cX2_reactAt 71 = .ok (.getfield 56, 3) := by decide +kernel
theorem dX2_reactAt_74 : decode cX2_reactAt 74 = .ok (.iconst 1, 1) := by decide +kernel
theorem dX2_reactAt_75 : decode cX2_reactAt 75 = .ok (.iadd, 1) := by decide +kernel
theorem dX2_reactAt_76 : decode cX2_reactAt 76 = .ok (.putfield 56, 3) := by decide +kernel
theorem dX2_reactAt_79 : decode cX2_reactAt 79 = .ok (.aload_n 0, 1) := by decide +kernel
theorem dX2_reactAt_80 : decode cX2_reactAt 80 = .ok (.getfield 18, 3) := by decide +kernel
theorem dX2_reactAt_83 : decode cX2_reactAt 83 = .ok (.iload_n 1, 1) := by decide +kernel
theorem dX2_reactAt_84 : decode cX2_reactAt 84 = .ok (.iconst 0, 1) := by decide +kernel
theorem dX2_reactAt_85 : decode cX2_reactAt 85 = .ok (.iastore, 1) := by decide +kernel
theorem dX2_reactAt_86 : decode cX2_reactAt 86 = .ok (.iload_n 1, 1) := by decide +kernel
theorem dX2_reactAt_87 : decode cX2_reactAt 87 = .ok (.iload_n 3, 1) := by decide +kernel
theorem dX2_reactAt_88 : decode cX2_reactAt 88 = .ok (.if_icmp .le 16, 3) := by decide +kernel
theorem dX2_reactAt_91 : decode cX2_reactAt 91 = .ok (.aload_n 0, 1) := by decide +kernel
theorem dX2_reactAt_92 : decode cX2_reactAt 92 = .ok (.iload_n 1, 1) := by decide +kernel
theorem dX2_reactAt_93 : decode cX2_reactAt 93 = .ok (.iconst 1, 1) := by decide +kernel
theorem dX2_reactAt_94 : decode cX2_reactAt 94 = .ok (.isub, 1) := by decide +kernel
theorem dX2_reactAt_95 : decode cX2_reactAt 95 = .ok (.aload_n 0, 1) := by decide +kernel
theorem dX2_reactAt_96 : decode cX2_reactAt 96 = .ok (.getfield 9, 3) := by decide +kernel
theorem dX2_reactAt_99 : decode cX2_reactAt 99 = .ok (.iconst 1, 1) := by decide +kernel
theorem dX2_reactAt_100 : decode cX2_reactAt 100 = .ok (.iaload, 1) := by decide +kernel
theorem dX2_reactAt_101 : decode cX2_reactAt 101 = .ok (.invokevirtual 92, 3) := by decide +kernel
theorem dX2_reactAt_104 : decode cX2_reactAt 104 = .ok (.iload_n 1, 1) := by decide +kernel
theorem dX2_reactAt_105 : decode cX2_reactAt 105 = .ok (.iconst 1, 1) := by decide +kernel
theorem dX2_reactAt_106 : decode cX2_reactAt 106 = .ok (.iadd, 1) := by decide +kernel
theorem dX2_reactAt_107 : decode cX2_reactAt 107 = .ok (.iload 4, 2) := by decide +kernel
theorem dX2_reactAt_109 : decode cX2_reactAt 109 = .ok (.if_icmp .ge 16, 3) := by decide +kernel
theorem dX2_reactAt_112 : decode cX2_reactAt 112 = .ok (.aload_n 0, 1) := by decide +kernel
theorem dX2_reactAt_113 : decode cX2_reactAt 113 = .ok (.iload_n 1, 1) := by decide +kernel
theorem dX2_reactAt_114 : decode cX2_reactAt 114 = .ok (.iconst 1, 1) := by decide +kernel
theorem dX2_reactAt_115 : decode cX2_reactAt 115 = .ok (.iadd, 1) := by decide +kernel
theorem dX2_reactAt_116 : decode cX2_reactAt 116 = .ok (.aload_n 0, 1) := by decide +kernel
theorem dX2_reactAt_117 : decode cX2_reactAt 117 = .ok (.getfield 9, 3) := by decide +kernel
theorem dX2_reactAt_120 : decode cX2_reactAt 120 = .ok (.iconst 1, 1) := by decide +kernel
theorem dX2_reactAt_121 : decode cX2_reactAt 121 = .ok (.iaload, 1) := by decide +kernel
theorem dX2_reactAt_122 : decode cX2_reactAt 122 = .ok (.invokevirtual 92, 3) := by decide +kernel
theorem dX2_reactAt_125 : decode cX2_reactAt 125 = .ok (.return_, 1) := by decide +kernel
theorem dX2_split_0 : decode cX2_split 0 = .ok (.aload_n 0, 1) := by decide +kernel
theorem dX2_split_1 : decode cX2_split 1 = .ok (.getfield 43, 3) := by decide +kernel
theorem dX2_split_4 : decode cX2_split 4 = .ok (.iload_n 1, 1) := by decide +kernel
theorem dX2_split_5 : decode cX2_split 5 = .ok (.isub, 1) := by decide +kernel
theorem dX2_split_6 : decode cX2_split 6 = .ok (.istore_n 3, 1) := by decide +kernel
theorem dX2_split_7 : decode cX2_split 7 = .ok (.aload_n 0, 1) := by decide +kernel
theorem dX2_split_8 : decode cX2_split 8 = .ok (.getfield 21, 3) := by decide +kernel
theorem dX2_split_11 : decode cX2_split 11 = .ok (.iload_n 1, 1) := by decide +kernel
theorem dX2_split_12 : decode cX2_split 12 = .ok (.iconst 1, 1) := by decide +kernel
theorem dX2_split_13 : decode cX2_split 13 = .ok (.iadd, 1) := by decide +kernel
theorem dX2_split_14 : decode cX2_split 14 = .ok (.aload_n 0, 1) := by decide +kernel
theorem dX2_split_15 : decode cX2_split 15 = .ok (.getfield 21, 3) := by decide +kernel
theorem dX2_split_18 : decode cX2_split 18 = .ok (.iload_n 1, 1) := by decide +kernel
theorem dX2_split_19 : decode cX2_split 19 = .ok (.iconst 2, 1) := by decide +kernel
theorem dX2_split_20 : decode cX2_split 20 = .ok (.iadd, 1) := by decide +kernel
theorem dX2_split_21 : decode cX2_split 21 = .ok (.iload_n 3, 1) := by decide +kernel
theorem dX2_split_22 : decode cX2_split 22 = .ok (.invokestatic 37, 3) := by decide +kernel
theorem dX2_split_25 : decode cX2_split 25 = .ok (.aload_n 0, 1) := by decide +kernel
theorem dX2_split_26 : decode cX2_split 26 = .ok (.getfield 21, 3) := by decide +kernel
theorem dX2_split_29 : decode cX2_split 29 = .ok (.iload_n 1, 1) := by decide +kernel
theorem dX2_split_30 : decode cX2_split 30 = .ok (.iconst 1, 1) := by decide +kernel
theorem dX2_split_31 : decode cX2_split 31 = .ok (.iadd, 1) := by decide +kernel
theorem dX2_split_32 : decode cX2_split 32 = .ok (.iload_n 2, 1) := by decide +kernel
theorem dX2_split_33 : decode cX2_split 33 = .ok (.iastore, 1) := by decide +kernel
theorem dX2_split_34 : decode cX2_split 34 = .ok (.aload_n 0, 1) := by decide +kernel
theorem dX2_split_35 : decode cX2_split 35 = .ok (.getfield 24, 3) := by decide +kernel
theorem dX2_split_38 : decode cX2_split 38 = .ok (.iload_n 1, 1) := by decide +kernel
theorem dX2_split_39 : decode cX2_split 39 = .ok (.aload_n 0, 1) := by decide +kernel
theorem dX2_split_40 : decode cX2_split 40 = .ok (.getfield 24, 3) := by decide +kernel
theorem dX2_split_43 : decode cX2_split 43 = .ok (.iload_n 1, 1) := by decide +kernel
theorem dX2_split_44 : decode cX2_split 44 = .ok (.iconst 1, 1) := by decide +kernel
theorem dX2_split_45 : decode cX2_split 45 = .ok (.iadd, 1) := by decide +kernel
theorem dX2_split_46 : decode cX2_split 46 = .ok (.iload_n 3, 1) := by decide +kernel
theorem dX2_split_47 : decode cX2_split 47 = .ok (.invokestatic 37, 3) := by decide +kernel
theorem dX2_split_50 : decode cX2_split 50 = .ok (.aload_n 0, 1) := by decide +kernel
theorem dX2_split_51 : decode cX2_split 51 = .ok (.getfield 27, 3) := by decide +kernel
theorem dX2_split_54 : decode cX2_split 54 = .ok (.iload_n 1, 1) := by decide +kernel
theorem dX2_split_55 : decode cX2_split 55 = .ok (.aload_n 0, 1) := by decide +kernel
theorem dX2_split_56 : decode cX2_split 56 = .ok (.getfield 27, 3) := by decide +kernel
theorem dX2_split_59 : decode cX2_split 59 = .ok (.iload_n 1, 1) := by decide +kernel
theorem dX2_split_60 : decode cX2_split 60 = .ok (.iconst 1, 1) := by decide +kernel
theorem dX2_split_61 : decode cX2_split 61 = .ok (.iadd, 1) := by decide +kernel
theorem dX2_split_62 : decode cX2_split 62 = .ok (.iload_n 3, 1) := by decide +kernel
theorem dX2_split_63 : decode cX2_split 63 = .ok (.invokestatic 37, 3) := by decide +kernel
theorem dX2_split_66 : decode cX2_split 66 = .ok (.aload_n 0, 1) := by decide +kernel
theorem dX2_split_67 : decode cX2_split 67 = .ok (.getfield 27, 3) := by decide +kernel
theorem dX2_split_70 : decode cX2_split 70 = .ok (.iload_n 1, 1) := by decide +kernel
theorem dX2_split_71 : decode cX2_split 71 = .ok (.iconst 1, 1) := by decide +kernel
theorem dX2_split_72 : decode cX2_split 72 = .ok (.iadd, 1) := by decide +kernel
theorem dX2_split_73 : decode cX2_split 73 = .ok (.dup2, 1) := by decide +kernel
theorem dX2_split_74 : decode cX2_split 74 = .ok (.iaload, 1) := by decide +kernel
theorem dX2_split_75 : decode cX2_split 75 = .ok (.iconst 1, 1) := by decide +kernel
theorem dX2_split_76 : decode cX2_split 76 = .ok (.iadd, 1) := by decide +kernel
theorem dX2_split_77 : decode cX2_split 77 = .ok (.iastore, 1) := by decide +kernel
theorem dX2_split_78 : decode cX2_split 78 = .ok (.aload_n 0, 1) := by decide +kernel
theorem dX2_split_79 : decode cX2_split 79 = .ok (.dup, 1) := by decide +kernel
theorem dX2_split_80 : decode cX2_split 80 = .ok (.getfield 43, 3) := by decide +kernel
theorem dX2_split_83 : decode cX2_split 83 = .ok (.iconst 1, 1) := by decide +kernel
theorem dX2_split_84 : decode cX2_split 84 = .ok (.iadd, 1) := by decide +kernel
theorem dX2_split_85 : decode cX2_split 85 = .ok (.putfield 43, 3) := by decide +kernel
theorem dX2_split_88 : decode cX2_split 88 = .ok (.return_, 1) := by decide +kernel
theorem dX2_heatBetween_0 : decode cX2_heatBetween 0 = .ok (.iconst 0, 1) := by decide +kernel
theorem dX2_heatBetween_1 : decode cX2_heatBetween 1 = .ok (.istore_n 3, 1) := by decide +kernel
theorem dX2_heatBetween_2 : decode cX2_heatBetween 2 = .ok (.iload_n 1, 1) := by decide +kernel
theorem dX2_heatBetween_3 : decode cX2_heatBetween 3 = .ok (.istore 4, 2) := by decide +kernel
theorem dX2_heatBetween_5 : decode cX2_heatBetween 5 = .ok (.iload 4, 2) := by decide +kernel
theorem dX2_heatBetween_7 : decode cX2_heatBetween 7 = .ok (.iload_n 2, 1) := by decide +kernel
theorem dX2_heatBetween_8 : decode cX2_heatBetween 8 = .ok (.if_icmp .ge 19, 3) := by decide +kernel
theorem dX2_heatBetween_11 : decode cX2_heatBetween 11 = .ok (.iload_n 3, 1) := by decide +kernel
theorem dX2_heatBetween_12 : decode cX2_heatBetween 12 = .ok (.aload_n 0, 1) := by decide +kernel
theorem dX2_heatBetween_13 : decode cX2_heatBetween 13 = .ok (.getfield 18, 3) := by decide +kernel
theorem dX2_heatBetween_16 : decode cX2_heatBetween 16 = .ok (.iload 4, 2) := by decide +kernel
theorem dX2_heatBetween_18 : decode cX2_heatBetween 18 = .ok (.iaload, 1) := by decide +kernel
theorem dX2_heatBetween_19 : decode cX2_heatBetween 19 = .ok (.iadd, 1) := by decide +kernel
theorem dX2_heatBetween_20 : decode cX2_heatBetween 20 = .ok (.istore_n 3, 1) := by decide +kernel
theorem dX2_heatBetween_21 : decode cX2_heatBetween 21 = .ok (.iinc 4 1, 3) := by decide +kernel
theorem dX2_heatBetween_24 : decode cX2_heatBetween 24 = .ok (.goto (-19), 3) := by decide +kernel
theorem dX2_heatBetween_27 : decode cX2_heatBetween 27 = .ok (.iload_n 3, 1) := by decide +kernel
theorem dX2_heatBetween_28 : decode cX2_heatBetween 28 = .ok (.ireturn, 1) := by decide +kernel
set_option maxRecDepth 20000 in
theorem ggX2_heatOf_X2_heatBetween : GoodIn wsX2_heatOf wsX2_heatBetween := goodIn_r _ [6, 7, 8, 9, 10, 11, 12, 13, 14, 15, 16, 17, 18, 19] (by decide +kernel) (by decide +kernel)
set_option maxRecDepth 20000 in
theorem gX2_heatOf_X2_heatBetween : GoodIn wsX2_heatOf (wsV RX2 95 RX2 yX2_heatBetween wsX2_heatBetween) := goodIn_app (goodIn_of _ (by decide +kernel)) ggX2_heatOf_X2_heatBetween
theorem dX2_heatOf_0 : decode cX2_heatOf 0 = .ok (.aload_n 0, 1) := by decide +kernel
theorem dX2_heatOf_1 : decode cX2_heatOf 1 = .ok (.aload_n 0, 1) := by decide +kernel
theorem dX2_heatOf_2 : decode cX2_heatOf 2 = .ok (.getfield 21, 3) := by decide +kernel
theorem dX2_heatOf_5 : decode cX2_heatOf 5 = .ok (.iload_n 1, 1) := by decide +kernel
theorem dX2_heatOf_6 : decode cX2_heatOf 6 = .ok (.iaload, 1) := by decide +kernel
theorem dX2_heatOf_7 : decode cX2_heatOf 7 = .ok (.aload_n 0, 1) := by decide +kernel
theorem dX2_heatOf_8 : decode cX2_heatOf 8 = .ok (.getfield 21, 3) := by decide +kernel
theorem dX2_heatOf_11 : decode cX2_heatOf 11 = .ok (.iload_n 1, 1) := by decide +kernel
theorem dX2_heatOf_12 : decode cX2_heatOf 12 = .ok (.iconst 1, 1) := by decide +kernel
theorem dX2_heatOf_13 : decode cX2_heatOf 13 = .ok (.iadd, 1) := by decide +kernel
theorem dX2_heatOf_14 : decode cX2_heatOf 14 = .ok (.iaload, 1) := by decide +kernel
theorem dX2_heatOf_15 : decode cX2_heatOf 15 = .ok (.invokevirtual 95, 3) := by decide +kernel
theorem dX2_heatOf_18 : decode cX2_heatOf 18 = .ok (.ireturn, 1) := by decide +kernel
set_option maxRecDepth 20000 in
theorem ggX2_heatOfAll_X2_words : GoodIn wsX2_heatOfAll wsX2_words := goodIn_r _ [5, 6, 7, 13, 14, 15, 16, 17, 18, 19, 20, 21, 22, 23, 24] (by decide +kernel) (by decide +kernel)
set_option maxRecDepth 20000 in
theorem gX2_heatOfAll_X2_words : GoodIn wsX2_heatOfAll (wsV RX2 33 RX2 yX2_words wsX2_words) := goodIn_app (goodIn_of _ (by decide +kernel)) ggX2_heatOfAll_X2_words
set_option maxRecDepth 20000 in
theorem ggX2_heatOfAll_X2_heatBetween : GoodIn wsX2_heatOfAll wsX2_heatBetween := goodIn_r _ [11, 12, 13, 14, 15, 16, 17, 18, 19, 20, 21, 22, 23, 24] (by decide +kernel) (by decide +kernel)
set_option maxRecDepth 20000 in
theorem gX2_heatOfAll_X2_heatBetween : GoodIn wsX2_heatOfAll (wsV RX2 95 RX2 yX2_heatBetween wsX2_heatBetween) := goodIn_app (goodIn_of _ (by decide +kernel)) ggX2_heatOfAll_X2_heatBetween
theorem dX2_heatOfAll_0 : decode cX2_heatOfAll 0 = .ok (.aload_n 0, 1) := by decide +kernel
theorem dX2_heatOfAll_1 : decode cX2_heatOfAll 1 = .ok (.iconst 0, 1) := by decide +kernel
theorem dX2_heatOfAll_2 : decode cX2_heatOfAll 2 = .ok (.aload_n 0, 1) := by decide +kernel
theorem dX2_heatOfAll_3 : decode cX2_heatOfAll 3 = .ok (.invokevirtual 33, 3) := by decide +kernel
theorem dX2_heatOfAll_6 : decode cX2_heatOfAll 6 = .ok (.invokevirtual 95, 3) := by decide +kernel
theorem dX2_heatOfAll_9 : decode cX2_heatOfAll 9 = .ok (.ireturn, 1) := by decide +kernel
theorem dX2_timesBetween_0 : decode cX2_timesBetween 0 = .ok (.iconst 0, 1) := by decide +kernel
theorem dX2_timesBetween_1 : decode cX2_timesBetween 1 = .ok (.istore 4, 2) := by decide +kernel
theorem dX2_timesBetween_3 : decode cX2_timesBetween 3 = .ok (.iload_n 1, 1) := by decide +kernel
theorem dX2_timesBetween_4 : decode cX2_timesBetween 4 = .ok (.istore 5, 2) := by decide +kernel
theorem dX2_timesBetween_6 : decode cX2_timesBetween 6 = .ok (.iload 5, 2) := by decide +kernel
theorem dX2_timesBetween_8 : decode cX2_timesBetween 8 = .ok (.iload_n 2, 1) := by decide +kernel
theorem dX2_timesBetween_9 : decode cX2_timesBetween 9 = .ok (.if_icmp .ge 30, 3) := by decide +kernel
theorem dX2_timesBetween_12 : decode cX2_timesBetween 12 = .ok (.iload 4, 2) := by decide +kernel
theorem dX2_timesBetween_14 : decode cX2_timesBetween 14 = .ok (.aload_n 0, 1) := by decide +kernel
theorem dX2_timesBetween_15 : decode cX2_timesBetween 15 = .ok (.getfield 15, 3) := by decide +kernel
theorem dX2_timesBetween_18 : decode cX2_timesBetween 18 = .ok (.iload 5, 2) := by decide +kernel
theorem dX2_timesBetween_20 : decode cX2_timesBetween 20 = .ok (.iaload, 1) := by decide +kernel
theorem dX2_timesBetween_21 : decode cX2_timesBetween 21 = .ok (.iload_n 3, 1) := by decide +kernel
theorem dX2_timesBetween_22 : decode cX2_timesBetween 22 = .ok (.if_icmp .ne 7, 3) := by decide +kernel
theorem dX2_timesBetween_25 : decode cX2_timesBetween 25 = .ok (.iconst 1, 1) := by decide +kernel
theorem dX2_timesBetween_26 : decode cX2_timesBetween 26 = .ok (.goto 4, 3) := by decide +kernel
theorem dX2_timesBetween_29 : decode cX2_timesBetween 29 = .ok (.iconst 0, 1) := by decide +kernel
theorem dX2_timesBetween_30 : decode cX2_timesBetween 30 = .ok (.iadd, 1) := by decide +kernel
theorem dX2_timesBetween_31 : decode cX2_timesBetween 31 = .ok (.istore 4, 2) := by decide +kernel
theorem dX2_timesBetween_33 : decode cX2_timesBetween 33 = .ok (.iinc 5 1, 3) := by decide +kernel
theorem dX2_timesBetween_36 : decode cX2_timesBetween 36 = .ok (.goto (-30), 3) := by decide +kernel
theorem dX2_timesBetween_39 : decode cX2_timesBetween 39 = .ok (.iload 4, 2) := by decide +kernel
theorem dX2_timesBetween_41 : decode cX2_timesBetween 41 = .ok (.ireturn, 1) := by decide +kernel
set_option maxRecDepth 20000 in
theorem ggX2_timesIn_X2_timesBetween : GoodIn wsX2_timesIn wsX2_timesBetween := goodIn_r _ [6, 7, 8, 9, 10, 11, 12, 13, 14, 15, 16, 17, 18, 19] (by decide +kernel) (by decide +kernel)
set_option maxRecDepth 20000 in
theorem gX2_timesIn_X2_timesBetween : GoodIn wsX2_timesIn (wsV RX2 98 RX2 yX2_timesBetween wsX2_timesBetween) := goodIn_app (goodIn_of _ (by decide +kernel)) ggX2_timesIn_X2_timesBetween
theorem dX2_timesIn_0 : decode cX2_timesIn 0 = .ok (.aload_n 0, 1) := by decide +kernel
theorem dX2_timesIn_1 : decode cX2_timesIn 1 = .ok (.aload_n 0, 1) := by decide +kernel
theorem dX2_timesIn_2 : decode cX2_timesIn 2 = .ok (.getfield 21, 3) := by decide +kernel
theorem dX2_timesIn_5 : decode cX2_timesIn 5 = .ok (.iload_n 1, 1) := by decide +kernel
theorem dX2_timesIn_6 : decode cX2_timesIn 6 = .ok (.iaload, 1) := by decide +kernel
theorem dX2_timesIn_7 : decode cX2_timesIn 7 = .ok (.aload_n 0, 1) := by decide +kernel
theorem dX2_timesIn_8 : decode cX2_timesIn 8 = .ok (.getfield 21, 3) := by decide +kernel
theorem dX2_timesIn_11 : decode cX2_timesIn 11 = .ok (.iload_n 1, 1) := by decide +kernel
theorem dX2_timesIn_12 : decode cX2_timesIn 12 = .ok (.iconst 1, 1) := by decide +kernel
theorem dX2_timesIn_13 : decode cX2_timesIn 13 = .ok (.iadd, 1) := by decide +kernel
theorem dX2_timesIn_14 : decode cX2_timesIn 14 = .ok (.iaload, 1) := by decide +kernel
theorem dX2_timesIn_15 : decode cX2_timesIn 15 = .ok (.iload_n 2, 1) := by decide +kernel
theorem dX2_timesIn_16 : decode cX2_timesIn 16 = .ok (.invokevirtual 98, 3) := by decide +kernel
theorem dX2_timesIn_19 : decode cX2_timesIn 19 = .ok (.ireturn, 1) := by decide +kernel
set_option maxRecDepth 20000 in
theorem ggX2_timesInAll_X2_words : GoodIn wsX2_timesInAll wsX2_words := goodIn_r _ [5, 6, 7, 13, 14, 15, 16, 17, 18, 19, 20, 21, 22, 23, 24] (by decide +kernel) (by decide +kernel)
set_option maxRecDepth 20000 in
theorem gX2_timesInAll_X2_words : GoodIn wsX2_timesInAll (wsV RX2 33 RX2 yX2_words wsX2_words) := goodIn_app (goodIn_of _ (by decide +kernel)) ggX2_timesInAll_X2_words
set_option maxRecDepth 20000 in
theorem ggX2_timesInAll_X2_timesBetween : GoodIn wsX2_timesInAll wsX2_timesBetween := goodIn_r _ [11, 12, 13, 14, 15, 16, 17, 18, 19, 20, 21, 22, 23, 24] (by decide +kernel) (by decide +kernel)
set_option maxRecDepth 20000 in
theorem gX2_timesInAll_X2_timesBetween : GoodIn wsX2_timesInAll (wsV RX2 98 RX2 yX2_timesBetween wsX2_timesBetween) := goodIn_app (goodIn_of _ (by decide +kernel)) ggX2_timesInAll_X2_timesBetween
theorem dX2_timesInAll_0 : decode cX2_timesInAll 0 = .ok (.aload_n 0, 1) := by decide +kernel
theorem dX2_timesInAll_1 : decode cX2_timesInAll 1 = .ok (.iconst 0, 1) := by decide +kernel
theorem dX2_timesInAll_2 : decode cX2_timesInAll 2 = .ok (.aload_n 0, 1) := by decide +kernel
theorem dX2_timesInAll_3 : decode cX2_timesInAll 3 = .ok (.invokevirtual 33, 3) := by decide +kernel
theorem dX2_timesInAll_6 : decode cX2_timesInAll 6 = .ok (.iload_n 1, 1) := by decide +kernel
theorem dX2_timesInAll_7 : decode cX2_timesInAll 7 = .ok (.invokevirtual 98, 3) := by decide +kernel
theorem dX2_timesInAll_10 : decode cX2_timesInAll 10 = .ok (.ireturn, 1) := by decide +kernel
set_option maxRecDepth 20000 in
theorem ggX2_tallyOf_J7_fill_53178 : GoodIn wsX2_tallyOf wsJ7_fill_53178 := goodIn_r _ [7] (by decide +kernel) (by decide +kernel)
set_option maxRecDepth 20000 in
theorem gX2_tallyOf_J7_fill_53178 : GoodIn wsX2_tallyOf (va_wsS RX2 102 yJ7_fill_53178 wsJ7_fill_53178) := goodIn_app (goodIn_of _ (by decide +kernel)) ggX2_tallyOf_J7_fill_53178
theorem dX2_tallyOf_0 : decode cX2_tallyOf 0 = .ok (.aload_n 0, 1) := by decide +kernel
theorem dX2_tallyOf_1 : decode cX2_tallyOf 1 = .ok (.getfield 30, 3) := by decide +kernel
theorem dX2_tallyOf_4 : decode cX2_tallyOf 4 = .ok (.iconst 0, 1) := by decide +kernel
theorem dX2_tallyOf_5 : decode cX2_tallyOf 5 = .ok (.invokestatic 102, 3) := by decide +kernel
theorem dX2_tallyOf_8 : decode cX2_tallyOf 8 = .ok (.aload_n 0, 1) := by decide +kernel
theorem dX2_tallyOf_9 : decode cX2_tallyOf 9 = .ok (.getfield 21, 3) := by decide +kernel
theorem dX2_tallyOf_12 : decode cX2_tallyOf 12 = .ok (.iload_n 1, 1) := by decide +kernel
theorem dX2_tallyOf_13 : decode cX2_tallyOf 13 = .ok (.iaload, 1) := by decide +kernel
theorem dX2_tallyOf_14 : decode cX2_tallyOf 14 = .ok (.istore_n 2, 1) := by decide +kernel
theorem dX2_tallyOf_15 : decode cX2_tallyOf 15 = .ok (.iload_n 2, 1) := by decide +kernel
theorem dX2_tallyOf_16 : decode cX2_tallyOf 16 = .ok (.aload_n 0, 1) := by decide +kernel
theorem dX2_tallyOf_17 : decode cX2_tallyOf 17 = .ok (.getfield 21, 3) := by decide +kernel
theorem dX2_tallyOf_20 : decode cX2_tallyOf 20 = .ok (.iload_n 1, 1) := by decide +kernel
theorem dX2_tallyOf_21 : decode cX2_tallyOf 21 = .ok (.iconst 1, 1) := by decide +kernel
theorem dX2_tallyOf_22 : decode cX2_tallyOf 22 = .ok (.iadd, 1) := by decide +kernel
theorem dX2_tallyOf_23 : decode cX2_tallyOf 23 = .ok (.iaload, 1) := by decide +kernel
theorem dX2_tallyOf_24 : decode cX2_tallyOf 24 = .ok (.if_icmp .ge 24, 3) := by decide +kernel
theorem dX2_tallyOf_27 : decode cX2_tallyOf 27 = .ok (.aload_n 0, 1) := by decide +kernel
theorem dX2_tallyOf_28 : decode cX2_tallyOf 28 = .ok (.getfield 30, 3) := by decide +kernel
theorem dX2_tallyOf_31 : decode cX2_tallyOf 31 = .ok (.aload_n 0, 1) := by decide +kernel
theorem dX2_tallyOf_32 : decode cX2_tallyOf 32 = .ok (.getfield 15, 3) := by decide +kernel
theorem dX2_tallyOf_35 : decode cX2_tallyOf 35 = .ok (.iload_n 2, 1) := by decide +kernel
theorem dX2_tallyOf_36 : decode cX2_tallyOf 36 = .ok (.iaload, 1) := by decide +kernel
theorem dX2_tallyOf_37 : decode cX2_tallyOf 37 = .ok (.dup2, 1) := by decide +kernel
theorem dX2_tallyOf_38 : decode cX2_tallyOf 38 = .ok (.iaload, 1) := by decide +kernel
theorem dX2_tallyOf_39 : decode cX2_tallyOf 39 = .ok (.iconst 1, 1) := by decide +kernel
theorem dX2_tallyOf_40 : decode cX2_tallyOf 40 = .ok (.iadd, 1) := by decide +kernel
theorem dX2_tallyOf_41 : decode cX2_tallyOf 41 = .ok (.iastore, 1) := by decide +kernel
theorem dX2_tallyOf_42 : decode cX2_tallyOf 42 = .ok (.iinc 2 1, 3) := by decide +kernel
theorem dX2_tallyOf_45 : decode cX2_tallyOf 45 = .ok (.goto (-30), 3) := by decide +kernel
theorem dX2_tallyOf_48 : decode cX2_tallyOf 48 = .ok (.return_, 1) := by decide +kernel
set_option maxRecDepth 20000 in
theorem ggX2_themeOf_X2_tallyOf : GoodIn wsX2_themeOf wsX2_tallyOf := goodIn_r _ [6, 1, 7, 8, 9, 10, 11, 12, 13, 14, 15, 16, 17, 18, 19, 20, 21, 22, 23, 24] (by decide +kernel) (by decide +kernel)
set_option maxRecDepth 20000 in
theorem gX2_themeOf_X2_tallyOf : GoodIn wsX2_themeOf (wsV RX2 108 RX2 yX2_tallyOf wsX2_tallyOf) := goodIn_app (goodIn_of _ (by decide +kernel)) ggX2_themeOf_X2_tallyOf
theorem dX2_themeOf_0 : decode cX2_themeOf 0 = .ok (.aload_n 0, 1) := by decide +kernel
theorem dX2_themeOf_1 : decode cX2_themeOf 1 = .ok (.iload_n 1, 1) := by decide +kernel
theorem dX2_themeOf_2 : decode cX2_themeOf 2 = .ok (.invokevirtual 108, 3) := by decide +kernel
theorem dX2_themeOf_5 : decode cX2_themeOf 5 = .ok (.iconst 0, 1) := by decide +kernel
theorem dX2_themeOf_6 : decode cX2_themeOf 6 = .ok (.istore_n 2, 1) := by decide +kernel
theorem dX2_themeOf_7 : decode cX2_themeOf 7 = .ok (.iconst 1, 1) := by decide +kernel
theorem dX2_themeOf_8 : decode cX2_themeOf 8 = .ok (.istore_n 3, 1) := by decide +kernel
theorem dX2_themeOf_9 : decode cX2_themeOf 9 = .ok (.iload_n 3, 1) := by decide +kernel
theorem dX2_themeOf_10 : decode cX2_themeOf 10 = .ok (.bipush 26, 2) := by decide +kernel
theorem dX2_themeOf_12 : decode cX2_themeOf 12 = .ok (.if_icmp .ge 30, 3) := by decide +kernel
theorem dX2_themeOf_15 : decode cX2_themeOf 15 = .ok (.aload_n 0, 1) := by decide +kernel
theorem dX2_themeOf_16 : decode cX2_themeOf 16 = .ok (.getfield 30, 3) := by decide +kernel
theorem dX2_themeOf_19 : decode cX2_themeOf 19 = .ok (.iload_n 3, 1) := by decide +kernel
theorem dX2_themeOf_20 : decode cX2_themeOf 20 = .ok (.iaload, 1) := by decide +kernel
theorem dX2_themeOf_21 : decode cX2_themeOf 21 = .ok (.aload_n 0, 1) := by decide +kernel
theorem dX2_themeOf_22 : decode cX2_themeOf 22 = .ok (.getfield 30, 3) := by decide +kernel
theorem dX2_themeOf_25 : decode cX2_themeOf 25 = .ok (.iload_n 2, 1) := by decide +kernel
theorem dX2_themeOf_26 : decode cX2_themeOf 26 = .ok (.iaload, 1) := by decide +kernel
theorem dX2_themeOf_27 : decode cX2_themeOf 27 = .ok (.if_icmp .le 7, 3) := by decide +kernel
theorem dX2_themeOf_30 : decode cX2_themeOf 30 = .ok (.iload_n 3, 1) := by decide +kernel
theorem dX2_themeOf_31 : decode cX2_themeOf 31 = .ok (.goto 4, 3) := by decide +kernel
theorem dX2_themeOf_34 : decode cX2_themeOf 34 = .ok (.iload_n 2, 1) := by decide +kernel
theorem dX2_themeOf_35 : decode cX2_themeOf 35 = .ok (.istore_n 2, 1) := by decide +kernel
theorem dX2_themeOf_36 : decode cX2_themeOf 36 = .ok (.iinc 3 1, 3) := by decide +kernel
theorem dX2_themeOf_39 : decode cX2_themeOf 39 = .ok (.goto (-30), 3) := by decide +kernel
theorem dX2_themeOf_42 : decode cX2_themeOf 42 = .ok (.iload_n 2, 1) := by decide +kernel
theorem dX2_themeOf_43 : decode cX2_themeOf 43 = .ok (.ireturn, 1) := by decide +kernel
set_option maxRecDepth 20000 in
theorem ggX2_unlikeLettersOf_X2_tallyOf : GoodIn wsX2_unlikeLettersOf wsX2_tallyOf := goodIn_r _ [6, 1, 7, 8, 9, 10, 11, 12, 13, 14, 15, 16, 17, 18, 19, 20, 21, 22, 23, 24] (by decide +kernel) (by decide +kernel)
set_option maxRecDepth 20000 in
theorem gX2_unlikeLettersOf_X2_tallyOf : GoodIn wsX2_unlikeLettersOf (wsV RX2 108 RX2 yX2_tallyOf wsX2_tallyOf) := goodIn_app (goodIn_of _ (by decide +kernel)) ggX2_unlikeLettersOf_X2_tallyOf
theorem dX2_unlikeLettersOf_0 : decode cX2_unlikeLettersOf 0 = .ok (.aload_n 0, 1) := by decide +kernel
theorem dX2_unlikeLettersOf_1 : decode cX2_unlikeLettersOf 1 = .ok (.iload_n 1, 1) := by decide +kernel
theorem dX2_unlikeLettersOf_2 : decode cX2_unlikeLettersOf 2 = .ok (.invokevirtual 108, 3) := by decide +kernel
theorem dX2_unlikeLettersOf_5 : decode cX2_unlikeLettersOf 5 = .ok (.iconst 0, 1) := by decide +kernel
theorem dX2_unlikeLettersOf_6 : decode cX2_unlikeLettersOf 6 = .ok (.istore_n 2, 1) := by decide +kernel
theorem dX2_unlikeLettersOf_7 : decode cX2_unlikeLettersOf 7 = .ok (.iconst 0, 1) := by decide +kernel
theorem dX2_unlikeLettersOf_8 : decode cX2_unlikeLettersOf 8 = .ok (.istore_n 3, 1) := by decide +kernel
theorem dX2_unlikeLettersOf_9 : decode cX2_unlikeLettersOf 9 = .ok (.iload_n 3, 1) := by decide +kernel
theorem dX2_unlikeLettersOf_10 : decode cX2_unlikeLettersOf 10 = .ok (.bipush 26, 2) := by decide +kernel
theorem dX2_unlikeLettersOf_12 : decode cX2_unlikeLettersOf 12 = .ok (.if_icmp .ge 26, 3) := by decide +kernel
theorem dX2_unlikeLettersOf_15 : decode cX2_unlikeLettersOf 15 = .ok (.iload_n 2, 1) := by decide +kernel
theorem dX2_unlikeLettersOf_16 : decode cX2_unlikeLettersOf 16 = .ok (.aload_n 0, 1) := by decide +kernel
theorem dX2_unlikeLettersOf_17 : decode cX2_unlikeLettersOf 17 = .ok (.getfield 30, 3) := by decide +kernel
theorem dX2_unlikeLettersOf_20 : decode cX2_unlikeLettersOf 20 = .ok (.iload_n 3, 1) := by decide +kernel
theorem dX2_unlikeLettersOf_21 : decode cX2_unlikeLettersOf 21 = .ok (.iaload, 1) := by decide +kernel
theorem dX2_unlikeLettersOf_22 : decode cX2_unlikeLettersOf 22 = .ok (.ifCond .le 7, 3) := by decide +kernel
theorem dX2_unlikeLettersOf_25 : decode cX2_unlikeLettersOf 25 = .ok (.iconst 1, 1) := by decide +kernel
theorem dX2_unlikeLettersOf_26 : decode cX2_unlikeLettersOf 26 = .ok (.goto 4, 3) := by decide +kernel
theorem dX2_unlikeLettersOf_29 : decode cX2_unlikeLettersOf 29 = .ok (.iconst 0, 1) := by decide +kernel
theorem dX2_unlikeLettersOf_30 : decode cX2_unlikeLettersOf 30 = .ok (.iadd, 1) := by decide +kernel
theorem dX2_unlikeLettersOf_31 : decode cX2_unlikeLettersOf 31 = .ok (.istore_n 2, 1) := by decide +kernel
theorem dX2_unlikeLettersOf_32 : decode cX2_unlikeLettersOf 32 = .ok (.iinc 3 1, 3) := by decide +kernel
theorem dX2_unlikeLettersOf_35 : decode cX2_unlikeLettersOf 35 = .ok (.goto (-26), 3) := by decide +kernel
theorem dX2_unlikeLettersOf_38 : decode cX2_unlikeLettersOf 38 = .ok (.iload_n 2, 1) := by decide +kernel
theorem dX2_unlikeLettersOf_39 : decode cX2_unlikeLettersOf 39 = .ok (.ireturn, 1) := by decide +kernel
theorem dX2_hottestOf_0 : decode cX2_hottestOf 0 = .ok (.aload_n 0, 1) := by decide +kernel
theorem dX2_hottestOf_1 : decode cX2_hottestOf 1 = .ok (.getfield 21, 3) := by decide +kernel
theorem dX2_hottestOf_4 : decode cX2_hottestOf 4 = .ok (.iload_n 1, 1) := by decide +kernel
theorem dX2_hottestOf_5 : decode cX2_hottestOf 5 = .ok (.iaload, 1) := by decide +kernel
theorem dX2_hottestOf_6 : decode cX2_hottestOf 6 = .ok (.istore_n 2, 1) := by decide +kernel
theorem dX2_hottestOf_7 : decode cX2_hottestOf 7 = .ok (.aload_n 0, 1) := by decide +kernel
theorem dX2_hottestOf_8 : decode cX2_hottestOf 8 = .ok (.getfield 21, 3) := by decide +kernel
theorem dX2_hottestOf_11 : decode cX2_hottestOf 11 = .ok (.iload_n 1, 1) := by decide +kernel
theorem dX2_hottestOf_12 : decode cX2_hottestOf 12 = .ok (.iaload, 1) := by decide +kernel
theorem dX2_hottestOf_13 : decode cX2_hottestOf 13 = .ok (.istore_n 3, 1) := by decide +kernel
theorem dX2_hottestOf_14 : decode cX2_hottestOf 14 = .ok (.iload_n 3, 1) := by decide +kernel
theorem dX2_hottestOf_15 : decode cX2_hottestOf 15 = .ok (.aload_n 0, 1) := by decide +kernel
theorem dX2_hottestOf_16 : decode cX2_hottestOf 16 = .ok (.getfield 21, 3) := by decide +kernel
theorem dX2_hottestOf_19 : decode cX2_hottestOf 19 = .ok (.iload_n 1, 1) := by decide +kernel
theorem dX2_hottestOf_20 : decode cX2_hottestOf 20 = .ok (.iconst 1, 1) := by decide +kernel
theorem dX2_hottestOf_21 : decode cX2_hottestOf 21 = .ok (.iadd, 1) := by decide +kernel
theorem dX2_hottestOf_22 : decode cX2_hottestOf 22 = .ok (.iaload, 1) := by decide +kernel
theorem dX2_hottestOf_23 : decode cX2_hottestOf 23 = .ok (.if_icmp .ge 30, 3) := by decide +kernel
theorem dX2_hottestOf_26 : decode cX2_hottestOf 26 = .ok (.aload_n 0, 1) := by decide +kernel
theorem dX2_hottestOf_27 : decode cX2_hottestOf 27 = .ok (.getfield 18, 3) := by decide +kernel
theorem dX2_hottestOf_30 : decode cX2_hottestOf 30 = .ok (.iload_n 3, 1) := by decide +kernel
theorem dX2_hottestOf_31 : decode cX2_hottestOf 31 = .ok (.iaload, 1) := by decide +kernel
theorem dX2_hottestOf_32 : decode cX2_hottestOf 32 = .ok (.aload_n 0, 1) := by decide +kernel
theorem dX2_hottestOf_33 : decode cX2_hottestOf 33 = .ok (.getfield 18, 3) := by decide +kernel
theorem dX2_hottestOf_36 : decode cX2_hottestOf 36 = .ok (.iload_n 2, 1) := by decide +kernel
theorem dX2_hottestOf_37 : decode cX2_hottestOf 37 = .ok (.iaload, 1) := by decide +kernel
theorem dX2_hottestOf_38 : decode cX2_hottestOf 38 = .ok (.if_icmp .le 7, 3) := by decide +kernel
theorem dX2_hottestOf_41 : decode cX2_hottestOf 41 = .ok (.iload_n 3, 1) := by decide +kernel
theorem dX2_hottestOf_42 : decode cX2_hottestOf 42 = .ok (.goto 4, 3) := by decide +kernel
theorem dX2_hottestOf_45 : decode cX2_hottestOf 45 = .ok (.iload_n 2, 1) := by decide +kernel
theorem dX2_hottestOf_46 : decode cX2_hottestOf 46 = .ok (.istore_n 2, 1) := by decide +kernel
theorem dX2_hottestOf_47 : decode cX2_hottestOf 47 = .ok (.iinc 3 1, 3) := by decide +kernel
theorem dX2_hottestOf_50 : decode cX2_hottestOf 50 = .ok (.goto (-36), 3) := by decide +kernel
theorem dX2_hottestOf_53 : decode cX2_hottestOf 53 = .ok (.iload_n 2, 1) := by decide +kernel
theorem dX2_hottestOf_54 : decode cX2_hottestOf 54 = .ok (.aload_n 0, 1) := by decide +kernel
theorem dX2_hottestOf_55 : decode cX2_hottestOf 55 = .ok (.getfield 21, 3) := by decide +kernel
theorem dX2_hottestOf_58 : decode cX2_hottestOf 58 = .ok (.iload_n 1, 1) := by decide +kernel
theorem dX2_hottestOf_59 : decode cX2_hottestOf 59 = .ok (.iaload, 1) := by decide +kernel
theorem dX2_hottestOf_60 : decode cX2_hottestOf 60 = .ok (.isub, 1) := by decide +kernel
theorem dX2_hottestOf_61 : decode cX2_hottestOf 61 = .ok (.ireturn, 1) := by decide +kernel
set_option maxRecDepth 20000 in
theorem ggX2_readsFromBothEnds_X2_sizeOf : GoodIn wsX2_readsFromBothEnds wsX2_sizeOf := goodIn_r _ [7, 1, 8, 9, 10, 11, 12, 13, 14, 15, 16, 17, 18, 19] (by decide +kernel) (by decide +kernel)
set_option maxRecDepth 20000 in
theorem gX2_readsFromBothEnds_X2_sizeOf : GoodIn wsX2_readsFromBothEnds (wsV RX2 67 RX2 yX2_sizeOf wsX2_sizeOf) := goodIn_app (goodIn_of _ (by decide +kernel)) ggX2_readsFromBothEnds_X2_sizeOf
theorem dX2_readsFromBothEnds_0 : decode cX2_readsFromBothEnds 0 = .ok (.aload_n 0, 1) := by decide +kernel
theorem dX2_readsFromBothEnds_1 : decode cX2_readsFromBothEnds 1 = .ok (.getfield 21, 3) := by decide +kernel
theorem dX2_readsFromBothEnds_4 : decode cX2_readsFromBothEnds 4 = .ok (.iload_n 1, 1) := by decide +kernel
theorem dX2_readsFromBothEnds_5 : decode cX2_readsFromBothEnds 5 = .ok (.iconst 1, 1) := by decide +kernel
theorem dX2_readsFromBothEnds_6 : decode cX2_readsFromBothEnds 6 = .ok (.iadd, 1) := by decide +kernel
theorem dX2_readsFromBothEnds_7 : decode cX2_readsFromBothEnds 7 = .ok (.iaload, 1) := by decide +kernel
theorem dX2_readsFromBothEnds_8 : decode cX2_readsFromBothEnds 8 = .ok (.iconst 1, 1) := by decide +kernel
theorem dX2_readsFromBothEnds_9 : decode cX2_readsFromBothEnds 9 = .ok (.isub, 1) := by decide +kernel
theorem dX2_readsFromBothEnds_10 : decode cX2_readsFromBothEnds 10 = .ok (.istore_n 2, 1) := by decide +kernel
theorem dX2_readsFromBothEnds_11 : decode cX2_readsFromBothEnds 11 = .ok (.iconst 0, 1) := by decide +kernel
theorem dX2_readsFromBothEnds_12 : decode cX2_readsFromBothEnds 12 = .ok (.istore_n 3, 1) := by decide +kernel
theorem dX2_readsFromBothEnds_13 : decode cX2_readsFromBothEnds 13 = .ok (.iload_n 3, 1) := by decide +kernel
theorem dX2_readsFromBothEnds_14 : decode cX2_readsFromBothEnds 14 = .ok (.aload_n 0, 1) := by decide +kernel
theorem dX2_readsFromBothEnds_15 : decode cX2_readsFromBothEnds 15 = .ok (.iload_n 1, 1) := by decide +kernel
theorem dX2_readsFromBothEnds_16 : decode cX2_readsFromBothEnds 16 = .ok (.invokevirtual 67, 3) := by decide +kernel
theorem dX2_readsFromBothEnds_19 : decode cX2_readsFromBothEnds 19 = .ok (.iconst 2, 1) := by decide +kernel
theorem dX2_readsFromBothEnds_20 : decode cX2_readsFromBothEnds 20 = .ok (.idiv, 1) := by decide +kernel
theorem dX2_readsFromBothEnds_21 : decode cX2_readsFromBothEnds 21 = .ok (.if_icmp .ge 35, 3) := by decide +kernel
theorem dX2_readsFromBothEnds_24 : decode cX2_readsFromBothEnds 24 = .ok (.aload_n 0, 1) := by decide +kernel
theorem dX2_readsFromBothEnds_25 : decode cX2_readsFromBothEnds 25 = .ok (.getfield 15, 3) := by decide +kernel
theorem dX2_readsFromBothEnds_28 : decode cX2_readsFromBothEnds 28 = .ok (.aload_n 0, 1) := by decide +kernel
theorem dX2_readsFromBothEnds_29 : decode cX2_readsFromBothEnds 29 = .ok (.getfield 21, 3) := by decide +kernel
theorem dX2_readsFromBothEnds_32 : decode cX2_readsFromBothEnds 32 = .ok (.iload_n 1, 1) := by decide +kernel
theorem dX2_readsFromBothEnds_33 : decode cX2_readsFromBothEnds 33 = .ok (.iaload, 1) := by decide +kernel
theorem dX2_readsFromBothEnds_34 : decode cX2_readsFromBothEnds 34 = .ok (.iload_n 3, 1) := by decide +kernel
theorem dX2_readsFromBothEnds_35 : decode cX2_readsFromBothEnds 35 = .ok (.iadd, 1) := by decide +kernel
theorem dX2_readsFromBothEnds_36 : decode cX2_readsFromBothEnds 36 = .ok (.iaload, 1) := by decide +kernel
theorem dX2_readsFromBothEnds_37 : decode cX2_readsFromBothEnds 37 = .ok (.aload_n 0, 1) := by decide +kernel
theorem dX2_readsFromBothEnds_38 : decode cX2_readsFromBothEnds 38 = .ok (.getfield 15, 3) := by decide +kernel
theorem dX2_readsFromBothEnds_41 : decode cX2_readsFromBothEnds 41 = .ok (.iload_n 2, 1) := by decide +kernel
theorem dX2_readsFromBothEnds_42 : decode cX2_readsFromBothEnds 42 = .ok (.iload_n 3, 1) := by decide +kernel
theorem dX2_readsFromBothEnds_43 : decode cX2_readsFromBothEnds 43 = .ok (.isub, 1) := by decide +kernel
theorem dX2_readsFromBothEnds_44 : decode cX2_readsFromBothEnds 44 = .ok (.iaload, 1) := by decide +kernel
theorem dX2_readsFromBothEnds_45 : decode cX2_readsFromBothEnds 45 = .ok (.if_icmp .eq 5, 3) := by decide +kernel
theorem dX2_readsFromBothEnds_48 : decode cX2_readsFromBothEnds 48 = .ok (.iconst 0, 1) := by decide +kernel
theorem dX2_readsFromBothEnds_49 : decode cX2_readsFromBothEnds 49 = .ok (.ireturn, 1) := by decide +kernel
theorem dX2_readsFromBothEnds_50 : decode cX2_readsFromBothEnds 50 = .ok (.iinc 3 1, 3) := by decide +kernel
theorem dX2_readsFromBothEnds_53 : decode cX2_readsFromBothEnds 53 = .ok (.goto (-40), 3) := by decide +kernel
theorem dX2_readsFromBothEnds_56 : decode cX2_readsFromBothEnds 56 = .ok (.iconst 1, 1) := by decide +kernel
theorem dX2_readsFromBothEnds_57 : decode cX2_readsFromBothEnds 57 = .ok (.ireturn, 1) := by decide +kernel
set_option maxRecDepth 20000 in
theorem ggX2_unlikeFamilies_X2_isFirstOfFamily : GoodIn wsX2_unlikeFamilies wsX2_isFirstOfFamily := goodIn_r _ [6, 7, 8, 9, 10, 11, 12, 13, 14, 15, 16, 17, 18, 19] (by decide +kernel) (by decide +kernel)
set_option maxRecDepth 20000 in
theorem gX2_unlikeFamilies_X2_isFirstOfFamily : GoodIn wsX2_unlikeFamilies (wsV RX2 111 RX2 yX2_isFirstOfFamily wsX2_isFirstOfFamily) := goodIn_app (goodIn_of _ (by decide +kernel)) ggX2_unlikeFamilies_X2_isFirstOfFamily
theorem dX2_unlikeFamilies_0 : decode cX2_unlikeFamilies 0 = .ok (.iconst 0, 1) := by decide +kernel
theorem dX2_unlikeFamilies_1 : decode cX2_unlikeFamilies 1 = .ok (.istore_n 1, 1) := by decide +kernel
theorem dX2_unlikeFamilies_2 : decode cX2_unlikeFamilies 2 = .ok (.iconst 0, 1) := by decide +kernel
theorem dX2_unlikeFamilies_3 : decode cX2_unlikeFamilies 3 = .ok (.istore_n 2, 1) := by decide +kernel
theorem dX2_unlikeFamilies_4 : decode cX2_unlikeFamilies 4 = .ok (.iload_n 2, 1) := by decide +kernel
theorem dX2_unlikeFamilies_5 : decode cX2_unlikeFamilies 5 = .ok (.aload_n 0, 1) := by decide +kernel
theorem dX2_unlikeFamilies_6 : decode cX2_unlikeFamilies 6 = .ok (.getfield 43, 3) := by decide +kernel
theorem dX2_unlikeFamilies_9 : decode cX2_unlikeFamilies 9 = .ok (.if_icmp .ge 25, 3) := by decide +kernel
theorem dX2_unlikeFamilies_12 : decode cX2_unlikeFamilies 12 = .ok (.iload_n 1, 1) := by decide +kernel
theorem dX2_unlikeFamilies_13 : decode cX2_unlikeFamilies 13 = .ok (.aload_n 0, 1) := by decide +kernel
theorem dX2_unlikeFamilies_14 : decode cX2_unlikeFamilies 14 = .ok (.iload_n 2, 1) := by decide +kernel
theorem dX2_unlikeFamilies_15 : decode cX2_unlikeFamilies 15 = .ok (.invokevirtual 111, 3) := by decide +kernel
theorem dX2_unlikeFamilies_18 : decode cX2_unlikeFamilies 18 = .ok (.ifCond .eq 7, 3) := by decide +kernel
theorem dX2_unlikeFamilies_21 : decode cX2_unlikeFamilies 21 = .ok (.iconst 1, 1) := by decide +kernel
theorem dX2_unlikeFamilies_22 : decode cX2_unlikeFamilies 22 = .ok (.goto 4, 3) := by decide +kernel
theorem dX2_unlikeFamilies_25 : decode cX2_unlikeFamilies 25 = .ok (.iconst 0, 1) := by decide +kernel
theorem dX2_unlikeFamilies_26 : decode cX2_unlikeFamilies 26 = .ok (.iadd, 1) := by decide +kernel
theorem dX2_unlikeFamilies_27 : decode cX2_unlikeFamilies 27 = .ok (.istore_n 1, 1) := by decide +kernel
theorem dX2_unlikeFamilies_28 : decode cX2_unlikeFamilies 28 = .ok (.iinc 2 1, 3) := by decide +kernel
theorem dX2_unlikeFamilies_31 : decode cX2_unlikeFamilies 31 = .ok (.goto (-27), 3) := by decide +kernel
theorem dX2_unlikeFamilies_34 : decode cX2_unlikeFamilies 34 = .ok (.iload_n 1, 1) := by decide +kernel
theorem dX2_unlikeFamilies_35 : decode cX2_unlikeFamilies 35 = .ok (.ireturn, 1) := by decide +kernel
theorem dX2_isFirstOfFamily_0 : decode cX2_isFirstOfFamily 0 = .ok (.iconst 0, 1) := by decide +kernel
theorem dX2_isFirstOfFamily_1 : decode cX2_isFirstOfFamily 1 = .ok (.istore_n 2, 1) := by decide +kernel
theorem dX2_isFirstOfFamily_2 : decode cX2_isFirstOfFamily 2 = .ok (.iload_n 2, 1) := by decide +kernel
theorem dX2_isFirstOfFamily_3 : decode cX2_isFirstOfFamily 3 = .ok (.iload_n 1, 1) := by decide +kernel
theorem dX2_isFirstOfFamily_4 : decode cX2_isFirstOfFamily 4 = .ok (.if_icmp .ge 26, 3) := by decide +kernel
theorem dX2_isFirstOfFamily_7 : decode cX2_isFirstOfFamily 7 = .ok (.aload_n 0, 1) := by decide +kernel
theorem dX2_isFirstOfFamily_8 : decode cX2_isFirstOfFamily 8 = .ok (.getfield 24, 3) := by decide +kernel
theorem dX2_isFirstOfFamily_11 : decode cX2_isFirstOfFamily 11 = .ok (.iload_n 2, 1) := by decide +kernel
theorem dX2_isFirstOfFamily_12 : decode cX2_isFirstOfFamily 12 = .ok (.iaload, 1) := by decide +kernel
theorem dX2_isFirstOfFamily_13 : decode cX2_isFirstOfFamily 13 = .ok (.aload_n 0, 1) := by decide +kernel
theorem dX2_isFirstOfFamily_14 : decode cX2_isFirstOfFamily 14 = .ok (.getfield 24, 3) := by decide +kernel
theorem dX2_isFirstOfFamily_17 : decode cX2_isFirstOfFamily 17 = .ok (.iload_n 1, 1) := by decide +kernel
theorem dX2_isFirstOfFamily_18 : decode cX2_isFirstOfFamily 18 = .ok (.iaload, 1) := by decide +kernel
theorem dX2_isFirstOfFamily_19 : decode cX2_isFirstOfFamily 19 = .ok (.if_icmp .ne 5, 3) := by decide +kernel
theorem dX2_isFirstOfFamily_22 : decode cX2_isFirstOfFamily 22 = .ok (.iconst 0, 1) := by decide +kernel
theorem dX2_isFirstOfFamily_23 : decode cX2_isFirstOfFamily 23 = .ok (.ireturn, 1) := by decide +kernel
theorem dX2_isFirstOfFamily_24 : decode cX2_isFirstOfFamily 24 = .ok (.iinc 2 1, 3) := by decide +kernel
theorem dX2_isFirstOfFamily_27 : decode cX2_isFirstOfFamily 27 = .ok (.goto (-25), 3) := by decide +kernel
theorem dX2_isFirstOfFamily_30 : decode cX2_isFirstOfFamily 30 = .ok (.iconst 1, 1) := by decide +kernel
theorem dX2_isFirstOfFamily_31 : decode cX2_isFirstOfFamily 31 = .ok (.ireturn, 1) := by decide +kernel
theorem dX2_greatestGeneration_0 : decode cX2_greatestGeneration 0 = .ok (.bipush (-6), 2) := by decide +kernel
theorem dX2_greatestGeneration_2 : decode cX2_greatestGeneration 2 = .ok (.istore_n 1, 1) := by decide +kernel
theorem dX2_greatestGeneration_3 : decode cX2_greatestGeneration 3 = .ok (.iconst 0, 1) := by decide +kernel
theorem dX2_greatestGeneration_4 : decode cX2_greatestGeneration 4 = .ok (.istore_n 2, 1) := by decide +kernel
theorem dX2_greatestGeneration_5 : decode cX2_greatestGeneration 5 = .ok (.iload_n 2, 1) := by decide +kernel
theorem dX2_greatestGeneration_6 : decode cX2_greatestGeneration 6 = .ok (.aload_n 0, 1) := by decide +kernel
theorem dX2_greatestGeneration_7 : decode cX2_greatestGeneration 7 = .ok (.getfield 43, 3) := by decide +kernel
theorem dX2_greatestGeneration_10 : decode cX2_greatestGeneration 10 = .ok (.if_icmp .ge 20, 3) := by decide +kernel
theorem dX2_greatestGeneration_13 : decode cX2_greatestGeneration 13 = .ok (.iload_n 1, 1) := by decide +kernel
theorem dX2_greatestGeneration_14 : decode cX2_greatestGeneration 14 = .ok (.aload_n 0, 1) := by decide +kernel
theorem dX2_greatestGeneration_15 : decode cX2_greatestGeneration 15 = .ok (.getfield 27, 3) := by decide +kernel
theorem dX2_greatestGeneration_18 : decode cX2_greatestGeneration 18 = .ok (.iload_n 2, 1) := by decide +kernel
theorem dX2_greatestGeneration_19 : decode cX2_greatestGeneration 19 = .ok (.iaload, 1) := by decide +kernel
theorem dX2_greatestGeneration_20 : decode cX2_greatestGeneration 20 = .ok (.invokestatic 85, 3) := by decide +kernel
theorem dX2_greatestGeneration_23 : decode cX2_greatestGeneration 23 = .ok (.istore_n 1, 1) := by decide +kernel
theorem dX2_greatestGeneration_24 : decode cX2_greatestGeneration 24 = .ok (.iinc 2 1, 3) := by decide +kernel
theorem dX2_greatestGeneration_27 : decode cX2_greatestGeneration 27 = .ok (.goto (-22), 3) := by decide +kernel
theorem dX2_greatestGeneration_30 : decode cX2_greatestGeneration 30 = .ok (.iload_n 1, 1) := by decide +kernel
theorem dX2_greatestGeneration_31 : decode cX2_greatestGeneration 31 = .ok (.ireturn, 1) := by decide +kernel
set_option maxRecDepth 20000 in
theorem ggX2_storiesWith_X2_timesIn : GoodIn wsX2_storiesWith wsX2_timesIn := goodIn_r _ [6, 7, 8, 9, 10, 5, 11, 12, 13, 14, 15, 16, 17, 18, 19, 20, 21, 22, 23, 24] (by decide +kernel) (by decide +kernel)
set_option maxRecDepth 20000 in
theorem gX2_storiesWith_X2_timesIn : GoodIn wsX2_storiesWith (wsV RX2 114 RX2 yX2_timesIn wsX2_timesIn) := goodIn_app (goodIn_of _ (by decide +kernel)) ggX2_storiesWith_X2_timesIn
theorem dX2_storiesWith_0 : decode cX2_storiesWith 0 = .ok (.iconst 0, 1) := by decide +kernel
theorem dX2_storiesWith_1 : decode cX2_storiesWith 1 = .ok (.istore_n 2, 1) := by decide +kernel
theorem dX2_storiesWith_2 : decode cX2_storiesWith 2 = .ok (.iconst 0, 1) := by decide +kernel
theorem dX2_storiesWith_3 : decode cX2_storiesWith 3 = .ok (.istore_n 3, 1) := by decide +kernel
theorem dX2_storiesWith_4 : decode cX2_storiesWith 4 = .ok (.iload_n 3, 1) := by decide +kernel
theorem dX2_storiesWith_5 : decode cX2_storiesWith 5 = .ok (.aload_n 0, 1) := by decide +kernel
theorem dX2_storiesWith_6 : decode cX2_storiesWith 6 = .ok (.getfield 43, 3) := by decide +kernel
theorem dX2_storiesWith_9 : decode cX2_storiesWith 9 = .ok (.if_icmp .ge 26, 3) := by decide +kernel
theorem dX2_storiesWith_12 : decode cX2_storiesWith 12 = .ok (.iload_n 2, 1) := by decide +kernel
theorem dX2_storiesWith_13 : decode cX2_storiesWith 13 = .ok (.aload_n 0, 1) := by decide +kernel
theorem dX2_storiesWith_14 : decode cX2_storiesWith 14 = .ok (.iload_n 3, 1) := by decide +kernel
theorem dX2_storiesWith_15 : decode cX2_storiesWith 15 = .ok (.iload_n 1, 1) := by decide +kernel
theorem dX2_storiesWith_16 : decode cX2_storiesWith 16 = .ok (.invokevirtual 114, 3) := by decide +kernel
theorem dX2_storiesWith_19 : decode cX2_storiesWith 19 = .ok (.ifCond .le 7, 3) := by decide +kernel
theorem dX2_storiesWith_22 : decode cX2_storiesWith 22 = .ok (.iconst 1, 1) := by decide +kernel
theorem dX2_storiesWith_23 : decode cX2_storiesWith 23 = .ok (.goto 4, 3) := by decide +kernel
theorem dX2_storiesWith_26 : decode cX2_storiesWith 26 = .ok (.iconst 0, 1) := by decide +kernel
theorem dX2_storiesWith_27 : decode cX2_storiesWith 27 = .ok (.iadd, 1) := by decide +kernel
theorem dX2_storiesWith_28 : decode cX2_storiesWith 28 = .ok (.istore_n 2, 1) := by decide +kernel
theorem dX2_storiesWith_29 : decode cX2_storiesWith 29 = .ok (.iinc 3 1, 3) := by decide +kernel
theorem dX2_storiesWith_32 : decode cX2_storiesWith 32 = .ok (.goto (-28), 3) := by decide +kernel
theorem dX2_storiesWith_35 : decode cX2_storiesWith 35 = .ok (.iload_n 2, 1) := by decide +kernel
theorem dX2_storiesWith_36 : decode cX2_storiesWith 36 = .ok (.ireturn, 1) := by decide +kernel
set_option maxRecDepth 20000 in
theorem ggX2_storiesOfTheme_X2_themeOf : GoodIn wsX2_storiesOfTheme wsX2_themeOf := goodIn_r _ [6, 7, 8, 9, 10, 5, 11, 12, 13, 14, 15, 16, 17, 18, 19, 20, 21, 22, 23, 24, 25, 26, 27, 28, 29] (by decide +kernel) (by decide +kernel)
set_option maxRecDepth 20000 in
theorem gX2_storiesOfTheme_X2_themeOf : GoodIn wsX2_storiesOfTheme (wsV RX2 117 RX2 yX2_themeOf wsX2_themeOf) := goodIn_app (goodIn_of _ (by decide +kernel)) ggX2_storiesOfTheme_X2_themeOf
theorem dX2_storiesOfTheme_0 : decode cX2_storiesOfTheme 0 = .ok (.iconst 0, 1) := by decide +kernel
theorem dX2_storiesOfTheme_1 : decode cX2_storiesOfTheme 1 = .ok (.istore_n 2, 1) := by decide +kernel
theorem dX2_storiesOfTheme_2 : decode cX2_storiesOfTheme 2 = .ok (.iconst 0, 1) := by decide +kernel
theorem dX2_storiesOfTheme_3 : decode cX2_storiesOfTheme 3 = .ok (.istore_n 3, 1) := by decide +kernel
theorem dX2_storiesOfTheme_4 : decode cX2_storiesOfTheme 4 = .ok (.iload_n 3, 1) := by decide +kernel
theorem dX2_storiesOfTheme_5 : decode cX2_storiesOfTheme 5 = .ok (.aload_n 0, 1) := by decide +kernel
theorem dX2_storiesOfTheme_6 : decode cX2_storiesOfTheme 6 = .ok (.getfield 43, 3) := by decide +kernel
theorem dX2_storiesOfTheme_9 : decode cX2_storiesOfTheme 9 = .ok (.if_icmp .ge 26, 3) := by decide +kernel
theorem dX2_storiesOfTheme_12 : decode cX2_storiesOfTheme 12 = .ok (.iload_n 2, 1) := by decide +kernel
theorem dX2_storiesOfTheme_13 : decode cX2_storiesOfTheme 13 = .ok (.aload_n 0, 1) := by decide +kernel
theorem dX2_storiesOfTheme_14 : decode cX2_storiesOfTheme 14 = .ok (.iload_n 3, 1) := by decide +kernel
theorem dX2_storiesOfTheme_15 : decode cX2_storiesOfTheme 15 = .ok (.invokevirtual 117, 3) := by decide +kernel
theorem dX2_storiesOfTheme_18 : decode cX2_storiesOfTheme 18 = .ok (.iload_n 1, 1) := by decide +kernel
theorem dX2_storiesOfTheme_19 : decode cX2_storiesOfTheme 19 = .ok (.if_icmp .ne 7, 3) := by decide +kernel
theorem dX2_storiesOfTheme_22 : decode cX2_storiesOfTheme 22 = .ok (.iconst 1, 1) := by decide +kernel
theorem dX2_storiesOfTheme_23 : decode cX2_storiesOfTheme 23 = .ok (.goto 4, 3) := by decide +kernel
theorem dX2_storiesOfTheme_26 : decode cX2_storiesOfTheme 26 = .ok (.iconst 0, 1) := by decide +kernel
theorem dX2_storiesOfTheme_27 : decode cX2_storiesOfTheme 27 = .ok (.iadd, 1) := by decide +kernel
theorem dX2_storiesOfTheme_28 : decode cX2_storiesOfTheme 28 = .ok (.istore_n 2, 1) := by decide +kernel
theorem dX2_storiesOfTheme_29 : decode cX2_storiesOfTheme 29 = .ok (.iinc 3 1, 3) := by decide +kernel
theorem dX2_storiesOfTheme_32 : decode cX2_storiesOfTheme 32 = .ok (.goto (-28), 3) := by decide +kernel
theorem dX2_storiesOfTheme_35 : decode cX2_storiesOfTheme 35 = .ok (.iload_n 2, 1) := by decide +kernel
theorem dX2_storiesOfTheme_36 : decode cX2_storiesOfTheme 36 = .ok (.ireturn, 1) := by decide +kernel
set_option maxRecDepth 20000 in
theorem ggX2_heatOfLetter_X2_words : GoodIn wsX2_heatOfLetter wsX2_words := goodIn_r _ [7, 8, 9, 10, 11, 12, 13, 14, 15, 16, 17, 18, 19, 20, 21] (by decide +kernel) (by decide +kernel)
set_option maxRecDepth 20000 in
theorem gX2_heatOfLetter_X2_words : GoodIn wsX2_heatOfLetter (wsV RX2 33 RX2 yX2_words wsX2_words) := goodIn_app (goodIn_of _ (by decide +kernel)) ggX2_heatOfLetter_X2_words
theorem dX2_heatOfLetter_0 : decode cX2_heatOfLetter 0 = .ok (.iconst 0, 1) := by decide +kernel
theorem dX2_heatOfLetter_1 : decode cX2_heatOfLetter 1 = .ok (.istore_n 2, 1) := by decide +kernel
theorem dX2_heatOfLetter_2 : decode cX2_heatOfLetter 2 = .ok (.iconst 0, 1) := by decide +kernel
theorem dX2_heatOfLetter_3 : decode cX2_heatOfLetter 3 = .ok (.istore_n 3, 1) := by decide +kernel
theorem dX2_heatOfLetter_4 : decode cX2_heatOfLetter 4 = .ok (.iload_n 3, 1) := by decide +kernel
theorem dX2_heatOfLetter_5 : decode cX2_heatOfLetter 5 = .ok (.aload_n 0, 1) := by decide +kernel
theorem dX2_heatOfLetter_6 : decode cX2_heatOfLetter 6 = .ok (.invokevirtual 33, 3) := by decide +kernel
theorem dX2_heatOfLetter_9 : decode cX2_heatOfLetter 9 = .ok (.if_icmp .ge 32, 3) := by decide +kernel
theorem dX2_heatOfLetter_12 : decode cX2_heatOfLetter 12 = .ok (.iload_n 2, 1) := by decide +kernel
theorem dX2_heatOfLetter_13 : decode cX2_heatOfLetter 13 = .ok (.aload_n 0, 1) := by decide +kernel
theorem dX2_heatOfLetter_14 : decode cX2_heatOfLetter 14 = .ok (.getfield 15, 3) := by decide +kernel
theorem dX2_heatOfLetter_17 : decode cX2_heatOfLetter 17 = .ok (.iload_n 3, 1) := by decide +kernel
theorem dX2_heatOfLetter_18 : decode cX2_heatOfLetter 18 = .ok (.iaload, 1) := by decide +kernel
theorem dX2_heatOfLetter_19 : decode cX2_heatOfLetter 19 = .ok (.iload_n 1, 1) := by decide +kernel
theorem dX2_heatOfLetter_20 : decode cX2_heatOfLetter 20 = .ok (.if_icmp .ne 12, 3) := by decide +kernel
theorem dX2_heatOfLetter_23 : decode cX2_heatOfLetter 23 = .ok (.aload_n 0, 1) := by decide +kernel
theorem dX2_heatOfLetter_24 : decode cX2_heatOfLetter 24 = .ok (.getfield 18, 3) := by decide +kernel
theorem dX2_heatOfLetter_27 : decode cX2_heatOfLetter 27 = .ok (.iload_n 3, 1) := by decide +kernel
theorem dX2_heatOfLetter_28 : decode cX2_heatOfLetter 28 = .ok (.iaload, 1) := by decide +kernel
theorem dX2_heatOfLetter_29 : decode cX2_heatOfLetter 29 = .ok (.goto 4, 3) := by decide +kernel
theorem dX2_heatOfLetter_32 : decode cX2_heatOfLetter 32 = .ok (.iconst 0, 1) := by decide +kernel
theorem dX2_heatOfLetter_33 : decode cX2_heatOfLetter 33 = .ok (.iadd, 1) := by decide +kernel
theorem dX2_heatOfLetter_34 : decode cX2_heatOfLetter 34 = .ok (.istore_n 2, 1) := by decide +kernel
theorem dX2_heatOfLetter_35 : decode cX2_heatOfLetter 35 = .ok (.iinc 3 1, 3) := by decide +kernel
theorem dX2_heatOfLetter_38 : decode cX2_heatOfLetter 38 = .ok (.goto (-34), 3) := by decide +kernel
theorem dX2_heatOfLetter_41 : decode cX2_heatOfLetter 41 = .ok (.iload_n 2, 1) := by decide +kernel
theorem dX2_heatOfLetter_42 : decode cX2_heatOfLetter 42 = .ok (.ireturn, 1) := by decide +kernel
set_option maxRecDepth 20000 in
theorem ggX2_isPair_X2_storyAt : GoodIn wsX2_isPair wsX2_storyAt := goodIn_r _ [6, 7, 8, 9, 10, 11, 12, 13, 14, 15, 16, 17, 18, 19, 20] (by decide +kernel) (by decide +kernel)
set_option maxRecDepth 20000 in
theorem gX2_isPair_X2_storyAt : GoodIn wsX2_isPair (wsV RX2 71 RX2 yX2_storyAt wsX2_storyAt) := goodIn_app (goodIn_of _ (by decide +kernel)) ggX2_isPair_X2_storyAt
theorem dX2_isPair_0 : decode cX2_isPair 0 = .ok (.aload_n 0, 1) := by decide +kernel
theorem dX2_isPair_1 : decode cX2_isPair 1 = .ok (.getfield 15, 3) := by decide +kernel
theorem dX2_isPair_4 : decode cX2_isPair 4 = .ok (.iload_n 1, 1) := by decide +kernel
theorem dX2_isPair_5 : decode cX2_isPair 5 = .ok (.iaload, 1) := by decide +kernel
theorem dX2_isPair_6 : decode cX2_isPair 6 = .ok (.iload_n 2, 1) := by decide +kernel
theorem dX2_isPair_7 : decode cX2_isPair 7 = .ok (.if_icmp .ne 34, 3) := by decide +kernel
theorem dX2_isPair_10 : decode cX2_isPair 10 = .ok (.aload_n 0, 1) := by decide +kernel
theorem dX2_isPair_11 : decode cX2_isPair 11 = .ok (.getfield 15, 3) := by decide +kernel
theorem dX2_isPair_14 : decode cX2_isPair 14 = .ok (.iload_n 1, 1) := by decide +kernel
theorem dX2_isPair_15 : decode cX2_isPair 15 = .ok (.iconst 1, 1) := by decide +kernel
theorem dX2_isPair_16 : decode cX2_isPair 16 = .ok (.iadd, 1) := by decide +kernel
theorem dX2_isPair_17 : decode cX2_isPair 17 = .ok (.iaload, 1) := by decide +kernel
theorem dX2_isPair_18 : decode cX2_isPair 18 = .ok (.iload_n 3, 1) := by decide +kernel
theorem dX2_isPair_19 : decode cX2_isPair 19 = .ok (.if_icmp .ne 22, 3) := by decide +kernel
theorem dX2_isPair_22 : decode cX2_isPair 22 = .ok (.aload_n 0, 1) := by decide +kernel
theorem dX2_isPair_23 : decode cX2_isPair 23 = .ok (.iload_n 1, 1) := by decide +kernel
theorem dX2_isPair_24 : decode cX2_isPair 24 = .ok (.invokevirtual 71, 3) := by decide +kernel
theorem dX2_isPair_27 : decode cX2_isPair 27 = .ok (.aload_n 0, 1) := by decide +kernel
theorem dX2_isPair_28 : decode cX2_isPair 28 = .ok (.iload_n 1, 1) := by decide +kernel
theorem dX2_isPair_29 : decode cX2_isPair 29 = .ok (.iconst 1, 1) := by decide +kernel
theorem dX2_isPair_30 : decode cX2_isPair 30 = .ok (.iadd, 1) := by decide +kernel
theorem dX2_isPair_31 : decode cX2_isPair 31 = .ok (.invokevirtual 71, 3) := by decide +kernel
theorem dX2_isPair_34 : decode cX2_isPair 34 = .ok (.if_icmp .ne 7, 3) := by decide +kernel
theorem dX2_isPair_37 : decode cX2_isPair 37 = .ok (.iconst 1, 1) := by decide +kernel
theorem dX2_isPair_38 : decode cX2_isPair 38 = .ok (.goto 4, 3) := by decide +kernel
theorem dX2_isPair_41 : decode cX2_isPair 41 = .ok (.iconst 0, 1) := by decide +kernel
theorem dX2_isPair_42 : decode cX2_isPair 42 = .ok (.ireturn, 1) := by decide +kernel
set_option maxRecDepth 20000 in
theorem ggX3_init_X2_init : GoodIn wsX3_init wsX2_init := goodIn_r _ [25, 26, 2, 3, 20, 27, 28, 29, 30, 31, 32, 33, 45, 46, 47, 48, 49, 50, 51, 52, 53, 54, 55, 56] (by decide +kernel) (by decide +kernel)
set_option maxRecDepth 20000 in
theorem gX3_init_X2_init_n9 : GoodIn wsX3_init (wsX2_init) := ggX3_init_X2_init
set_option maxRecDepth 20000 in
theorem ggX3_init_X0_init : GoodIn wsX3_init wsX0_init := goodIn_r _ [36, 37, 2, 3, 38, 39, 5, 6, 24, 25, 26, 20, 27, 28, 29, 30, 31, 32, 33, 66, 67, 68, 45, 46, 47, 48, 49, 50, 51, 52, 53, 54, 55, 56] (by decide +kernel) (by decide +kernel)
set_option maxRecDepth 20000 in
theorem gX3_init_X0_init : GoodIn wsX3_init (wsX0_init) := ggX3_init_X0_init
set_option maxRecDepth 20000 in
theorem ggX3_init_X1_init : GoodIn wsX3_init wsX1_init := goodIn_r _ [41, 42, 2, 3, 43, 44, 69, 70] (by decide +kernel) (by decide +kernel)
set_option maxRecDepth 20000 in
theorem gX3_init_X1_init_n36 : GoodIn wsX3_init (wsX1_init) := ggX3_init_X1_init
theorem dX3_init_0 : decode cX3_init 0 = .ok (.aload_n 0, 1) := by decide +kernel
theorem dX3_init_1 : decode cX3_init 1 = .ok (.invokespecial 1, 3) := by decide +kernel
theorem dX3_init_4 : decode cX3_init 4 = .ok (.aload_n 0, 1) := by decide +kernel
theorem dX3_init_5 : decode cX3_init 5 = .ok (.new 7, 3) := by decide +kernel
theorem dX3_init_8 : decode cX3_init 8 = .ok (.dup, 1) := by decide +kernel
theorem dX3_init_9 : decode cX3_init 9 = .ok (.invokespecial 9, 3) := by decide +kernel
theorem dX3_init_12 : decode cX3_init 12 = .ok (.putfield 10, 3) := by decide +kernel
theorem dX3_init_15 : decode cX3_init 15 = .ok (.aload_n 0, 1) := by decide +kernel
theorem dX3_init_16 : decode cX3_init 16 = .ok (.new 7, 3) := by decide +kernel
theorem dX3_init_19 : decode cX3_init 19 = .ok (.dup, 1) := by decide +kernel
theorem dX3_init_20 : decode cX3_init 20 = .ok (.invokespecial 9, 3) := by decide +kernel
theorem dX3_init_23 : decode cX3_init 23 = .ok (.putfield 16, 3) := by decide +kernel
theorem dX3_init_26 : decode cX3_init 26 = .ok (.aload_n 0, 1) := by decide +kernel
theorem dX3_init_27 : decode cX3_init 27 = .ok (.new 19, 3) := by decide +kernel
theorem dX3_init_30 : decode cX3_init 30 = .ok (.dup, 1) := by decide +kernel
theorem dX3_init_31 : decode cX3_init 31 = .ok (.invokespecial 21, 3) := by decide +kernel
theorem dX3_init_34 : decode cX3_init 34 = .ok (.putfield 22, 3) := by decide +kernel
theorem dX3_init_37 : decode cX3_init 37 = .ok (.aload_n 0, 1) := by decide +kernel
theorem dX3_init_38 : decode cX3_init 38 = .ok (.iconst 2, 1) := by decide +kernel
theorem dX3_init_39 : decode cX3_init 39 = .ok (.anewarray 7, 3) := by decide +kernel
theorem dX3_init_42 : decode cX3_init 42 = .ok (.putfield 26, 3) := by decide +kernel
theorem dX3_init_45 : decode cX3_init 45 = .ok (.aload_n 0, 1) := by decide +kernel
theorem dX3_init_46 : decode cX3_init 46 = .ok (.iconst 2, 1) := by decide +kernel
theorem dX3_init_47 : decode cX3_init 47 = .ok (.newarray .boolean, 2) := by decide +kernel
theorem dX3_init_49 : decode cX3_init 49 = .ok (.putfield 30, 3) := by decide +kernel
theorem dX3_init_52 : decode cX3_init 52 = .ok (.aload_n 0, 1) := by decide +kernel
theorem dX3_init_53 : decode cX3_init 53 = .ok (.new 34, 3) := by decide +kernel
theorem dX3_init_56 : decode cX3_init 56 = .ok (.dup, 1) := by decide +kernel
theorem dX3_init_57 : decode cX3_init 57 = .ok (.invokespecial 36, 3) := by decide +kernel
theorem dX3_init_60 : decode cX3_init 60 = .ok (.putfield 37, 3) := by decide +kernel
theorem dX3_init_63 : decode cX3_init 63 = .ok (.aload_n 0, 1) := by decide +kernel
theorem dX3_init_64 : decode cX3_init 64 = .ok (.sipush 150, 3) := by decide +kernel
theorem dX3_init_67 : decode cX3_init 67 = .ok (.newarray .int, 2) := by decide +kernel
theorem dX3_init_69 : decode cX3_init 69 = .ok (.putfield 41, 3) := by decide +kernel
theorem dX3_init_72 : decode cX3_init 72 = .ok (.aload_n 0, 1) := by decide +kernel
theorem dX3_init_73 : decode cX3_init 73 = .ok (.bipush 12, 2) := by decide +kernel
theorem dX3_init_75 : decode cX3_init 75 = .ok (.newarray .int, 2) := by decide +kernel
theorem dX3_init_77 : decode cX3_init 77 = .ok (.putfield 45, 3) := by decide +kernel
theorem dX3_init_80 : decode cX3_init 80 = .ok (.aload_n 0, 1) := by decide +kernel
theorem dX3_init_81 : decode cX3_init 81 = .ok (.bipush 12, 2) := by decide +kernel
theorem dX3_init_83 : decode cX3_init 83 = .ok (.newarray .int, 2) := by decide +kernel
theorem dX3_init_85 : decode cX3_init 85 = .ok (.putfield 48, 3) := by decide +kernel
theorem dX3_init_88 : decode cX3_init 88 = .ok (.iconst 0, 1) := by decide +kernel
theorem dX3_init_89 : decode cX3_init 89 = .ok (.istore_n 1, 1) := by decide +kernel
theorem dX3_init_90 : decode cX3_init 90 = .ok (.iload_n 1, 1) := by decide +kernel
theorem dX3_init_91 : decode cX3_init 91 = .ok (.iconst 2, 1) := by decide +kernel
theorem dX3_init_92 : decode cX3_init 92 = .ok (.if_icmp .ge 22, 3) := by decide +kernel
theorem dX3_init_95 : decode cX3_init 95 = .ok (.aload_n 0, 1) := by decide +kernel
theorem dX3_init_96 : decode cX3_init 96 = .ok (.getfield 26, 3) := by decide +kernel
theorem dX3_init_99 : decode cX3_init 99 = .ok (.iload_n 1, 1) := by decide +kernel
theorem dX3_init_100 : decode cX3_init 100 = .ok (.new 7, 3) := by decide +kernel
theorem dX3_init_103 : decode cX3_init 103 = .ok (.dup, 1) := by decide +kernel
theorem dX3_init_104 : decode cX3_init 104 = .ok (.invokespecial 9, 3) := by decide +kernel
theorem dX3_init_107 : decode cX3_init 107 = .ok (.aastore, 1) := by decide +kernel
theorem dX3_init_108 : decode cX3_init 108 = .ok (.iinc 1 1, 3) := by decide +kernel
theorem dX3_init_111 : decode cX3_init 111 = .ok (.goto (-21), 3) := by decide +kernel
theorem dX3_init_114 : decode cX3_init 114 = .ok (.return_, 1) := by decide +kernel
set_option maxRecDepth 20000 in
theorem ggX3_set_X3_isWithin : GoodIn wsX3_set wsX3_isWithin := goodIn_r _ [9] (by decide +kernel) (by decide +kernel)
set_option maxRecDepth 20000 in
theorem gX3_set_X3_isWithin : GoodIn wsX3_set (va_wsS RX3 51 yX3_isWithin wsX3_isWithin) := goodIn_app (goodIn_of _ (by decide +kernel)) ggX3_set_X3_isWithin
set_option maxRecDepth 20000 in
theorem ggX3_set_X0_record : GoodIn wsX3_set wsX0_record := goodIn_r _ [14, 15, 16, 17, 18, 19, 20, 21, 22, 23, 24, 25, 26, 27, 28, 29, 30, 31, 32, 33, 34, 35, 36, 37, 38, 39, 40, 41, 63, 64, 65, 51, 52, 53, 54, 55, 56, 57, 58, 59, 60, 61, 62] (by decide +kernel) (by decide +kernel)
set_option maxRecDepth 20000 in
theorem gX3_set_X0_record : GoodIn wsX3_set (wsV RX3 61 RX0 yX0_record wsX0_record) := goodIn_app (goodIn_of _ (by decide +kernel)) ggX3_set_X0_record
theorem dX3_set_0 : decode cX3_set 0 = .ok (.iload_n 1, 1) := by decide +kernel
theorem dX3_set_1 : decode cX3_set 1 = .ok (.iconst 0, 1) := by decide +kernel
theorem dX3_set_2 : decode cX3_set 2 = .ok (.iconst 2, 1) := by decide +kernel
theorem dX3_set_3 : decode cX3_set 3 = .ok (.invokestatic 51, 3) := by decide +kernel
theorem dX3_set_6 : decode cX3_set 6 = .ok (.ifCond .eq 20, 3) := by decide +kernel
theorem dX3_set_9 : decode cX3_set 9 = .ok (.iload_n 2, 1) := by decide +kernel
theorem dX3_set_10 : decode cX3_set 10 = .ok (.getstatic 55, 3) := by decide +kernel
theorem dX3_set_13 : decode cX3_set 13 = .ok (.iload_n 1, 1) := by decide +kernel
theorem dX3_set_14 : decode cX3_set 14 = .ok (.iaload, 1) := by decide +kernel
theorem dX3_set_15 : decode cX3_set 15 = .ok (.getstatic 58, 3) := by decide +kernel
theorem dX3_set_18 : decode cX3_set 18 = .ok (.iload_n 1, 1) := by decide +kernel
theorem dX3_set_19 : decode cX3_set 19 = .ok (.iaload, 1) := by decide +kernel
theorem dX3_set_20 : decode cX3_set 20 = .ok (.invokestatic 51, 3) := by decide +kernel
theorem dX3_set_23 : decode cX3_set 23 = .ok (.ifCond .ne 6, 3) := by decide +kernel
theorem dX3_set_26 : decode cX3_set 26 = .ok (.bipush (-2), 2) := by decide +kernel
theorem dX3_set_28 : decode cX3_set 28 = .ok (.ireturn, 1) := by decide +kernel
theorem dX3_set_29 : decode cX3_set 29 = .ok (.aload_n 0, 1) := by decide +kernel
theorem dX3_set_30 : decode cX3_set 30 = .ok (.getfield 22, 3) := by decide +kernel
theorem dX3_set_33 : decode cX3_set 33 = .ok (.aload_n 0, 1) := by decide +kernel
theorem dX3_set_34 : decode cX3_set 34 = .ok (.getfield 10, 3) := by decide +kernel
theorem dX3_set_37 : decode cX3_set 37 = .ok (.invokevirtual 61, 3) := by decide +kernel
theorem dX3_set_40 : decode cX3_set 40 = .ok (.aload_n 0, 1) := by decide +kernel
theorem dX3_set_41 : decode cX3_set 41 = .ok (.getfield 10, 3) := by decide +kernel
theorem dX3_set_44 : decode cX3_set 44 = .ok (.getfield 65, 3) := by decide +kernel
theorem dX3_set_47 : decode cX3_set 47 = .ok (.iload_n 1, 1) := by decide +kernel
theorem dX3_set_48 : decode cX3_set 48 = .ok (.iaload, 1) := by decide +kernel
theorem dX3_set_49 : decode cX3_set 49 = .ok (.istore_n 3, 1) := by decide +kernel
theorem dX3_set_50 : decode cX3_set 50 = .ok (.aload_n 0, 1) := by decide +kernel
theorem dX3_set_51 : decode cX3_set 51 = .ok (.getfield 10, 3) := by decide +kernel
theorem dX3_set_54 : decode cX3_set 54 = .ok (.getfield 65, 3) := by decide +kernel
theorem dX3_set_57 : decode cX3_set 57 = .ok (.iload_n 1, 1) := by decide +kernel
theorem dX3_set_58 : decode cX3_set 58 = .ok (.iload_n 2, 1) := by decide +kernel
theorem dX3_set_59 : decode cX3_set 59 = .ok (.iastore, 1) := by decide +kernel
theorem dX3_set_60 : decode cX3_set 60 = .ok (.iload_n 3, 1) := by decide +kernel
theorem dX3_set_61 : decode cX3_set 61 = .ok (.ireturn, 1) := by decide +kernel
set_option maxRecDepth 20000 in
theorem ggX3_write_X1_firstFault : GoodIn wsX3_write wsX1_firstFault := goodIn_r _ [10, 11, 12, 13, 14, 9, 15, 16, 17, 18, 19, 20, 21, 128, 129] (by decide +kernel) (by decide +kernel)
set_option maxRecDepth 20000 in
theorem gX3_write_X1_firstFault : GoodIn wsX3_write (wsV RX3 68 RX1 yX1_firstFault wsX1_firstFault) := goodIn_app (goodIn_of _ (by decide +kernel)) ggX3_write_X1_firstFault
set_option maxRecDepth 20000 in
theorem ggX3_write_X1_storiesIn : GoodIn wsX3_write wsX1_storiesIn := goodIn_r _ [25, 11, 12, 128, 129] (by decide +kernel) (by decide +kernel)
set_option maxRecDepth 20000 in
theorem gX3_write_X1_storiesIn : GoodIn wsX3_write (wsV RX3 76 RX1 yX1_storiesIn wsX1_storiesIn) := goodIn_app (goodIn_of _ (by decide +kernel)) ggX3_write_X1_storiesIn
set_option maxRecDepth 20000 in
theorem ggX3_write_X2_words : GoodIn wsX3_write wsX2_words := goodIn_r _ [30, 31, 32, 116, 117, 118, 119, 120, 121, 122, 123, 124, 125, 126, 127] (by decide +kernel) (by decide +kernel)
set_option maxRecDepth 20000 in
theorem gX3_write_X2_words : GoodIn wsX3_write (wsV RX3 79 RX2 yX2_words wsX2_words) := goodIn_app (goodIn_of _ (by decide +kernel)) ggX3_write_X2_words
set_option maxRecDepth 20000 in
theorem ggX3_write_X1_wordsIn : GoodIn wsX3_write wsX1_wordsIn := goodIn_r _ [36, 11, 12, 16, 17, 9, 18, 19, 20, 21, 128, 129] (by decide +kernel) (by decide +kernel)
set_option maxRecDepth 20000 in
theorem gX3_write_X1_wordsIn : GoodIn wsX3_write (wsV RX3 82 RX1 yX1_wordsIn wsX1_wordsIn) := goodIn_app (goodIn_of _ (by decide +kernel)) ggX3_write_X1_wordsIn
set_option maxRecDepth 20000 in
theorem ggX3_write_X0_record : GoodIn wsX3_write wsX0_record := goodIn_r _ [41, 42, 43, 44, 45, 46, 47, 29, 48, 49, 50, 51, 52, 53, 54, 55, 31, 32, 56, 57, 58, 59, 60, 61, 62, 27, 28, 30, 130, 131, 132, 116, 117, 118, 119, 120, 121, 122, 123, 124, 125, 126, 127] (by decide +kernel) (by decide +kernel)
set_option maxRecDepth 20000 in
theorem gX3_write_X0_record : GoodIn wsX3_write (wsV RX3 61 RX0 yX0_record wsX0_record) := goodIn_app (goodIn_of _ (by decide +kernel)) ggX3_write_X0_record
set_option maxRecDepth 20000 in
theorem ggX3_write_X1_writeTo : GoodIn wsX3_write wsX1_writeTo := goodIn_r _ [66, 11, 12, 67, 68, 69, 29, 70, 56, 32, 58, 57, 31, 16, 17, 9, 18, 19, 20, 21, 71, 72, 73, 74, 54, 55, 62, 27, 28, 30, 75, 76, 77, 78, 128, 129, 116, 117, 118, 119, 120, 121, 122, 123, 124, 125, 126, 127] (by decide +kernel) (by decide +kernel)
set_option maxRecDepth 20000 in
theorem gX3_write_X1_writeTo : GoodIn wsX3_write (wsV RX3 85 RX1 yX1_writeTo wsX1_writeTo) := goodIn_app (goodIn_of _ (by decide +kernel)) ggX3_write_X1_writeTo
set_option maxRecDepth 20000 in
theorem ggX3_write_X2_react : GoodIn wsX3_write wsX2_react := goodIn_r _ [82, 83, 55, 49, 84, 85, 86, 87, 62, 27, 28, 29, 30, 31, 32, 88, 89, 90, 91, 60, 59, 61, 92, 93, 94, 95, 96, 97, 98, 99, 50, 51, 52, 53, 56, 57, 100, 101, 102, 103, 104, 105, 106, 116, 117, 118, 119, 120, 121, 122, 123, 124, 125, 126, 127] (by decide +kernel) (by decide +kernel)
set_option maxRecDepth 20000 in
theorem gX3_write_X2_react : GoodIn wsX3_write (wsV RX3 91 RX2 yX2_react wsX2_react) := goodIn_app (goodIn_of _ (by decide +kernel)) ggX3_write_X2_react
theorem dX3_write_0 : decode cX3_write 0 = .ok (.aload_n 0, 1) := by decide +kernel
theorem dX3_write_1 : decode cX3_write 1 = .ok (.getfield 37, 3) := by decide +kernel
theorem dX3_write_4 : decode cX3_write 4 = .ok (.invokevirtual 68, 3) := by decide +kernel
theorem dX3_write_7 : decode cX3_write 7 = .ok (.bipush (-6), 2) := by decide +kernel
theorem dX3_write_9 : decode cX3_write 9 = .ok (.if_icmp .eq 6, 3) := by decide +kernel
theorem dX3_write_12 : decode cX3_write 12 = .ok (.bipush (-3), 2) := by decide +kernel
theorem dX3_write_14 : decode cX3_write 14 = .ok (.ireturn, 1) := by decide +kernel
theorem dX3_write_15 : decode cX3_write 15 = .ok (.aload_n 0, 1) := by decide +kernel
theorem dX3_write_16 : decode cX3_write 16 = .ok (.getfield 10, 3) := by decide +kernel
theorem dX3_write_19 : decode cX3_write 19 = .ok (.getfield 72, 3) := by decide +kernel
theorem dX3_write_22 : decode cX3_write 22 = .ok (.aload_n 0, 1) := by decide +kernel
theorem dX3_write_23 : decode cX3_write 23 = .ok (.getfield 37, 3) := by decide +kernel
theorem dX3_write_26 : decode cX3_write 26 = .ok (.invokevirtual 76, 3) := by decide +kernel
theorem dX3_write_29 : decode cX3_write 29 = .ok (.iadd, 1) := by decide +kernel
theorem dX3_write_30 : decode cX3_write 30 = .ok (.bipush 12, 2) := by decide +kernel
theorem dX3_write_32 : decode cX3_write 32 = .ok (.if_icmp .gt 24, 3) := by decide +kernel
theorem dX3_write_35 : decode cX3_write 35 = .ok (.aload_n 0, 1) := by decide +kernel
theorem dX3_write_36 : decode cX3_write 36 = .ok (.getfield 10, 3) := by decide +kernel
theorem dX3_write_39 : decode cX3_write 39 = .ok (.invokevirtual 79, 3) := by decide +kernel
theorem dX3_write_42 : decode cX3_write 42 = .ok (.aload_n 0, 1) := by decide +kernel
theorem dX3_write_43 : decode cX3_write 43 = .ok (.getfield 37, 3) := by decide +kernel
theorem dX3_write_46 : decode cX3_write 46 = .ok (.invokevirtual 82, 3) := by decide +kernel
theorem dX3_write_49 : decode cX3_write 49 = .ok (.iadd, 1) := by decide +kernel
theorem dX3_write_50 : decode cX3_write 50 = .ok (.sipush 150, 3) := by decide +kernel
theorem dX3_write_53 : decode cX3_write 53 = .ok (.if_icmp .le 6, 3) := by decide +kernel
theorem dX3_write_56 : decode cX3_write 56 = .ok (.bipush (-4), 2) := by decide +kernel
theorem dX3_write_58 : decode cX3_write 58 = .ok (.ireturn, 1) := by decide +kernel
theorem dX3_write_59 : decode cX3_write 59 = .ok (.aload_n 0, 1) := by decide +kernel
theorem dX3_write_60 : decode cX3_write 60 = .ok (.getfield 22, 3) := by decide +kernel
theorem dX3_write_63 : decode cX3_write 63 = .ok (.aload_n 0, 1) := by decide +kernel
theorem dX3_write_64 : decode cX3_write 64 = .ok (.getfield 10, 3) := by decide +kernel
theorem dX3_write_67 : decode cX3_write 67 = .ok (.invokevirtual 61, 3) := by decide +kernel
theorem dX3_write_70 : decode cX3_write 70 = .ok (.aload_n 0, 1) := by decide +kernel
theorem dX3_write_71 : decode cX3_write 71 = .ok (.getfield 37, 3) := by decide +kernel
theorem dX3_write_74 : decode cX3_write 74 = .ok (.aload_n 0, 1) := by decide +kernel
theorem dX3_write_75 : decode cX3_write 75 = .ok (.getfield 10, 3) := by decide +kernel
theorem dX3_write_78 : decode cX3_write 78 = .ok (.invokevirtual 85, 3) := by decide +kernel
theorem dX3_write_81 : decode cX3_write 81 = .ok (.aload_n 0, 1) := by decide +kernel
theorem dX3_write_82 : decode cX3_write 82 = .ok (.getfield 37, 3) := by decide +kernel
theorem dX3_write_85 : decode cX3_write 85 = .ok (.iconst 0, 1) := by decide +kernel
theorem dX3_write_86 : decode cX3_write 86 = .ok (.putfield 88, 3) := by decide +kernel
theorem dX3_write_89 : decode cX3_write 89 = .ok (.aload_n 0, 1) := by decide +kernel
theorem dX3_write_90 : decode cX3_write 90 = .ok (.getfield 10, 3) := by decide +kernel
theorem dX3_write_93 : decode cX3_write 93 = .ok (.invokevirtual 91, 3) := by decide +kernel
theorem dX3_write_96 : decode cX3_write 96 = .ok (.pop, 1) := by decide +kernel
theorem dX3_write_97 : decode cX3_write 97 = .ok (.aload_n 0, 1) := by decide +kernel
theorem dX3_write_98 : decode cX3_write 98 = .ok (.getfield 10, 3) := by decide +kernel
theorem dX3_write_101 : decode cX3_write 101 = .ok (.getfield 72, 3) := by decide +kernel
theorem dX3_write_104 : decode cX3_write 104 = .ok (.ireturn, 1) := by decide +kernel
set_option maxRecDepth 20000 in
theorem ggX3_heat_X2_hasWord : GoodIn wsX3_heat wsX2_hasWord := goodIn_r _ [8, 9, 10, 11, 7, 12, 13, 14, 15, 16, 17, 18, 19, 20, 21, 90, 91, 92, 93, 94, 95, 96, 97, 98, 99, 100, 101] (by decide +kernel) (by decide +kernel)
set_option maxRecDepth 20000 in
theorem gX3_heat_X2_hasWord : GoodIn wsX3_heat (wsV RX3 94 RX2 yX2_hasWord wsX2_hasWord) := goodIn_app (goodIn_of _ (by decide +kernel)) ggX3_heat_X2_hasWord
set_option maxRecDepth 20000 in
theorem ggX3_heat_X3_isWithin : GoodIn wsX3_heat wsX3_isWithin := goodIn_r _ [16] (by decide +kernel) (by decide +kernel)
set_option maxRecDepth 20000 in
theorem gX3_heat_X3_isWithin : GoodIn wsX3_heat (va_wsS RX3 51 yX3_isWithin wsX3_isWithin) := goodIn_app (goodIn_of _ (by decide +kernel)) ggX3_heat_X3_isWithin
set_option maxRecDepth 20000 in
theorem ggX3_heat_X0_record : GoodIn wsX3_heat wsX0_record := goodIn_r _ [27, 28, 29, 30, 31, 32, 33, 7, 34, 35, 36, 37, 38, 39, 40, 41, 21, 13, 42, 43, 44, 45, 46, 47, 48, 49, 50, 51, 102, 103, 104, 90, 91, 92, 93, 94, 95, 96, 97, 98, 99, 100, 101] (by decide +kernel) (by decide +kernel)
set_option maxRecDepth 20000 in
theorem gX3_heat_X0_record : GoodIn wsX3_heat (wsV RX3 61 RX0 yX0_record wsX0_record) := goodIn_app (goodIn_of _ (by decide +kernel)) ggX3_heat_X0_record
set_option maxRecDepth 20000 in
theorem ggX3_heat_X2_warm : GoodIn wsX3_heat wsX2_warm := goodIn_r _ [55, 41, 56, 57, 58, 59, 90, 91, 92, 93, 94, 95, 96, 97, 98, 99, 100, 101] (by decide +kernel) (by decide +kernel)
set_option maxRecDepth 20000 in
theorem gX3_heat_X2_warm : GoodIn wsX3_heat (wsV RX3 101 RX2 yX2_warm wsX2_warm) := goodIn_app (goodIn_of _ (by decide +kernel)) ggX3_heat_X2_warm
set_option maxRecDepth 20000 in
theorem ggX3_heat_X2_react : GoodIn wsX3_heat wsX2_react := goodIn_r _ [63, 64, 41, 35, 65, 66, 58, 67, 48, 49, 50, 7, 51, 21, 13, 68, 69, 70, 71, 46, 45, 47, 72, 73, 74, 75, 76, 77, 78, 79, 36, 37, 38, 39, 42, 43, 80, 53, 54, 55, 56, 57, 59, 90, 91, 92, 93, 94, 95, 96, 97, 98, 99, 100, 101] (by decide +kernel) (by decide +kernel)
set_option maxRecDepth 20000 in
theorem gX3_heat_X2_react : GoodIn wsX3_heat (wsV RX3 91 RX2 yX2_react wsX2_react) := goodIn_app (goodIn_of _ (by decide +kernel)) ggX3_heat_X2_react
theorem dX3_heat_0 : decode cX3_heat 0 = .ok (.aload_n 0, 1) := by decide +kernel
theorem dX3_heat_1 : decode cX3_heat 1 = .ok (.getfield 10, 3) := by decide +kernel
theorem dX3_heat_4 : decode cX3_heat 4 = .ok (.iload_n 1, 1) := by decide +kernel
theorem dX3_heat_5 : decode cX3_heat 5 = .ok (.iload_n 2, 1) := by decide +kernel
theorem dX3_heat_6 : decode cX3_heat 6 = .ok (.invokevirtual 94, 3) := by decide +kernel
theorem dX3_heat_9 : decode cX3_heat 9 = .ok (.ifCond .ne 5, 3) := by decide +kernel
theorem dX3_heat_12 : decode cX3_heat 12 = .ok (.iconst (-1), 1) := by decide +kernel
theorem dX3_heat_13 : decode cX3_heat 13 = .ok (.ireturn, 1) := by decide +kernel
theorem dX3_heat_14 : decode cX3_heat 14 = .ok (.iload_n 3, 1) := by decide +kernel
theorem dX3_heat_15 : decode cX3_heat 15 = .ok (.iconst 1, 1) := by decide +kernel
theorem dX3_heat_16 : decode cX3_heat 16 = .ok (.sipush 500, 3) := by decide +kernel
theorem dX3_heat_19 : decode cX3_heat 19 = .ok (.invokestatic 51, 3) := by decide +kernel
theorem dX3_heat_22 : decode cX3_heat 22 = .ok (.ifCond .ne 6, 3) := by decide +kernel
theorem dX3_heat_25 : decode cX3_heat 25 = .ok (.bipush (-2), 2) := by decide +kernel
theorem dX3_heat_27 : decode cX3_heat 27 = .ok (.ireturn, 1) := by decide +kernel
theorem dX3_heat_28 : decode cX3_heat 28 = .ok (.aload_n 0, 1) := by decide +kernel
theorem dX3_heat_29 : decode cX3_heat 29 = .ok (.getfield 22, 3) := by decide +kernel
theorem dX3_heat_32 : decode cX3_heat 32 = .ok (.aload_n 0, 1) := by decide +kernel
theorem dX3_heat_33 : decode cX3_heat 33 = .ok (.getfield 10, 3) := by decide +kernel
theorem dX3_heat_36 : decode cX3_heat 36 = .ok (.invokevirtual 61, 3) := by decide +kernel
theorem dX3_heat_39 : decode cX3_heat 39 = .ok (.aload_n 0, 1) := by decide +kernel
theorem dX3_heat_40 : decode cX3_heat 40 = .ok (.getfield 10, 3) := by decide +kernel
theorem dX3_heat_43 : decode cX3_heat 43 = .ok (.aload_n 0, 1) := by decide +kernel
theorem dX3_heat_44 : decode cX3_heat 44 = .ok (.getfield 10, 3) := by decide +kernel
theorem dX3_heat_47 : decode cX3_heat 47 = .ok (.getfield 98, 3) := by decide +kernel
theorem dX3_heat_50 : decode cX3_heat 50 = .ok (.iload_n 1, 1) := by decide +kernel
theorem dX3_heat_51 : decode cX3_heat 51 = .ok (.iaload, 1) := by decide +kernel
theorem dX3_heat_52 : decode cX3_heat 52 = .ok (.iload_n 2, 1) := by decide +kernel
theorem dX3_heat_53 : decode cX3_heat 53 = .ok (.iadd, 1) := by decide +kernel
theorem dX3_heat_54 : decode cX3_heat 54 = .ok (.iload_n 3, 1) := by decide +kernel
theorem dX3_heat_55 : decode cX3_heat 55 = .ok (.invokevirtual 101, 3) := by decide +kernel
theorem dX3_heat_58 : decode cX3_heat 58 = .ok (.aload_n 0, 1) := by decide +kernel
theorem dX3_heat_59 : decode cX3_heat 59 = .ok (.getfield 10, 3) := by decide +kernel
theorem dX3_heat_62 : decode cX3_heat 62 = .ok (.invokevirtual 91, 3) := by decide +kernel
theorem dX3_heat_65 : decode cX3_heat 65 = .ok (.ireturn, 1) := by decide +kernel
set_option maxRecDepth 20000 in
theorem ggX3_read_X2_hasStory : GoodIn wsX3_read wsX2_hasStory := goodIn_r _ [8, 9, 10, 11, 12, 82, 83, 84, 85, 86, 87, 88, 89, 90, 91, 92, 93] (by decide +kernel) (by decide +kernel)
set_option maxRecDepth 20000 in
theorem gX3_read_X2_hasStory : GoodIn wsX3_read (wsV RX3 105 RX2 yX2_hasStory wsX2_hasStory) := goodIn_app (goodIn_of _ (by decide +kernel)) ggX3_read_X2_hasStory
set_option maxRecDepth 20000 in
theorem ggX3_read_X3_isWithin : GoodIn wsX3_read wsX3_isWithin := goodIn_r _ [12] (by decide +kernel) (by decide +kernel)
set_option maxRecDepth 20000 in
theorem gX3_read_X3_isWithin : GoodIn wsX3_read (va_wsS RX3 51 yX3_isWithin wsX3_isWithin) := goodIn_app (goodIn_of _ (by decide +kernel)) ggX3_read_X3_isWithin
set_option maxRecDepth 20000 in
theorem ggX3_read_X0_record : GoodIn wsX3_read wsX0_record := goodIn_r _ [18, 19, 20, 21, 22, 23, 24, 7, 25, 26, 27, 28, 29, 30, 31, 32, 33, 9, 34, 35, 36, 37, 38, 39, 40, 41, 42, 43, 94, 95, 96, 82, 83, 84, 85, 86, 87, 88, 89, 90, 91, 92, 93] (by decide +kernel) (by decide +kernel)
set_option maxRecDepth 20000 in
theorem gX3_read_X0_record : GoodIn wsX3_read (wsV RX3 61 RX0 yX0_record wsX0_record) := goodIn_app (goodIn_of _ (by decide +kernel)) ggX3_read_X0_record
set_option maxRecDepth 20000 in
theorem ggX3_read_X2_warm : GoodIn wsX3_read wsX2_warm := goodIn_r _ [47, 32, 48, 49, 50, 51, 82, 83, 84, 85, 86, 87, 88, 89, 90, 91, 92, 93] (by decide +kernel) (by decide +kernel)
set_option maxRecDepth 20000 in
theorem gX3_read_X2_warm : GoodIn wsX3_read (wsV RX3 101 RX2 yX2_warm wsX2_warm) := goodIn_app (goodIn_of _ (by decide +kernel)) ggX3_read_X2_warm
set_option maxRecDepth 20000 in
theorem ggX3_read_X2_react : GoodIn wsX3_read wsX2_react := goodIn_r _ [55, 56, 32, 26, 57, 58, 50, 59, 40, 41, 42, 7, 43, 33, 9, 60, 61, 62, 63, 38, 37, 39, 64, 65, 66, 67, 68, 69, 70, 71, 27, 28, 29, 30, 34, 35, 72, 45, 46, 47, 48, 49, 51, 82, 83, 84, 85, 86, 87, 88, 89, 90, 91, 92, 93] (by decide +kernel) (by decide +kernel)
set_option maxRecDepth 20000 in
theorem gX3_read_X2_react : GoodIn wsX3_read (wsV RX3 91 RX2 yX2_react wsX2_react) := goodIn_app (goodIn_of _ (by decide +kernel)) ggX3_read_X2_react
theorem dX3_read_0 : decode cX3_read 0 = .ok (.aload_n 0, 1) := by decide +kernel
theorem dX3_read_1 : decode cX3_read 1 = .ok (.getfield 10, 3) := by decide +kernel
theorem dX3_read_4 : decode cX3_read 4 = .ok (.iload_n 1, 1) := by decide +kernel
theorem dX3_read_5 : decode cX3_read 5 = .ok (.invokevirtual 105, 3) := by decide +kernel
theorem dX3_read_8 : decode cX3_read 8 = .ok (.ifCond .ne 5, 3) := by decide +kernel
theorem dX3_read_11 : decode cX3_read 11 = .ok (.iconst (-1), 1) := by decide +kernel
theorem dX3_read_12 : decode cX3_read 12 = .ok (.ireturn, 1) := by decide +kernel
theorem dX3_read_13 : decode cX3_read 13 = .ok (.iload_n 2, 1) := by decide +kernel
theorem dX3_read_14 : decode cX3_read 14 = .ok (.iconst 1, 1) := by decide +kernel
theorem dX3_read_15 : decode cX3_read 15 = .ok (.bipush 50, 2) := by decide +kernel
theorem dX3_read_17 : decode cX3_read 17 = .ok (.invokestatic 51, 3) := by decide +kernel
theorem dX3_read_20 : decode cX3_read 20 = .ok (.ifCond .ne 6, 3) := by decide +kernel
theorem dX3_read_23 : decode cX3_read 23 = .ok (.bipush (-2), 2) := by decide +kernel
theorem dX3_read_25 : decode cX3_read 25 = .ok (.ireturn, 1) := by decide +kernel
theorem dX3_read_26 : decode cX3_read 26 = .ok (.aload_n 0, 1) := by decide +kernel
theorem dX3_read_27 : decode cX3_read 27 = .ok (.getfield 22, 3) := by decide +kernel
theorem dX3_read_30 : decode cX3_read 30 = .ok (.aload_n 0, 1) := by decide +kernel
theorem dX3_read_31 : decode cX3_read 31 = .ok (.getfield 10, 3) := by decide +kernel
theorem dX3_read_34 : decode cX3_read 34 = .ok (.invokevirtual 61, 3) := by decide +kernel
theorem dX3_read_37 : decode cX3_read 37 = .ok (.aload_n 0, 1) := by decide +kernel
theorem dX3_read_38 : decode cX3_read 38 = .ok (.getfield 10, 3) := by decide +kernel
theorem dX3_read_41 : decode cX3_read 41 = .ok (.getfield 98, 3) := by decide +kernel
theorem dX3_read_44 : decode cX3_read 44 = .ok (.iload_n 1, 1) := by decide +kernel
theorem dX3_read_45 : decode cX3_read 45 = .ok (.iaload, 1) := by decide +kernel
theorem dX3_read_46 : decode cX3_read 46 = .ok (.istore_n 3, 1) := by decide +kernel
theorem dX3_read_47 : decode cX3_read 47 = .ok (.iload_n 3, 1) := by decide +kernel
theorem dX3_read_48 : decode cX3_read 48 = .ok (.aload_n 0, 1) := by decide +kernel
theorem dX3_read_49 : decode cX3_read 49 = .ok (.getfield 10, 3) := by decide +kernel
theorem dX3_read_52 : decode cX3_read 52 = .ok (.getfield 98, 3) := by decide +kernel
theorem dX3_read_55 : decode cX3_read 55 = .ok (.iload_n 1, 1) := by decide +kernel
theorem dX3_read_56 : decode cX3_read 56 = .ok (.iconst 1, 1) := by decide +kernel
theorem dX3_read_57 : decode cX3_read 57 = .ok (.iadd, 1) := by decide +kernel
theorem dX3_read_58 : decode cX3_read 58 = .ok (.iaload, 1) := by decide +kernel
theorem dX3_read_59 : decode cX3_read 59 = .ok (.if_icmp .ge 18, 3) := by decide +kernel
theorem dX3_read_62 : decode cX3_read 62 = .ok (.aload_n 0, 1) := by decide +kernel
theorem dX3_read_63 : decode cX3_read 63 = .ok (.getfield 10, 3) := by decide +kernel
theorem dX3_read_66 : decode cX3_read 66 = .ok (.iload_n 3, 1) := by decide +kernel
theorem dX3_read_67 : decode cX3_read 67 = .ok (.iload_n 2, 1) := by decide +kernel
theorem dX3_read_68 : decode cX3_read 68 = .ok (.invokevirtual 101, 3) := by decide +kernel
theorem dX3_read_71 : decode cX3_read 71 = .ok (.iinc 3 1, 3) := by decide +kernel
theorem dX3_read_74 : decode cX3_read 74 = .ok (.goto (-27), 3) := by decide +kernel
theorem dX3_read_77 : decode cX3_read 77 = .ok (.aload_n 0, 1) := by decide +kernel
theorem dX3_read_78 : decode cX3_read 78 = .ok (.getfield 10, 3) := by decide +kernel
theorem dX3_read_81 : decode cX3_read 81 = .ok (.invokevirtual 91, 3) := by decide +kernel
theorem dX3_read_84 : decode cX3_read 84 = .ok (.ireturn, 1) := by decide +kernel
set_option maxRecDepth 20000 in
theorem ggX3_fuse_X2_hasStory : GoodIn wsX3_fuse wsX2_hasStory := goodIn_r _ [15, 16, 17, 18, 19, 111, 112, 113, 114, 115, 116, 117, 118, 119, 120, 121, 122] (by decide +kernel) (by decide +kernel)
set_option maxRecDepth 20000 in
theorem gX3_fuse_X2_hasStory : GoodIn wsX3_fuse (wsV RX3 105 RX2 yX2_hasStory wsX2_hasStory) := goodIn_app (goodIn_of _ (by decide +kernel)) ggX3_fuse_X2_hasStory
set_option maxRecDepth 20000 in
theorem ggX3_fuse_X2_themeOf : GoodIn wsX3_fuse wsX2_themeOf := goodIn_r _ [23, 24, 25, 26, 27, 14, 28, 29, 30, 31, 32, 33, 34, 111, 112, 113, 114, 115, 116, 117, 118, 119, 120, 121, 122] (by decide +kernel) (by decide +kernel)
set_option maxRecDepth 20000 in
theorem gX3_fuse_X2_themeOf : GoodIn wsX3_fuse (wsV RX3 109 RX2 yX2_themeOf wsX2_themeOf) := goodIn_app (goodIn_of _ (by decide +kernel)) ggX3_fuse_X2_themeOf
set_option maxRecDepth 20000 in
theorem ggX3_fuse_X0_record : GoodIn wsX3_fuse wsX0_record := goodIn_r _ [39, 40, 41, 42, 43, 44, 45, 14, 46, 47, 48, 49, 50, 51, 30, 52, 29, 16, 53, 54, 55, 56, 57, 58, 59, 60, 61, 62, 123, 124, 125, 111, 112, 113, 114, 115, 116, 117, 118, 119, 120, 121, 122] (by decide +kernel) (by decide +kernel)
set_option maxRecDepth 20000 in
theorem gX3_fuse_X0_record : GoodIn wsX3_fuse (wsV RX3 61 RX0 yX0_record wsX0_record) := goodIn_app (goodIn_of _ (by decide +kernel)) ggX3_fuse_X0_record
set_option maxRecDepth 20000 in
theorem ggX3_fuse_X2_copyFrom : GoodIn wsX3_fuse wsX2_copyFrom := goodIn_r _ [46, 47, 48, 49, 50, 51, 30, 52, 29, 16, 53, 54, 55, 56, 57, 58, 59, 60, 61, 14, 62, 111, 112, 113, 114, 115, 116, 117, 118, 119, 120, 121, 122] (by decide +kernel) (by decide +kernel)
set_option maxRecDepth 20000 in
theorem gX3_fuse_X2_copyFrom : GoodIn wsX3_fuse (wsV RX3 113 RX2 yX2_copyFrom wsX2_copyFrom) := goodIn_app (goodIn_of _ (by decide +kernel)) ggX3_fuse_X2_copyFrom
set_option maxRecDepth 20000 in
theorem ggX3_fuse_X2_remove : GoodIn wsX3_fuse wsX2_remove := goodIn_r _ [67, 29, 16, 30, 48, 49, 50, 51, 52, 53, 54, 59, 60, 61, 14, 62, 111, 112, 113, 114, 115, 116, 117, 118, 119, 120, 121, 122] (by decide +kernel) (by decide +kernel)
set_option maxRecDepth 20000 in
theorem gX3_fuse_X2_remove : GoodIn wsX3_fuse (wsV RX3 116 RX2 yX2_remove wsX2_remove) := goodIn_app (goodIn_of _ (by decide +kernel)) ggX3_fuse_X2_remove
set_option maxRecDepth 20000 in
theorem ggX3_fuse_X2_append : GoodIn wsX3_fuse wsX2_append := goodIn_r _ [71, 29, 30, 48, 49, 50, 51, 52, 16, 72, 73, 74, 14, 75, 59, 60, 61, 62, 111, 112, 113, 114, 115, 116, 117, 118, 119, 120, 121, 122] (by decide +kernel) (by decide +kernel)
set_option maxRecDepth 20000 in
theorem gX3_fuse_X2_append : GoodIn wsX3_fuse (wsV RX3 120 RX2 yX2_append wsX2_append) := goodIn_app (goodIn_of _ (by decide +kernel)) ggX3_fuse_X2_append
set_option maxRecDepth 20000 in
theorem ggX3_fuse_X2_warm : GoodIn wsX3_fuse wsX2_warm := goodIn_r _ [79, 52, 80, 81, 8, 82, 111, 112, 113, 114, 115, 116, 117, 118, 119, 120, 121, 122] (by decide +kernel) (by decide +kernel)
set_option maxRecDepth 20000 in
theorem gX3_fuse_X2_warm : GoodIn wsX3_fuse (wsV RX3 101 RX2 yX2_warm wsX2_warm) := goodIn_app (goodIn_of _ (by decide +kernel)) ggX3_fuse_X2_warm
set_option maxRecDepth 20000 in
theorem ggX3_fuse_X2_react : GoodIn wsX3_fuse wsX2_react := goodIn_r _ [86, 87, 52, 47, 88, 7, 8, 9, 59, 60, 61, 14, 62, 29, 16, 89, 90, 91, 92, 57, 56, 58, 93, 94, 95, 96, 97, 98, 99, 100, 48, 49, 50, 51, 53, 54, 101, 77, 78, 79, 80, 81, 82, 111, 112, 113, 114, 115, 116, 117, 118, 119, 120, 121, 122] (by decide +kernel) (by decide +kernel)
set_option maxRecDepth 20000 in
theorem gX3_fuse_X2_react : GoodIn wsX3_fuse (wsV RX3 91 RX2 yX2_react wsX2_react) := goodIn_app (goodIn_of _ (by decide +kernel)) ggX3_fuse_X2_react
theorem dX3_fuse_0 : decode cX3_fuse 0 = .ok (.aload_n 0, 1) := by decide +kernel
theorem dX3_fuse_1 : decode cX3_fuse 1 = .ok (.getfield 10, 3) := by decide +kernel
theorem dX3_fuse_4 : decode cX3_fuse 4 = .ok (.iload_n 1, 1) := by decide +kernel
theorem dX3_fuse_5 : decode cX3_fuse 5 = .ok (.invokevirtual 105, 3) := by decide +kernel
theorem dX3_fuse_8 : decode cX3_fuse 8 = .ok (.ifCond .eq 14, 3) := by decide +kernel
theorem dX3_fuse_11 : decode cX3_fuse 11 = .ok (.aload_n 0, 1) := by decide +kernel
theorem dX3_fuse_12 : decode cX3_fuse 12 = .ok (.getfield 10, 3) := by decide +kernel
theorem dX3_fuse_15 : decode cX3_fuse 15 = .ok (.iload_n 2, 1) := by decide +kernel
theorem dX3_fuse_16 : decode cX3_fuse 16 = .ok (.invokevirtual 105, 3) := by decide +kernel
theorem dX3_fuse_19 : decode cX3_fuse 19 = .ok (.ifCond .ne 5, 3) := by decide +kernel
theorem dX3_fuse_22 : decode cX3_fuse 22 = .ok (.iconst (-1), 1) := by decide +kernel
theorem dX3_fuse_23 : decode cX3_fuse 23 = .ok (.ireturn, 1) := by decide +kernel
theorem dX3_fuse_24 : decode cX3_fuse 24 = .ok (.iload_n 1, 1) := by decide +kernel
theorem dX3_fuse_25 : decode cX3_fuse 25 = .ok (.iload_n 2, 1) := by decide +kernel
theorem dX3_fuse_26 : decode cX3_fuse 26 = .ok (.if_icmp .ne 6, 3) := by decide +kernel
theorem dX3_fuse_29 : decode cX3_fuse 29 = .ok (.bipush (-2), 2) := by decide +kernel
theorem dX3_fuse_31 : decode cX3_fuse 31 = .ok (.ireturn, 1) := by decide +kernel
theorem dX3_fuse_32 : decode cX3_fuse 32 = .ok (.aload_n 0, 1) := by decide +kernel
theorem dX3_fuse_33 : decode cX3_fuse 33 = .ok (.getfield 10, 3) := by decide +kernel
theorem dX3_fuse_36 : decode cX3_fuse 36 = .ok (.iload_n 1, 1) := by decide +kernel
theorem dX3_fuse_37 : decode cX3_fuse 37 = .ok (.invokevirtual 109, 3) := by decide +kernel
theorem dX3_fuse_40 : decode cX3_fuse 40 = .ok (.aload_n 0, 1) := by decide +kernel
theorem dX3_fuse_41 : decode cX3_fuse 41 = .ok (.getfield 10, 3) := by decide +kernel
theorem dX3_fuse_44 : decode cX3_fuse 44 = .ok (.iload_n 2, 1) := by decide +kernel
theorem dX3_fuse_45 : decode cX3_fuse 45 = .ok (.invokevirtual 109, 3) := by decide +kernel
theorem dX3_fuse_48 : decode cX3_fuse 48 = .ok (.if_icmp .eq 6, 3) := by decide +kernel
theorem dX3_fuse_51 : decode cX3_fuse 51 = .ok (.bipush (-5), 2) := by decide +kernel
theorem dX3_fuse_53 : decode cX3_fuse 53 = .ok (.ireturn, 1) := by decide +kernel
theorem dX3_fuse_54 : decode cX3_fuse 54 = .ok (.aload_n 0, 1) := by decide +kernel
theorem dX3_fuse_55 : decode cX3_fuse 55 = .ok (.getfield 22, 3) := by decide +kernel
theorem dX3_fuse_58 : decode cX3_fuse 58 = .ok (.aload_n 0, 1) := by decide +kernel
theorem dX3_fuse_59 : decode cX3_fuse 59 = .ok (.getfield 10, 3) := by decide +kernel
theorem dX3_fuse_62 : decode cX3_fuse 62 = .ok (.invokevirtual 61, 3) := by decide +kernel
theorem dX3_fuse_65 : decode cX3_fuse 65 = .ok (.aload_n 0, 1) := by decide +kernel
theorem dX3_fuse_66 : decode cX3_fuse 66 = .ok (.getfield 16, 3) := by decide +kernel
theorem dX3_fuse_69 : decode cX3_fuse 69 = .ok (.aload_n 0, 1) := by decide +kernel
theorem dX3_fuse_70 : decode cX3_fuse 70 = .ok (.getfield 10, 3) := by decide +kernel
theorem dX3_fuse_73 : decode cX3_fuse 73 = .ok (.invokevirtual 113, 3) := by decide +kernel
theorem dX3_fuse_76 : decode cX3_fuse 76 = .ok (.aload_n 0, 1) := by decide +kernel
theorem dX3_fuse_77 : decode cX3_fuse 77 = .ok (.getfield 10, 3) := by decide +kernel
theorem dX3_fuse_80 : decode cX3_fuse 80 = .ok (.iload_n 2, 1) := by decide +kernel
theorem dX3_fuse_81 : decode cX3_fuse 81 = .ok (.invokevirtual 116, 3) := by decide +kernel
theorem dX3_fuse_84 : decode cX3_fuse 84 = .ok (.iload_n 2, 1) := by decide +kernel
theorem dX3_fuse_85 : decode cX3_fuse 85 = .ok (.iload_n 1, 1) := by decide +kernel
theorem dX3_fuse_86 : decode cX3_fuse 86 = .ok (.if_icmp .ge 9, 3) := by decide +kernel
theorem dX3_fuse_89 : decode cX3_fuse 89 = .ok (.iload_n 1, 1) := by decide +kernel
theorem dX3_fuse_90 : decode cX3_fuse 90 = .ok (.iconst 1, 1) := by decide +kernel
theorem dX3_fuse_91 : decode cX3_fuse 91 = .ok (.isub, 1) := by decide +kernel
theorem dX3_fuse_92 : decode cX3_fuse 92 = .ok (.goto 4, 3) := by decide +kernel
theorem dX3_fuse_95 : decode cX3_fuse 95 = .ok (.iload_n 1, 1) := by decide +kernel
theorem dX3_fuse_96 : decode cX3_fuse 96 = .ok (.istore_n 3, 1) := by decide +kernel
theorem dX3_fuse_97 : decode cX3_fuse 97 = .ok (.aload_n 0, 1) := by decide +kernel
theorem dX3_fuse_98 : decode cX3_fuse 98 = .ok (.getfield 10, 3) := by decide +kernel
theorem dX3_fuse_101 : decode cX3_fuse 101 = .ok (.getfield 98, 3) := by decide +kernel
theorem dX3_fuse_104 : decode cX3_fuse 104 = .ok (.iload_n 3, 1) := by decide +kernel
theorem dX3_fuse_105 : decode cX3_fuse 105 = .ok (.iconst 1, 1) := by decide +kernel
theorem dX3_fuse_106 : decode cX3_fuse 106 = .ok (.iadd, 1) := by decide +kernel
theorem dX3_fuse_107 : decode cX3_fuse 107 = .ok (.iaload, 1) := by decide +kernel
theorem dX3_fuse_108 : decode cX3_fuse 108 = .ok (.istore 4, 2) := by decide +kernel
theorem dX3_fuse_110 : decode cX3_fuse 110 = .ok (.aload_n 0, 1) := by decide +kernel
theorem dX3_fuse_111 : decode cX3_fuse 111 = .ok (.getfield 10, 3) := by decide +kernel
theorem dX3_fuse_114 : decode cX3_fuse 114 = .ok (.iload_n 3, 1) := by decide +kernel
theorem dX3_fuse_115 : decode cX3_fuse 115 = .ok (.aload_n 0, 1) := by decide +kernel
theorem dX3_fuse_116 : decode cX3_fuse 116 = .ok (.getfield 16, 3) := by decide +kernel
theorem dX3_fuse_119 : decode cX3_fuse 119 = .ok (.iload_n 2, 1) := by decide +kernel
theorem dX3_fuse_120 : decode cX3_fuse 120 = .ok (.invokevirtual 120, 3) := by decide +kernel
theorem dX3_fuse_123 : decode cX3_fuse 123 = .ok (.aload_n 0, 1) := by decide +kernel
theorem dX3_fuse_124 : decode cX3_fuse 124 = .ok (.getfield 10, 3) := by decide +kernel
theorem dX3_fuse_127 : decode cX3_fuse 127 = .ok (.getfield 124, 3) := by decide +kernel
theorem dX3_fuse_130 : decode cX3_fuse 130 = .ok (.iload_n 3, 1) := by decide +kernel
theorem dX3_fuse_131 : decode cX3_fuse 131 = .ok (.iconst 1, 1) := by decide +kernel
theorem dX3_fuse_132 : decode cX3_fuse 132 = .ok (.aload_n 0, 1) := by decide +kernel
theorem dX3_fuse_133 : decode cX3_fuse 133 = .ok (.getfield 16, 3) := by decide +kernel
theorem dX3_fuse_136 : decode cX3_fuse 136 = .ok (.getfield 124, 3) := by decide +kernel
theorem dX3_fuse_139 : decode cX3_fuse 139 = .ok (.iload_n 1, 1) := by decide +kernel
theorem dX3_fuse_140 : decode cX3_fuse 140 = .ok (.iaload, 1) := by decide +kernel
theorem dX3_fuse_141 : decode cX3_fuse 141 = .ok (.aload_n 0, 1) := by decide +kernel
theorem dX3_fuse_142 : decode cX3_fuse 142 = .ok (.getfield 16, 3) := by decide +kernel
theorem dX3_fuse_145 : decode cX3_fuse 145 = .ok (.getfield 124, 3) := by decide +kernel
theorem dX3_fuse_148 : decode cX3_fuse 148 = .ok (.iload_n 2, 1) := by decide +kernel
theorem dX3_fuse_149 : decode cX3_fuse 149 = .ok (.iaload, 1) := by decide +kernel
theorem dX3_fuse_150 : decode cX3_fuse 150 = .ok (.invokestatic 127, 3) := by decide +kernel
theorem dX3_fuse_153 : decode cX3_fuse 153 = .ok (.iadd, 1) := by decide +kernel
theorem dX3_fuse_154 : decode cX3_fuse 154 = .ok (.iastore, 1) := by decide +kernel
theorem dX3_fuse_155 : decode cX3_fuse 155 = .ok (.aload_n 0, 1) := by decide +kernel
theorem dX3_fuse_156 : decode cX3_fuse 156 = .ok (.getfield 10, 3) := by decide +kernel
theorem dX3_fuse_159 : decode cX3_fuse 159 = .ok (.iload 4, 2) := by decide +kernel
theorem dX3_fuse_161 : decode cX3_fuse 161 = .ok (.iconst 1, 1) := by decide +kernel
theorem dX3_fuse_162 : decode cX3_fuse 162 = .ok (.isub, 1) := by decide +kernel
theorem dX3_fuse_163 : decode cX3_fuse 163 = .ok (.aload_n 0, 1) := by decide +kernel
theorem dX3_fuse_164 : decode cX3_fuse 164 = .ok (.getfield 10, 3) := by decide +kernel
theorem dX3_fuse_167 : decode cX3_fuse 167 = .ok (.getfield 65, 3) := by decide +kernel
theorem dX3_fuse_170 : decode cX3_fuse 170 = .ok (.iconst 1, 1) := by decide +kernel
theorem dX3_fuse_171 : decode cX3_fuse 171 = .ok (.iaload, 1) := by decide +kernel
theorem dX3_fuse_172 : decode cX3_fuse 172 = .ok (.invokevirtual 101, 3) := by decide +kernel
theorem dX3_fuse_175 : decode cX3_fuse 175 = .ok (.aload_n 0, 1) := by decide +kernel
theorem dX3_fuse_176 : decode cX3_fuse 176 = .ok (.getfield 10, 3) := by decide +kernel
theorem dX3_fuse_179 : decode cX3_fuse 179 = .ok (.iload 4, 2) := by decide +kernel
theorem dX3_fuse_181 : decode cX3_fuse 181 = .ok (.aload_n 0, 1) := by decide +kernel
theorem dX3_fuse_182 : decode cX3_fuse 182 = .ok (.getfield 10, 3) := by decide +kernel
theorem dX3_fuse_185 : decode cX3_fuse 185 = .ok (.getfield 65, 3) := by decide +kernel
theorem dX3_fuse_188 : decode cX3_fuse 188 = .ok (.iconst 1, 1) := by decide +kernel
theorem dX3_fuse_189 : decode cX3_fuse 189 = .ok (.iaload, 1) := by decide +kernel
theorem dX3_fuse_190 : decode cX3_fuse 190 = .ok (.invokevirtual 101, 3) := by decide +kernel
theorem dX3_fuse_193 : decode cX3_fuse 193 = .ok (.aload_n 0, 1) := by decide +kernel
theorem dX3_fuse_194 : decode cX3_fuse 194 = .ok (.getfield 10, 3) := by decide +kernel
theorem dX3_fuse_197 : decode cX3_fuse 197 = .ok (.invokevirtual 91, 3) := by decide +kernel
theorem dX3_fuse_200 : decode cX3_fuse 200 = .ok (.ireturn, 1) := by decide +kernel
set_option maxRecDepth 20000 in
theorem ggX3_pass_X3_isWithin : GoodIn wsX3_pass wsX3_isWithin := goodIn_r _ [12] (by decide +kernel) (by decide +kernel)
set_option maxRecDepth 20000 in
theorem gX3_pass_X3_isWithin : GoodIn wsX3_pass (va_wsS RX3 51 yX3_isWithin wsX3_isWithin) := goodIn_app (goodIn_of _ (by decide +kernel)) ggX3_pass_X3_isWithin
set_option maxRecDepth 20000 in
theorem ggX3_pass_X0_record : GoodIn wsX3_pass wsX0_record := goodIn_r _ [17, 18, 19, 20, 21, 22, 23, 24, 25, 26, 27, 28, 29, 30, 31, 32, 33, 34, 35, 36, 37, 38, 39, 40, 41, 42, 43, 44, 75, 76, 77, 63, 64, 65, 66, 67, 68, 69, 70, 71, 72, 73, 74] (by decide +kernel) (by decide +kernel)
set_option maxRecDepth 20000 in
theorem gX3_pass_X0_record : GoodIn wsX3_pass (wsV RX3 61 RX0 yX0_record wsX0_record) := goodIn_app (goodIn_of _ (by decide +kernel)) ggX3_pass_X0_record
set_option maxRecDepth 20000 in
theorem ggX3_pass_X2_words : GoodIn wsX3_pass wsX2_words := goodIn_r _ [44, 33, 34, 63, 64, 65, 66, 67, 68, 69, 70, 71, 72, 73, 74] (by decide +kernel) (by decide +kernel)
set_option maxRecDepth 20000 in
theorem gX3_pass_X2_words : GoodIn wsX3_pass (wsV RX3 79 RX2 yX2_words wsX2_words) := goodIn_app (goodIn_of _ (by decide +kernel)) ggX3_pass_X2_words
set_option maxRecDepth 20000 in
theorem ggX3_pass_X2_heatOfAll : GoodIn wsX3_pass wsX2_heatOfAll := goodIn_r _ [49, 41, 42, 43, 24, 44, 33, 34, 50, 51, 52, 53, 32, 63, 64, 65, 66, 67, 68, 69, 70, 71, 72, 73, 74] (by decide +kernel) (by decide +kernel)
set_option maxRecDepth 20000 in
theorem gX3_pass_X2_heatOfAll : GoodIn wsX3_pass (wsV RX3 136 RX2 yX2_heatOfAll wsX2_heatOfAll) := goodIn_app (goodIn_of _ (by decide +kernel)) ggX3_pass_X2_heatOfAll
theorem dX3_pass_0 : decode cX3_pass 0 = .ok (.iload_n 1, 1) := by decide +kernel
theorem dX3_pass_1 : decode cX3_pass 1 = .ok (.iconst 1, 1) := by decide +kernel
theorem dX3_pass_2 : decode cX3_pass 2 = .ok (.bipush 30, 2) := by decide +kernel
theorem dX3_pass_4 : decode cX3_pass 4 = .ok (.invokestatic 51, 3) := by decide +kernel
theorem dX3_pass_7 : decode cX3_pass 7 = .ok (.ifCond .ne 6, 3) := by decide +kernel
theorem dX3_pass_10 : decode cX3_pass 10 = .ok (.bipush (-2), 2) := by decide +kernel
theorem dX3_pass_12 : decode cX3_pass 12 = .ok (.ireturn, 1) := by decide +kernel
theorem dX3_pass_13 : decode cX3_pass 13 = .ok (.aload_n 0, 1) := by decide +kernel
theorem dX3_pass_14 : decode cX3_pass 14 = .ok (.getfield 22, 3) := by decide +kernel
theorem dX3_pass_17 : decode cX3_pass 17 = .ok (.aload_n 0, 1) := by decide +kernel
theorem dX3_pass_18 : decode cX3_pass 18 = .ok (.getfield 10, 3) := by decide +kernel
theorem dX3_pass_21 : decode cX3_pass 21 = .ok (.invokevirtual 61, 3) := by decide +kernel
theorem dX3_pass_24 : decode cX3_pass 24 = .ok (.iload_n 1, 1) := by decide +kernel
theorem dX3_pass_25 : decode cX3_pass 25 = .ok (.aload_n 0, 1) := by decide +kernel
theorem dX3_pass_26 : decode cX3_pass 26 = .ok (.getfield 10, 3) := by decide +kernel
theorem dX3_pass_29 : decode cX3_pass 29 = .ok (.getfield 65, 3) := by decide +kernel
theorem dX3_pass_32 : decode cX3_pass 32 = .ok (.iconst 2, 1) := by decide +kernel
theorem dX3_pass_33 : decode cX3_pass 33 = .ok (.iaload, 1) := by decide +kernel
theorem dX3_pass_34 : decode cX3_pass 34 = .ok (.imul, 1) := by decide +kernel
theorem dX3_pass_35 : decode cX3_pass 35 = .ok (.istore_n 2, 1) := by decide +kernel
theorem dX3_pass_36 : decode cX3_pass 36 = .ok (.iconst 0, 1) := by decide +kernel
theorem dX3_pass_37 : decode cX3_pass 37 = .ok (.istore_n 3, 1) := by decide +kernel
theorem dX3_pass_38 : decode cX3_pass 38 = .ok (.iload_n 3, 1) := by decide +kernel
theorem dX3_pass_39 : decode cX3_pass 39 = .ok (.aload_n 0, 1) := by decide +kernel
theorem dX3_pass_40 : decode cX3_pass 40 = .ok (.getfield 10, 3) := by decide +kernel
theorem dX3_pass_43 : decode cX3_pass 43 = .ok (.invokevirtual 79, 3) := by decide +kernel
theorem dX3_pass_46 : decode cX3_pass 46 = .ok (.if_icmp .ge 33, 3) := by decide +kernel
theorem dX3_pass_49 : decode cX3_pass 49 = .ok (.aload_n 0, 1) := by decide +kernel
theorem dX3_pass_50 : decode cX3_pass 50 = .ok (.getfield 10, 3) := by decide +kernel
theorem dX3_pass_53 : decode cX3_pass 53 = .ok (.getfield 133, 3) := by decide +kernel
theorem dX3_pass_56 : decode cX3_pass 56 = .ok (.iload_n 3, 1) := by decide +kernel
theorem dX3_pass_57 : decode cX3_pass 57 = .ok (.iconst 0, 1) := by decide +kernel
theorem dX3_pass_58 : decode cX3_pass 58 = .ok (.aload_n 0, 1) := by decide +kernel
theorem dX3_pass_59 : decode cX3_pass 59 = .ok (.getfield 10, 3) := by decide +kernel
theorem dX3_pass_62 : decode cX3_pass 62 = .ok (.getfield 133, 3) := by decide +kernel
theorem dX3_pass_65 : decode cX3_pass 65 = .ok (.iload_n 3, 1) := by decide +kernel
theorem dX3_pass_66 : decode cX3_pass 66 = .ok (.iaload, 1) := by decide +kernel
theorem dX3_pass_67 : decode cX3_pass 67 = .ok (.iload_n 2, 1) := by decide +kernel
theorem dX3_pass_68 : decode cX3_pass 68 = .ok (.isub, 1) := by decide +kernel
theorem dX3_pass_69 : decode cX3_pass 69 = .ok (.invokestatic 127, 3) := by decide +kernel
theorem dX3_pass_72 : decode cX3_pass 72 = .ok (.iastore, 1) := by decide +kernel
theorem dX3_pass_73 : decode cX3_pass 73 = .ok (.iinc 3 1, 3) := by decide +kernel
theorem dX3_pass_76 : decode cX3_pass 76 = .ok (.goto (-38), 3) := by decide +kernel
theorem dX3_pass_79 : decode cX3_pass 79 = .ok (.aload_n 0, 1) := by decide +kernel
theorem dX3_pass_80 : decode cX3_pass 80 = .ok (.getfield 10, 3) := by decide +kernel
theorem dX3_pass_83 : decode cX3_pass 83 = .ok (.invokevirtual 136, 3) := by decide +kernel
theorem dX3_pass_86 : decode cX3_pass 86 = .ok (.ireturn, 1) := by decide +kernel
set_option maxRecDepth 20000 in
theorem ggX3_burn_X2_hasStory : GoodIn wsX3_burn wsX2_hasStory := goodIn_r _ [7, 8, 9, 10, 11, 59, 60, 61, 62, 63, 64, 65, 66, 67, 68, 69, 70] (by decide +kernel) (by decide +kernel)
set_option maxRecDepth 20000 in
theorem gX3_burn_X2_hasStory : GoodIn wsX3_burn (wsV RX3 105 RX2 yX2_hasStory wsX2_hasStory) := goodIn_app (goodIn_of _ (by decide +kernel)) ggX3_burn_X2_hasStory
set_option maxRecDepth 20000 in
theorem ggX3_burn_X0_record : GoodIn wsX3_burn wsX0_record := goodIn_r _ [16, 17, 18, 19, 20, 21, 22, 6, 23, 24, 25, 26, 27, 28, 29, 30, 31, 8, 32, 33, 34, 35, 36, 37, 38, 39, 40, 41, 71, 72, 73, 59, 60, 61, 62, 63, 64, 65, 66, 67, 68, 69, 70] (by decide +kernel) (by decide +kernel)
set_option maxRecDepth 20000 in
theorem gX3_burn_X0_record : GoodIn wsX3_burn (wsV RX3 61 RX0 yX0_record wsX0_record) := goodIn_app (goodIn_of _ (by decide +kernel)) ggX3_burn_X0_record
set_option maxRecDepth 20000 in
theorem ggX3_burn_X2_sizeOf : GoodIn wsX3_burn wsX2_sizeOf := goodIn_r _ [45, 31, 59, 60, 61, 62, 63, 64, 65, 66, 67, 68, 69, 70] (by decide +kernel) (by decide +kernel)
set_option maxRecDepth 20000 in
theorem gX3_burn_X2_sizeOf : GoodIn wsX3_burn (wsV RX3 139 RX2 yX2_sizeOf wsX2_sizeOf) := goodIn_app (goodIn_of _ (by decide +kernel)) ggX3_burn_X2_sizeOf
set_option maxRecDepth 20000 in
theorem ggX3_burn_X2_remove : GoodIn wsX3_burn wsX2_remove := goodIn_r _ [49, 31, 8, 29, 25, 26, 27, 28, 30, 32, 33, 38, 39, 40, 6, 41, 59, 60, 61, 62, 63, 64, 65, 66, 67, 68, 69, 70] (by decide +kernel) (by decide +kernel)
set_option maxRecDepth 20000 in
theorem gX3_burn_X2_remove : GoodIn wsX3_burn (wsV RX3 116 RX2 yX2_remove wsX2_remove) := goodIn_app (goodIn_of _ (by decide +kernel)) ggX3_burn_X2_remove
theorem dX3_burn_0 : decode cX3_burn 0 = .ok (.aload_n 0, 1) := by decide +kernel
theorem dX3_burn_1 : decode cX3_burn 1 = .ok (.getfield 10, 3) := by decide +kernel
theorem dX3_burn_4 : decode cX3_burn 4 = .ok (.iload_n 1, 1) := by decide +kernel
theorem dX3_burn_5 : decode cX3_burn 5 = .ok (.invokevirtual 105, 3) := by decide +kernel
theorem dX3_burn_8 : decode cX3_burn 8 = .ok (.ifCond .ne 5, 3) := by decide +kernel
theorem dX3_burn_11 : decode cX3_burn 11 = .ok (.iconst (-1), 1) := by decide +kernel
theorem dX3_burn_12 : decode cX3_burn 12 = .ok (.ireturn, 1) := by decide +kernel
theorem dX3_burn_13 : decode cX3_burn 13 = .ok (.aload_n 0, 1) := by decide +kernel
theorem dX3_burn_14 : decode cX3_burn 14 = .ok (.getfield 22, 3) := by decide +kernel
theorem dX3_burn_17 : decode cX3_burn 17 = .ok (.aload_n 0, 1) := by decide +kernel
theorem dX3_burn_18 : decode cX3_burn 18 = .ok (.getfield 10, 3) := by decide +kernel
theorem dX3_burn_21 : decode cX3_burn 21 = .ok (.invokevirtual 61, 3) := by decide +kernel
theorem dX3_burn_24 : decode cX3_burn 24 = .ok (.aload_n 0, 1) := by decide +kernel
theorem dX3_burn_25 : decode cX3_burn 25 = .ok (.getfield 10, 3) := by decide +kernel
theorem dX3_burn_28 : decode cX3_burn 28 = .ok (.iload_n 1, 1) := by decide +kernel
theorem dX3_burn_29 : decode cX3_burn 29 = .ok (.invokevirtual 139, 3) := by decide +kernel
theorem dX3_burn_32 : decode cX3_burn 32 = .ok (.istore_n 2, 1) := by decide +kernel
theorem dX3_burn_33 : decode cX3_burn 33 = .ok (.aload_n 0, 1) := by decide +kernel
theorem dX3_burn_34 : decode cX3_burn 34 = .ok (.getfield 10, 3) := by decide +kernel
theorem dX3_burn_37 : decode cX3_burn 37 = .ok (.iload_n 1, 1) := by decide +kernel
theorem dX3_burn_38 : decode cX3_burn 38 = .ok (.invokevirtual 116, 3) := by decide +kernel
theorem dX3_burn_41 : decode cX3_burn 41 = .ok (.iload_n 2, 1) := by decide +kernel
theorem dX3_burn_42 : decode cX3_burn 42 = .ok (.ireturn, 1) := by decide +kernel
set_option maxRecDepth 20000 in
theorem ggX3_word_X2_hasWord : GoodIn wsX3_word wsX2_hasWord := goodIn_r _ [9, 10, 11, 12, 8, 13, 14, 15, 16, 17, 18, 19, 20, 21, 22, 41, 42, 43, 44, 45, 46, 47, 48, 49, 50, 51, 52] (by decide +kernel) (by decide +kernel)
set_option maxRecDepth 20000 in
theorem gX3_word_X2_hasWord : GoodIn wsX3_word (wsV RX3 94 RX2 yX2_hasWord wsX2_hasWord) := goodIn_app (goodIn_of _ (by decide +kernel)) ggX3_word_X2_hasWord
set_option maxRecDepth 20000 in
theorem ggX3_word_X2_timesIn : GoodIn wsX3_word wsX2_timesIn := goodIn_r _ [26, 22, 27, 28, 29, 8, 30, 31, 41, 42, 43, 44, 45, 46, 47, 48, 49, 50, 51, 52] (by decide +kernel) (by decide +kernel)
set_option maxRecDepth 20000 in
theorem gX3_word_X2_timesIn : GoodIn wsX3_word (wsV RX3 145 RX2 yX2_timesIn wsX2_timesIn) := goodIn_app (goodIn_of _ (by decide +kernel)) ggX3_word_X2_timesIn
theorem dX3_word_0 : decode cX3_word 0 = .ok (.aload_n 0, 1) := by decide +kernel
theorem dX3_word_1 : decode cX3_word 1 = .ok (.getfield 10, 3) := by decide +kernel
theorem dX3_word_4 : decode cX3_word 4 = .ok (.iload_n 1, 1) := by decide +kernel
theorem dX3_word_5 : decode cX3_word 5 = .ok (.iload_n 2, 1) := by decide +kernel
theorem dX3_word_6 : decode cX3_word 6 = .ok (.invokevirtual 94, 3) := by decide +kernel
theorem dX3_word_9 : decode cX3_word 9 = .ok (.ifCond .ne 5, 3) := by decide +kernel
theorem dX3_word_12 : decode cX3_word 12 = .ok (.iconst (-1), 1) := by decide +kernel
theorem dX3_word_13 : decode cX3_word 13 = .ok (.ireturn, 1) := by decide +kernel
theorem dX3_word_14 : decode cX3_word 14 = .ok (.aload_n 0, 1) := by decide +kernel
theorem dX3_word_15 : decode cX3_word 15 = .ok (.getfield 10, 3) := by decide +kernel
theorem dX3_word_18 : decode cX3_word 18 = .ok (.getfield 98, 3) := by decide +kernel
theorem dX3_word_21 : decode cX3_word 21 = .ok (.iload_n 1, 1) := by decide +kernel
theorem dX3_word_22 : decode cX3_word 22 = .ok (.iaload, 1) := by decide +kernel
theorem dX3_word_23 : decode cX3_word 23 = .ok (.iload_n 2, 1) := by decide +kernel
theorem dX3_word_24 : decode cX3_word 24 = .ok (.iadd, 1) := by decide +kernel
theorem dX3_word_25 : decode cX3_word 25 = .ok (.istore 4, 2) := by decide +kernel
theorem dX3_word_27 : decode cX3_word 27 = .ok (.iload_n 3, 1) := by decide +kernel
theorem dX3_word_28 : decode cX3_word 28 = .ok (.tableswitch 69 0 2 #[28, 39, 50], 28) := by decide +kernel
theorem dX3_word_56 : decode cX3_word 56 = .ok (.aload_n 0, 1) := by decide +kernel
theorem dX3_word_57 : decode cX3_word 57 = .ok (.getfield 10, 3) := by decide +kernel
theorem dX3_word_60 : decode cX3_word 60 = .ok (.getfield 142, 3) := by decide +kernel
theorem dX3_word_63 : decode cX3_word 63 = .ok (.iload 4, 2) := by decide +kernel
theorem dX3_word_65 : decode cX3_word 65 = .ok (.iaload, 1) := by decide +kernel
theorem dX3_word_66 : decode cX3_word 66 = .ok (.ireturn, 1) := by decide +kernel
theorem dX3_word_67 : decode cX3_word 67 = .ok (.aload_n 0, 1) := by decide +kernel
theorem dX3_word_68 : decode cX3_word 68 = .ok (.getfield 10, 3) := by decide +kernel
theorem dX3_word_71 : decode cX3_word 71 = .ok (.getfield 133, 3) := by decide +kernel
theorem dX3_word_74 : decode cX3_word 74 = .ok (.iload 4, 2) := by decide +kernel
theorem dX3_word_76 : decode cX3_word 76 = .ok (.iaload, 1) := by decide +kernel
theorem dX3_word_77 : decode cX3_word 77 = .ok (.ireturn, 1) := by decide +kernel
theorem dX3_word_78 : decode cX3_word 78 = .ok (.aload_n 0, 1) := by decide +kernel
theorem dX3_word_79 : decode cX3_word 79 = .ok (.getfield 10, 3) := by decide +kernel
theorem dX3_word_82 : decode cX3_word 82 = .ok (.iload_n 1, 1) := by decide +kernel
theorem dX3_word_83 : decode cX3_word 83 = .ok (.aload_n 0, 1) := by decide +kernel
theorem dX3_word_84 : decode cX3_word 84 = .ok (.getfield 10, 3) := by decide +kernel
theorem dX3_word_87 : decode cX3_word 87 = .ok (.getfield 142, 3) := by decide +kernel
theorem dX3_word_90 : decode cX3_word 90 = .ok (.iload 4, 2) := by decide +kernel
theorem dX3_word_92 : decode cX3_word 92 = .ok (.iaload, 1) := by decide +kernel
theorem dX3_word_93 : decode cX3_word 93 = .ok (.invokevirtual 145, 3) := by decide +kernel
theorem dX3_word_96 : decode cX3_word 96 = .ok (.ireturn, 1) := by decide +kernel
theorem dX3_word_97 : decode cX3_word 97 = .ok (.bipush (-2), 2) := by decide +kernel
theorem dX3_word_99 : decode cX3_word 99 = .ok (.ireturn, 1) := by decide +kernel
set_option maxRecDepth 20000 in
theorem ggX3_story_X2_hasStory : GoodIn wsX3_story wsX2_hasStory := goodIn_r _ [8, 9, 10, 11, 12, 63, 64, 65, 66, 67, 68, 69, 70, 71, 72, 73, 74] (by decide +kernel) (by decide +kernel)
set_option maxRecDepth 20000 in
theorem gX3_story_X2_hasStory : GoodIn wsX3_story (wsV RX3 105 RX2 yX2_hasStory wsX2_hasStory) := goodIn_app (goodIn_of _ (by decide +kernel)) ggX3_story_X2_hasStory
set_option maxRecDepth 20000 in
theorem ggX3_story_X2_sizeOf : GoodIn wsX3_story wsX2_sizeOf := goodIn_r _ [16, 17, 63, 64, 65, 66, 67, 68, 69, 70, 71, 72, 73, 74] (by decide +kernel) (by decide +kernel)
set_option maxRecDepth 20000 in
theorem gX3_story_X2_sizeOf : GoodIn wsX3_story (wsV RX3 139 RX2 yX2_sizeOf wsX2_sizeOf) := goodIn_app (goodIn_of _ (by decide +kernel)) ggX3_story_X2_sizeOf
set_option maxRecDepth 20000 in
theorem ggX3_story_X2_heatOf : GoodIn wsX3_story wsX2_heatOf := goodIn_r _ [21, 17, 22, 23, 24, 7, 25, 26, 63, 64, 65, 66, 67, 68, 69, 70, 71, 72, 73, 74] (by decide +kernel) (by decide +kernel)
set_option maxRecDepth 20000 in
theorem gX3_story_X2_heatOf : GoodIn wsX3_story (wsV RX3 148 RX2 yX2_heatOf wsX2_heatOf) := goodIn_app (goodIn_of _ (by decide +kernel)) ggX3_story_X2_heatOf
set_option maxRecDepth 20000 in
theorem ggX3_story_X2_themeOf : GoodIn wsX3_story wsX2_themeOf := goodIn_r _ [30, 31, 32, 33, 34, 7, 35, 17, 36, 37, 38, 39, 40, 63, 64, 65, 66, 67, 68, 69, 70, 71, 72, 73, 74] (by decide +kernel) (by decide +kernel)
set_option maxRecDepth 20000 in
theorem gX3_story_X2_themeOf : GoodIn wsX3_story (wsV RX3 109 RX2 yX2_themeOf wsX2_themeOf) := goodIn_app (goodIn_of _ (by decide +kernel)) ggX3_story_X2_themeOf
set_option maxRecDepth 20000 in
theorem ggX3_story_X2_hottestOf : GoodIn wsX3_story wsX2_hottestOf := goodIn_r _ [44, 17, 26, 63, 64, 65, 66, 67, 68, 69, 70, 71, 72, 73, 74] (by decide +kernel) (by decide +kernel)
set_option maxRecDepth 20000 in
theorem gX3_story_X2_hottestOf : GoodIn wsX3_story (wsV RX3 154 RX2 yX2_hottestOf wsX2_hottestOf) := goodIn_app (goodIn_of _ (by decide +kernel)) ggX3_story_X2_hottestOf
set_option maxRecDepth 20000 in
theorem ggX3_story_X2_unlikeLettersOf : GoodIn wsX3_story wsX2_unlikeLettersOf := goodIn_r _ [48, 31, 32, 33, 34, 7, 35, 17, 36, 37, 38, 39, 40, 63, 64, 65, 66, 67, 68, 69, 70, 71, 72, 73, 74] (by decide +kernel) (by decide +kernel)
set_option maxRecDepth 20000 in
theorem gX3_story_X2_unlikeLettersOf : GoodIn wsX3_story (wsV RX3 157 RX2 yX2_unlikeLettersOf wsX2_unlikeLettersOf) := goodIn_app (goodIn_of _ (by decide +kernel)) ggX3_story_X2_unlikeLettersOf
set_option maxRecDepth 20000 in
theorem ggX3_story_X2_readsFromBothEnds : GoodIn wsX3_story wsX2_readsFromBothEnds := goodIn_r _ [52, 17, 36, 53, 14, 15, 7, 16, 63, 64, 65, 66, 67, 68, 69, 70, 71, 72, 73, 74] (by decide +kernel) (by decide +kernel)
set_option maxRecDepth 20000 in
theorem gX3_story_X2_readsFromBothEnds : GoodIn wsX3_story (wsV RX3 160 RX2 yX2_readsFromBothEnds wsX2_readsFromBothEnds) := goodIn_app (goodIn_of _ (by decide +kernel)) ggX3_story_X2_readsFromBothEnds
theorem dX3_story_0 : decode cX3_story 0 = .ok (.aload_n 0, 1) := by decide +kernel
theorem dX3_story_1 : decode cX3_story 1 = .ok (.getfield 10, 3) := by decide +kernel
theorem dX3_story_4 : decode cX3_story 4 = .ok (.iload_n 1, 1) := by decide +kernel
theorem dX3_story_5 : decode cX3_story 5 = .ok (.invokevirtual 105, 3) := by decide +kernel
theorem dX3_story_8 : decode cX3_story 8 = .ok (.ifCond .ne 5, 3) := by decide +kernel
theorem dX3_story_11 : decode cX3_story 11 = .ok (.iconst (-1), 1) := by decide +kernel
theorem dX3_story_12 : decode cX3_story 12 = .ok (.ireturn, 1) := by decide +kernel
theorem dX3_story_13 : decode cX3_story 13 = .ok (.iload_n 2, 1) := by decide +kernel
theorem dX3_story_14 : decode cX3_story 14 = .ok (.tableswitch 128 0 7 #[46, 55, 64, 73, 83, 93, 102, 111], 46) := by decide +kernel
theorem dX3_story_60 : decode cX3_story 60 = .ok (.aload_n 0, 1) := by decide +kernel
theorem dX3_story_61 : decode cX3_story 61 = .ok (.getfield 10, 3) := by decide +kernel
theorem dX3_story_64 : decode cX3_story 64 = .ok (.iload_n 1, 1) := by decide +kernel
theorem dX3_story_65 : decode cX3_story 65 = .ok (.invokevirtual 139, 3) := by decide +kernel
theorem dX3_story_68 : decode cX3_story 68 = .ok (.ireturn, 1) := by decide +kernel
theorem dX3_story_69 : decode cX3_story 69 = .ok (.aload_n 0, 1) := by decide +kernel
theorem dX3_story_70 : decode cX3_story 70 = .ok (.getfield 10, 3) := by decide +kernel
theorem dX3_story_73 : decode cX3_story 73 = .ok (.iload_n 1, 1) := by decide +kernel
theorem dX3_story_74 : decode cX3_story 74 = .ok (.invokevirtual 148, 3) := by decide +kernel
theorem dX3_story_77 : decode cX3_story 77 = .ok (.ireturn, 1) := by decide +kernel
theorem dX3_story_78 : decode cX3_story 78 = .ok (.aload_n 0, 1) := by decide +kernel
theorem dX3_story_79 : decode cX3_story 79 = .ok (.getfield 10, 3) := by decide +kernel
theorem dX3_story_82 : decode cX3_story 82 = .ok (.iload_n 1, 1) := by decide +kernel
theorem dX3_story_83 : decode cX3_story 83 = .ok (.invokevirtual 109, 3) := by decide +kernel
theorem dX3_story_86 : decode cX3_story 86 = .ok (.ireturn, 1) := by decide +kernel
theorem dX3_story_87 : decode cX3_story 87 = .ok (.aload_n 0, 1) := by decide +kernel
theorem dX3_story_88 : decode cX3_story 88 = .ok (.getfield 10, 3) := by decide +kernel
theorem dX3_story_91 : decode cX3_story 91 = .ok (.getfield 151, 3) := by decide +kernel
theorem dX3_story_94 : decode cX3_story 94 = .ok (.iload_n 1, 1) := by decide +kernel
theorem dX3_story_95 : decode cX3_story 95 = .ok (.iaload, 1) := by decide +kernel
theorem dX3_story_96 : decode cX3_story 96 = .ok (.ireturn, 1) := by decide +kernel
theorem dX3_story_97 : decode cX3_story 97 = .ok (.aload_n 0, 1) := by decide +kernel
theorem dX3_story_98 : decode cX3_story 98 = .ok (.getfield 10, 3) := by decide +kernel
theorem dX3_story_101 : decode cX3_story 101 = .ok (.getfield 124, 3) := by decide +kernel
theorem dX3_story_104 : decode cX3_story 104 = .ok (.iload_n 1, 1) := by decide +kernel
theorem dX3_story_105 : decode cX3_story 105 = .ok (.iaload, 1) := by decide +kernel
theorem dX3_story_106 : decode cX3_story 106 = .ok (.ireturn, 1) := by decide +kernel
theorem dX3_story_107 : decode cX3_story 107 = .ok (.aload_n 0, 1) := by decide +kernel
theorem dX3_story_108 : decode cX3_story 108 = .ok (.getfield 10, 3) := by decide +kernel
theorem dX3_story_111 : decode cX3_story 111 = .ok (.iload_n 1, 1) := by decide +kernel
theorem dX3_story_112 : decode cX3_story 112 = .ok (.invokevirtual 154, 3) := by decide +kernel
theorem dX3_story_115 : decode cX3_story 115 = .ok (.ireturn, 1) := by decide +kernel
theorem dX3_story_116 : decode cX3_story 116 = .ok (.aload_n 0, 1) := by decide +kernel
theorem dX3_story_117 : decode cX3_story 117 = .ok (.getfield 10, 3) := by decide +kernel
theorem dX3_story_120 : decode cX3_story 120 = .ok (.iload_n 1, 1) := by decide +kernel
theorem dX3_story_121 : decode cX3_story 121 = .ok (.invokevirtual 157, 3) := by decide +kernel
theorem dX3_story_124 : decode cX3_story 124 = .ok (.ireturn, 1) := by decide +kernel
theorem dX3_story_125 : decode cX3_story 125 = .ok (.aload_n 0, 1) := by decide +kernel
theorem dX3_story_126 : decode cX3_story 126 = .ok (.getfield 10, 3) := by decide +kernel
theorem dX3_story_129 : decode cX3_story 129 = .ok (.iload_n 1, 1) := by decide +kernel
theorem dX3_story_130 : decode cX3_story 130 = .ok (.invokevirtual 160, 3) := by decide +kernel
theorem dX3_story_133 : decode cX3_story 133 = .ok (.ifCond .eq 7, 3) := by decide +kernel
theorem dX3_story_136 : decode cX3_story 136 = .ok (.iconst 1, 1) := by decide +kernel
theorem dX3_story_137 : decode cX3_story 137 = .ok (.goto 4, 3) := by decide +kernel
theorem dX3_story_140 : decode cX3_story 140 = .ok (.iconst 0, 1) := by decide +kernel
theorem dX3_story_141 : decode cX3_story 141 = .ok (.ireturn, 1) := by decide +kernel
theorem dX3_story_142 : decode cX3_story 142 = .ok (.bipush (-2), 2) := by decide +kernel
theorem dX3_story_144 : decode cX3_story 144 = .ok (.ireturn, 1) := by decide +kernel
set_option maxRecDepth 20000 in
theorem ggX3_count_X2_words : GoodIn wsX3_count wsX2_words := goodIn_r _ [15, 16, 17, 55, 56, 57, 58, 59, 60, 61, 62, 63, 64, 65, 66] (by decide +kernel) (by decide +kernel)
set_option maxRecDepth 20000 in
theorem gX3_count_X2_words : GoodIn wsX3_count (wsV RX3 79 RX2 yX2_words wsX2_words) := goodIn_app (goodIn_of _ (by decide +kernel)) ggX3_count_X2_words
set_option maxRecDepth 20000 in
theorem ggX3_count_X2_heatOfAll : GoodIn wsX3_count wsX2_heatOfAll := goodIn_r _ [21, 22, 12, 13, 14, 15, 16, 17, 23, 24, 25, 26, 27, 55, 56, 57, 58, 59, 60, 61, 62, 63, 64, 65, 66] (by decide +kernel) (by decide +kernel)
set_option maxRecDepth 20000 in
theorem gX3_count_X2_heatOfAll : GoodIn wsX3_count (wsV RX3 136 RX2 yX2_heatOfAll wsX2_heatOfAll) := goodIn_app (goodIn_of _ (by decide +kernel)) ggX3_count_X2_heatOfAll
set_option maxRecDepth 20000 in
theorem ggX3_count_X2_unlikeFamilies : GoodIn wsX3_count wsX2_unlikeFamilies := goodIn_r _ [31, 17, 32, 33, 34, 14, 35, 36, 55, 56, 57, 58, 59, 60, 61, 62, 63, 64, 65, 66] (by decide +kernel) (by decide +kernel)
set_option maxRecDepth 20000 in
theorem gX3_count_X2_unlikeFamilies : GoodIn wsX3_count (wsV RX3 163 RX2 yX2_unlikeFamilies wsX2_unlikeFamilies) := goodIn_app (goodIn_of _ (by decide +kernel)) ggX3_count_X2_unlikeFamilies
set_option maxRecDepth 20000 in
theorem ggX3_count_X2_greatestGeneration : GoodIn wsX3_count wsX2_greatestGeneration := goodIn_r _ [40, 17, 41, 42, 43, 44, 45, 55, 56, 57, 58, 59, 60, 61, 62, 63, 64, 65, 66] (by decide +kernel) (by decide +kernel)
set_option maxRecDepth 20000 in
theorem gX3_count_X2_greatestGeneration : GoodIn wsX3_count (wsV RX3 175 RX2 yX2_greatestGeneration wsX2_greatestGeneration) := goodIn_app (goodIn_of _ (by decide +kernel)) ggX3_count_X2_greatestGeneration
theorem dX3_count_0 : decode cX3_count 0 = .ok (.iload_n 1, 1) := by decide +kernel
theorem dX3_count_1 : decode cX3_count 1 = .ok (.tableswitch 177 0 12 #[67, 75, 83, 91, 99, 107, 115, 123, 131, 141, 151, 161, 169], 67) := by decide +kernel
theorem dX3_count_68 : decode cX3_count 68 = .ok (.aload_n 0, 1) := by decide +kernel
theorem dX3_count_69 : decode cX3_count 69 = .ok (.getfield 10, 3) := by decide +kernel
theorem dX3_count_72 : decode cX3_count 72 = .ok (.getfield 72, 3) := by decide +kernel
theorem dX3_count_75 : decode cX3_count 75 = .ok (.ireturn, 1) := by decide +kernel
theorem dX3_count_76 : decode cX3_count 76 = .ok (.aload_n 0, 1) := by decide +kernel
theorem dX3_count_77 : decode cX3_count 77 = .ok (.getfield 10, 3) := by decide +kernel
theorem dX3_count_80 : decode cX3_count 80 = .ok (.invokevirtual 79, 3) := by decide +kernel
theorem dX3_count_83 : decode cX3_count 83 = .ok (.ireturn, 1) := by decide +kernel
theorem dX3_count_84 : decode cX3_count 84 = .ok (.aload_n 0, 1) := by decide +kernel
theorem dX3_count_85 : decode cX3_count 85 = .ok (.getfield 10, 3) := by decide +kernel
theorem dX3_count_88 : decode cX3_count 88 = .ok (.invokevirtual 136, 3) := by decide +kernel
theorem dX3_count_91 : decode cX3_count 91 = .ok (.ireturn, 1) := by decide +kernel
theorem dX3_count_92 : decode cX3_count 92 = .ok (.aload_n 0, 1) := by decide +kernel
theorem dX3_count_93 : decode cX3_count 93 = .ok (.getfield 10, 3) := by decide +kernel
theorem dX3_count_96 : decode cX3_count 96 = .ok (.invokevirtual 163, 3) := by decide +kernel
theorem dX3_count_99 : decode cX3_count 99 = .ok (.ireturn, 1) := by decide +kernel
theorem dX3_count_100 : decode cX3_count 100 = .ok (.aload_n 0, 1) := by decide +kernel
theorem dX3_count_101 : decode cX3_count 101 = .ok (.getfield 10, 3) := by decide +kernel
theorem dX3_count_104 : decode cX3_count 104 = .ok (.getfield 166, 3) := by decide +kernel
theorem dX3_count_107 : decode cX3_count 107 = .ok (.ireturn, 1) := by decide +kernel
theorem dX3_count_108 : decode cX3_count 108 = .ok (.aload_n 0, 1) := by decide +kernel
theorem dX3_count_109 : decode cX3_count 109 = .ok (.getfield 10, 3) := by decide +kernel
theorem dX3_count_112 : decode cX3_count 112 = .ok (.getfield 169, 3) := by decide +kernel
theorem dX3_count_115 : decode cX3_count 115 = .ok (.ireturn, 1) := by decide +kernel
theorem dX3_count_116 : decode cX3_count 116 = .ok (.aload_n 0, 1) := by decide +kernel
theorem dX3_count_117 : decode cX3_count 117 = .ok (.getfield 10, 3) := by decide +kernel
theorem dX3_count_120 : decode cX3_count 120 = .ok (.getfield 172, 3) := by decide +kernel
theorem dX3_count_123 : decode cX3_count 123 = .ok (.ireturn, 1) := by decide +kernel
theorem dX3_count_124 : decode cX3_count 124 = .ok (.aload_n 0, 1) := by decide +kernel
theorem dX3_count_125 : decode cX3_count 125 = .ok (.getfield 10, 3) := by decide +kernel
theorem dX3_count_128 : decode cX3_count 128 = .ok (.invokevirtual 175, 3) := by decide +kernel
theorem dX3_count_131 : decode cX3_count 131 = .ok (.ireturn, 1) := by decide +kernel
theorem dX3_count_132 : decode cX3_count 132 = .ok (.aload_n 0, 1) := by decide +kernel
theorem dX3_count_133 : decode cX3_count 133 = .ok (.getfield 10, 3) := by decide +kernel
theorem dX3_count_136 : decode cX3_count 136 = .ok (.getfield 65, 3) := by decide +kernel
theorem dX3_count_139 : decode cX3_count 139 = .ok (.iconst 0, 1) := by decide +kernel
theorem dX3_count_140 : decode cX3_count 140 = .ok (.iaload, 1) := by decide +kernel
theorem dX3_count_141 : decode cX3_count 141 = .ok (.ireturn, 1) := by decide +kernel
theorem dX3_count_142 : decode cX3_count 142 = .ok (.aload_n 0, 1) := by decide +kernel
theorem dX3_count_143 : decode cX3_count 143 = .ok (.getfield 10, 3) := by decide +kernel
theorem dX3_count_146 : decode cX3_count 146 = .ok (.getfield 65, 3) := by decide +kernel
theorem dX3_count_149 : decode cX3_count 149 = .ok (.iconst 1, 1) := by decide +kernel
theorem dX3_count_150 : decode cX3_count 150 = .ok (.iaload, 1) := by decide +kernel
theorem dX3_count_151 : decode cX3_count 151 = .ok (.ireturn, 1) := by decide +kernel
theorem dX3_count_152 : decode cX3_count 152 = .ok (.aload_n 0, 1) := by decide +kernel
theorem dX3_count_153 : decode cX3_count 153 = .ok (.getfield 10, 3) := by decide +kernel
theorem dX3_count_156 : decode cX3_count 156 = .ok (.getfield 65, 3) := by decide +kernel
theorem dX3_count_159 : decode cX3_count 159 = .ok (.iconst 2, 1) := by decide +kernel
theorem dX3_count_160 : decode cX3_count 160 = .ok (.iaload, 1) := by decide +kernel
theorem dX3_count_161 : decode cX3_count 161 = .ok (.ireturn, 1) := by decide +kernel
theorem dX3_count_162 : decode cX3_count 162 = .ok (.aload_n 0, 1) := by decide +kernel
theorem dX3_count_163 : decode cX3_count 163 = .ok (.getfield 37, 3) := by decide +kernel
theorem dX3_count_166 : decode cX3_count 166 = .ok (.getfield 88, 3) := by decide +kernel
theorem dX3_count_169 : decode cX3_count 169 = .ok (.ireturn, 1) := by decide +kernel
theorem dX3_count_170 : decode cX3_count 170 = .ok (.aload_n 0, 1) := by decide +kernel
theorem dX3_count_171 : decode cX3_count 171 = .ok (.getfield 22, 3) := by decide +kernel
theorem dX3_count_174 : decode cX3_count 174 = .ok (.getfield 178, 3) := by decide +kernel
theorem dX3_count_177 : decode cX3_count 177 = .ok (.ireturn, 1) := by decide +kernel
theorem dX3_count_178 : decode cX3_count 178 = .ok (.bipush (-2), 2) := by decide +kernel
theorem dX3_count_180 : decode cX3_count 180 = .ok (.ireturn, 1) := by decide +kernel
set_option maxRecDepth 20000 in
theorem ggX3_letter_X3_isLetter : GoodIn wsX3_letter wsX3_isLetter := goodIn_r _ [5, 6, 7, 4, 8] (by decide +kernel) (by decide +kernel)
set_option maxRecDepth 20000 in
theorem gX3_letter_X3_isLetter : GoodIn wsX3_letter (va_wsS RX3 181 yX3_isLetter wsX3_isLetter) := goodIn_app (goodIn_of _ (by decide +kernel)) ggX3_letter_X3_isLetter
set_option maxRecDepth 20000 in
theorem ggX3_letter_X2_timesInAll : GoodIn wsX3_letter wsX2_timesInAll := goodIn_r _ [13, 14, 15, 16, 12, 17, 18, 19, 20, 21, 22, 23, 24, 64, 65, 66, 67, 68, 69, 70, 71, 72, 73, 74, 75] (by decide +kernel) (by decide +kernel)
set_option maxRecDepth 20000 in
theorem gX3_letter_X2_timesInAll : GoodIn wsX3_letter (wsV RX3 184 RX2 yX2_timesInAll wsX2_timesInAll) := goodIn_app (goodIn_of _ (by decide +kernel)) ggX3_letter_X2_timesInAll
set_option maxRecDepth 20000 in
theorem ggX3_letter_X2_storiesWith : GoodIn wsX3_letter wsX2_storiesWith := goodIn_r _ [28, 19, 29, 30, 31, 12, 32, 18, 20, 21, 22, 23, 24, 64, 65, 66, 67, 68, 69, 70, 71, 72, 73, 74, 75] (by decide +kernel) (by decide +kernel)
set_option maxRecDepth 20000 in
theorem gX3_letter_X2_storiesWith : GoodIn wsX3_letter (wsV RX3 187 RX2 yX2_storiesWith wsX2_storiesWith) := goodIn_app (goodIn_of _ (by decide +kernel)) ggX3_letter_X2_storiesWith
set_option maxRecDepth 20000 in
theorem ggX3_letter_X2_storiesOfTheme : GoodIn wsX3_letter wsX2_storiesOfTheme := goodIn_r _ [36, 19, 37, 38, 39, 12, 40, 41, 42, 43, 44, 45, 18, 24, 46, 47, 48, 49, 64, 65, 66, 67, 68, 69, 70, 71, 72, 73, 74, 75] (by decide +kernel) (by decide +kernel)
set_option maxRecDepth 20000 in
theorem gX3_letter_X2_storiesOfTheme : GoodIn wsX3_letter (wsV RX3 190 RX2 yX2_storiesOfTheme wsX2_storiesOfTheme) := goodIn_app (goodIn_of _ (by decide +kernel)) ggX3_letter_X2_storiesOfTheme
set_option maxRecDepth 20000 in
theorem ggX3_letter_X2_heatOfLetter : GoodIn wsX3_letter wsX2_heatOfLetter := goodIn_r _ [53, 24, 54, 14, 15, 16, 12, 17, 18, 19, 64, 65, 66, 67, 68, 69, 70, 71, 72, 73, 74, 75] (by decide +kernel) (by decide +kernel)
set_option maxRecDepth 20000 in
theorem gX3_letter_X2_heatOfLetter : GoodIn wsX3_letter (wsV RX3 193 RX2 yX2_heatOfLetter wsX2_heatOfLetter) := goodIn_app (goodIn_of _ (by decide +kernel)) ggX3_letter_X2_heatOfLetter
theorem dX3_letter_0 : decode cX3_letter 0 = .ok (.iload_n 1, 1) := by decide +kernel
theorem dX3_letter_1 : decode cX3_letter 1 = .ok (.invokestatic 181, 3) := by decide +kernel
theorem dX3_letter_4 : decode cX3_letter 4 = .ok (.ifCond .ne 6, 3) := by decide +kernel
theorem dX3_letter_7 : decode cX3_letter 7 = .ok (.bipush (-2), 2) := by decide +kernel
theorem dX3_letter_9 : decode cX3_letter 9 = .ok (.ireturn, 1) := by decide +kernel
theorem dX3_letter_10 : decode cX3_letter 10 = .ok (.iload_n 2, 1) := by decide +kernel
theorem dX3_letter_11 : decode cX3_letter 11 = .ok (.tableswitch 65 0 3 #[29, 38, 47, 56], 29) := by decide +kernel
theorem dX3_letter_40 : decode cX3_letter 40 = .ok (.aload_n 0, 1) := by decide +kernel
theorem dX3_letter_41 : decode cX3_letter 41 = .ok (.getfield 10, 3) := by decide +kernel
theorem dX3_letter_44 : decode cX3_letter 44 = .ok (.iload_n 1, 1) := by decide +kernel
theorem dX3_letter_45 : decode cX3_letter 45 = .ok (.invokevirtual 184, 3) := by decide +kernel
theorem dX3_letter_48 : decode cX3_letter 48 = .ok (.ireturn, 1) := by decide +kernel
theorem dX3_letter_49 : decode cX3_letter 49 = .ok (.aload_n 0, 1) := by decide +kernel
theorem dX3_letter_50 : decode cX3_letter 50 = .ok (.getfield 10, 3) := by decide +kernel
theorem dX3_letter_53 : decode cX3_letter 53 = .ok (.iload_n 1, 1) := by decide +kernel
theorem dX3_letter_54 : decode cX3_letter 54 = .ok (.invokevirtual 187, 3) := by decide +kernel
theorem dX3_letter_57 : decode cX3_letter 57 = .ok (.ireturn, 1) := by decide +kernel
theorem dX3_letter_58 : decode cX3_letter 58 = .ok (.aload_n 0, 1) := by decide +kernel
theorem dX3_letter_59 : decode cX3_letter 59 = .ok (.getfield 10, 3) := by decide +kernel
theorem dX3_letter_62 : decode cX3_letter 62 = .ok (.iload_n 1, 1) := by decide +kernel
theorem dX3_letter_63 : decode cX3_letter 63 = .ok (.invokevirtual 190, 3) := by decide +kernel
theorem dX3_letter_66 : decode cX3_letter 66 = .ok (.ireturn, 1) := by decide +kernel
theorem dX3_letter_67 : decode cX3_letter 67 = .ok (.aload_n 0, 1) := by decide +kernel
theorem dX3_letter_68 : decode cX3_letter 68 = .ok (.getfield 10, 3) := by decide +kernel
theorem dX3_letter_71 : decode cX3_letter 71 = .ok (.iload_n 1, 1) := by decide +kernel
theorem dX3_letter_72 : decode cX3_letter 72 = .ok (.invokevirtual 193, 3) := by decide +kernel
theorem dX3_letter_75 : decode cX3_letter 75 = .ok (.ireturn, 1) := by decide +kernel
theorem dX3_letter_76 : decode cX3_letter 76 = .ok (.bipush (-2), 2) := by decide +kernel
theorem dX3_letter_78 : decode cX3_letter 78 = .ok (.ireturn, 1) := by decide +kernel
set_option maxRecDepth 20000 in
theorem ggX3_sideBySide_X3_isLetter : GoodIn wsX3_sideBySide wsX3_isLetter := goodIn_r _ [5, 6, 7, 4, 8] (by decide +kernel) (by decide +kernel)
set_option maxRecDepth 20000 in
theorem gX3_sideBySide_X3_isLetter : GoodIn wsX3_sideBySide (va_wsS RX3 181 yX3_isLetter wsX3_isLetter) := goodIn_app (goodIn_of _ (by decide +kernel)) ggX3_sideBySide_X3_isLetter
set_option maxRecDepth 20000 in
theorem ggX3_sideBySide_X3_isWithin : GoodIn wsX3_sideBySide wsX3_isWithin := goodIn_r _ [8] (by decide +kernel) (by decide +kernel)
set_option maxRecDepth 20000 in
theorem gX3_sideBySide_X3_isWithin : GoodIn wsX3_sideBySide (va_wsS RX3 51 yX3_isWithin wsX3_isWithin) := goodIn_app (goodIn_of _ (by decide +kernel)) ggX3_sideBySide_X3_isWithin
set_option maxRecDepth 20000 in
theorem ggX3_sideBySide_X2_words : GoodIn wsX3_sideBySide wsX2_words := goodIn_r _ [13, 14, 15, 39, 40, 41, 42, 43, 44, 45, 46, 47, 48, 49, 50] (by decide +kernel) (by decide +kernel)
set_option maxRecDepth 20000 in
theorem gX3_sideBySide_X2_words : GoodIn wsX3_sideBySide (wsV RX3 79 RX2 yX2_words wsX2_words) := goodIn_app (goodIn_of _ (by decide +kernel)) ggX3_sideBySide_X2_words
set_option maxRecDepth 20000 in
theorem ggX3_sideBySide_X2_isPair : GoodIn wsX3_sideBySide wsX2_isPair := goodIn_r _ [19, 20, 21, 22, 23, 12, 24, 15, 14, 39, 40, 41, 42, 43, 44, 45, 46, 47, 48, 49, 50] (by decide +kernel) (by decide +kernel)
set_option maxRecDepth 20000 in
theorem gX3_sideBySide_X2_isPair : GoodIn wsX3_sideBySide (wsV RX3 196 RX2 yX2_isPair wsX2_isPair) := goodIn_app (goodIn_of _ (by decide +kernel)) ggX3_sideBySide_X2_isPair
set_option maxRecDepth 20000 in
theorem ggX3_sideBySide_X2_storyAt : GoodIn wsX3_sideBySide wsX2_storyAt := goodIn_r _ [24, 15, 14, 39, 40, 41, 42, 43, 44, 45, 46, 47, 48, 49, 50] (by decide +kernel) (by decide +kernel)
set_option maxRecDepth 20000 in
theorem gX3_sideBySide_X2_storyAt : GoodIn wsX3_sideBySide (wsV RX3 199 RX2 yX2_storyAt wsX2_storyAt) := goodIn_app (goodIn_of _ (by decide +kernel)) ggX3_sideBySide_X2_storyAt
set_option maxRecDepth 20000 in
theorem ggX3_sideBySide_X2_placeOf : GoodIn wsX3_sideBySide wsX2_placeOf := goodIn_r _ [29, 14, 21, 22, 23, 12, 24, 15, 39, 40, 41, 42, 43, 44, 45, 46, 47, 48, 49, 50] (by decide +kernel) (by decide +kernel)
set_option maxRecDepth 20000 in
theorem gX3_sideBySide_X2_placeOf : GoodIn wsX3_sideBySide (wsV RX3 202 RX2 yX2_placeOf wsX2_placeOf) := goodIn_app (goodIn_of _ (by decide +kernel)) ggX3_sideBySide_X2_placeOf
theorem dX3_sideBySide_0 : decode cX3_sideBySide 0 = .ok (.iload_n 1, 1) := by decide +kernel
theorem dX3_sideBySide_1 : decode cX3_sideBySide 1 = .ok (.invokestatic 181, 3) := by decide +kernel
theorem dX3_sideBySide_4 : decode cX3_sideBySide 4 = .ok (.ifCond .eq 19, 3) := by decide +kernel
theorem dX3_sideBySide_7 : decode cX3_sideBySide 7 = .ok (.iload_n 2, 1) := by decide +kernel
theorem dX3_sideBySide_8 : decode cX3_sideBySide 8 = .ok (.invokestatic 181, 3) := by decide +kernel
theorem dX3_sideBySide_11 : decode cX3_sideBySide 11 = .ok (.ifCond .eq 12, 3) := by decide +kernel
theorem dX3_sideBySide_14 : decode cX3_sideBySide 14 = .ok (.iload_n 3, 1) := by decide +kernel
theorem dX3_sideBySide_15 : decode cX3_sideBySide 15 = .ok (.iconst 0, 1) := by decide +kernel
theorem dX3_sideBySide_16 : decode cX3_sideBySide 16 = .ok (.iconst 2, 1) := by decide +kernel
theorem dX3_sideBySide_17 : decode cX3_sideBySide 17 = .ok (.invokestatic 51, 3) := by decide +kernel
theorem dX3_sideBySide_20 : decode cX3_sideBySide 20 = .ok (.ifCond .ne 6, 3) := by decide +kernel
theorem dX3_sideBySide_23 : decode cX3_sideBySide 23 = .ok (.bipush (-2), 2) := by decide +kernel
theorem dX3_sideBySide_25 : decode cX3_sideBySide 25 = .ok (.ireturn, 1) := by decide +kernel
theorem dX3_sideBySide_26 : decode cX3_sideBySide 26 = .ok (.iconst 0, 1) := by decide +kernel
theorem dX3_sideBySide_27 : decode cX3_sideBySide 27 = .ok (.istore 4, 2) := by decide +kernel
theorem dX3_sideBySide_29 : decode cX3_sideBySide 29 = .ok (.bipush (-6), 2) := by decide +kernel
theorem dX3_sideBySide_31 : decode cX3_sideBySide 31 = .ok (.istore 5, 2) := by decide +kernel
theorem dX3_sideBySide_33 : decode cX3_sideBySide 33 = .ok (.iconst 0, 1) := by decide +kernel
theorem dX3_sideBySide_34 : decode cX3_sideBySide 34 = .ok (.istore 6, 2) := by decide +kernel
theorem dX3_sideBySide_36 : decode cX3_sideBySide 36 = .ok (.iload 6, 2) := by decide +kernel
theorem dX3_sideBySide_38 : decode cX3_sideBySide 38 = .ok (.iconst 1, 1) := by decide +kernel
theorem dX3_sideBySide_39 : decode cX3_sideBySide 39 = .ok (.iadd, 1) := by decide +kernel
theorem dX3_sideBySide_40 : decode cX3_sideBySide 40 = .ok (.aload_n 0, 1) := by decide +kernel
theorem dX3_sideBySide_41 : decode cX3_sideBySide 41 = .ok (.getfield 10, 3) := by decide +kernel
theorem dX3_sideBySide_44 : decode cX3_sideBySide 44 = .ok (.invokevirtual 79, 3) := by decide +kernel
theorem dX3_sideBySide_47 : decode cX3_sideBySide 47 = .ok (.if_icmp .ge 40, 3) := by decide +kernel
theorem dX3_sideBySide_50 : decode cX3_sideBySide 50 = .ok (.aload_n 0, 1) := by decide +kernel
theorem dX3_sideBySide_51 : decode cX3_sideBySide 51 = .ok (.getfield 10, 3) := by decide +kernel
theorem dX3_sideBySide_54 : decode cX3_sideBySide 54 = .ok (.iload 6, 2) := by decide +kernel
theorem dX3_sideBySide_56 : decode cX3_sideBySide 56 = .ok (.iload_n 1, 1) := by decide +kernel
theorem dX3_sideBySide_57 : decode cX3_sideBySide 57 = .ok (.iload_n 2, 1) := by decide +kernel
theorem dX3_sideBySide_58 : decode cX3_sideBySide 58 = .ok (.invokevirtual 196, 3) := by decide +kernel
theorem dX3_sideBySide_61 : decode cX3_sideBySide 61 = .ok (.ifCond .eq 20, 3) := by decide +kernel
theorem dX3_sideBySide_64 : decode cX3_sideBySide 64 = .ok (.iload 4, 2) := by decide +kernel
theorem dX3_sideBySide_66 : decode cX3_sideBySide 66 = .ok (.ifCond .ne 8, 3) := by decide +kernel
theorem dX3_sideBySide_69 : decode cX3_sideBySide 69 = .ok (.iload 6, 2) := by decide +kernel
theorem dX3_sideBySide_71 : decode cX3_sideBySide 71 = .ok (.goto 5, 3) := by decide +kernel
theorem dX3_sideBySide_74 : decode cX3_sideBySide 74 = .ok (.iload 5, 2) := by decide +kernel
theorem dX3_sideBySide_76 : decode cX3_sideBySide 76 = .ok (.istore 5, 2) := by decide +kernel
theorem dX3_sideBySide_78 : decode cX3_sideBySide 78 = .ok (.iinc 4 1, 3) := by decide +kernel
theorem dX3_sideBySide_81 : decode cX3_sideBySide 81 = .ok (.iinc 6 1, 3) := by decide +kernel
theorem dX3_sideBySide_84 : decode cX3_sideBySide 84 = .ok (.goto (-48), 3) := by decide +kernel
theorem dX3_sideBySide_87 : decode cX3_sideBySide 87 = .ok (.iload_n 3, 1) := by decide +kernel
theorem dX3_sideBySide_88 : decode cX3_sideBySide 88 = .ok (.ifCond .ne 6, 3) := by decide +kernel
theorem dX3_sideBySide_91 : decode cX3_sideBySide 91 = .ok (.iload 4, 2) := by decide +kernel
theorem dX3_sideBySide_93 : decode cX3_sideBySide 93 = .ok (.ireturn, 1) := by decide +kernel
theorem dX3_sideBySide_94 : decode cX3_sideBySide 94 = .ok (.iload 4, 2) := by decide +kernel
theorem dX3_sideBySide_96 : decode cX3_sideBySide 96 = .ok (.ifCond .ne 6, 3) := by decide +kernel
theorem dX3_sideBySide_99 : decode cX3_sideBySide 99 = .ok (.bipush (-6), 2) := by decide +kernel
theorem dX3_sideBySide_101 : decode cX3_sideBySide 101 = .ok (.ireturn, 1) := by decide +kernel
theorem dX3_sideBySide_102 : decode cX3_sideBySide 102 = .ok (.iload_n 3, 1) := by decide +kernel
theorem dX3_sideBySide_103 : decode cX3_sideBySide 103 = .ok (.iconst 1, 1) := by decide +kernel
theorem dX3_sideBySide_104 : decode cX3_sideBySide 104 = .ok (.if_icmp .ne 15, 3) := by decide +kernel
theorem dX3_sideBySide_107 : decode cX3_sideBySide 107 = .ok (.aload_n 0, 1) := by decide +kernel
theorem dX3_sideBySide_108 : decode cX3_sideBySide 108 = .ok (.getfield 10, 3) := by decide +kernel
theorem dX3_sideBySide_111 : decode cX3_sideBySide 111 = .ok (.iload 5, 2) := by decide +kernel
theorem dX3_sideBySide_113 : decode cX3_sideBySide 113 = .ok (.invokevirtual 199, 3) := by decide +kernel
theorem dX3_sideBySide_116 : decode cX3_sideBySide 116 = .ok (.goto 12, 3) := by decide +kernel
theorem dX3_sideBySide_119 : decode cX3_sideBySide 119 = .ok (.aload_n 0, 1) := by decide +kernel
theorem dX3_sideBySide_120 : decode cX3_sideBySide 120 = .ok (.getfield 10, 3) := by decide +kernel
theorem dX3_sideBySide_123 : decode cX3_sideBySide 123 = .ok (.iload 5, 2) := by decide +kernel
theorem dX3_sideBySide_125 : decode cX3_sideBySide 125 = .ok (.invokevirtual 202, 3) := by decide +kernel
theorem dX3_sideBySide_128 : decode cX3_sideBySide 128 = .ok (.ireturn, 1) := by decide +kernel
set_option maxRecDepth 20000 in
theorem ggX3_common_X2_hasStory : GoodIn wsX3_common wsX2_hasStory := goodIn_r _ [13, 14, 15, 16, 17, 36, 37, 38, 39, 40, 41, 42, 43, 44, 45, 46, 47] (by decide +kernel) (by decide +kernel)
set_option maxRecDepth 20000 in
theorem gX3_common_X2_hasStory : GoodIn wsX3_common (wsV RX3 105 RX2 yX2_hasStory wsX2_hasStory) := goodIn_app (goodIn_of _ (by decide +kernel)) ggX3_common_X2_hasStory
set_option maxRecDepth 20000 in
theorem ggX3_common_X2_sizeOf : GoodIn wsX3_common wsX2_sizeOf := goodIn_r _ [21, 22, 36, 37, 38, 39, 40, 41, 42, 43, 44, 45, 46, 47] (by decide +kernel) (by decide +kernel)
set_option maxRecDepth 20000 in
theorem gX3_common_X2_sizeOf : GoodIn wsX3_common (wsV RX3 139 RX2 yX2_sizeOf wsX2_sizeOf) := goodIn_app (goodIn_of _ (by decide +kernel)) ggX3_common_X2_sizeOf
set_option maxRecDepth 20000 in
theorem ggX3_common_J7_fill_53178 : GoodIn wsX3_common wsJ7_fill_53178 := goodIn_r _ [26] (by decide +kernel) (by decide +kernel)
set_option maxRecDepth 20000 in
theorem gX3_common_J7_fill_53178 : GoodIn wsX3_common (va_wsS RX3 205 yJ7_fill_53178 wsJ7_fill_53178) := goodIn_app (goodIn_of _ (by decide +kernel)) ggX3_common_J7_fill_53178
theorem dX3_common_0 : decode cX3_common 0 = .ok (.aload_n 0, 1) := by decide +kernel
theorem dX3_common_1 : decode cX3_common 1 = .ok (.getfield 10, 3) := by decide +kernel
theorem dX3_common_4 : decode cX3_common 4 = .ok (.iload_n 1, 1) := by decide +kernel
theorem dX3_common_5 : decode cX3_common 5 = .ok (.invokevirtual 105, 3) := by decide +kernel
theorem dX3_common_8 : decode cX3_common 8 = .ok (.ifCond .eq 14, 3) := by decide +kernel
theorem dX3_common_11 : decode cX3_common 11 = .ok (.aload_n 0, 1) := by decide +kernel
theorem dX3_common_12 : decode cX3_common 12 = .ok (.getfield 10, 3) := by decide +kernel
theorem dX3_common_15 : decode cX3_common 15 = .ok (.iload_n 2, 1) := by decide +kernel
theorem dX3_common_16 : decode cX3_common 16 = .ok (.invokevirtual 105, 3) := by decide +kernel
theorem dX3_common_19 : decode cX3_common 19 = .ok (.ifCond .ne 5, 3) := by decide +kernel
theorem dX3_common_22 : decode cX3_common 22 = .ok (.iconst (-1), 1) := by decide +kernel
theorem dX3_common_23 : decode cX3_common 23 = .ok (.ireturn, 1) := by decide +kernel
theorem dX3_common_24 : decode cX3_common 24 = .ok (.aload_n 0, 1) := by decide +kernel
theorem dX3_common_25 : decode cX3_common 25 = .ok (.getfield 10, 3) := by decide +kernel
theorem dX3_common_28 : decode cX3_common 28 = .ok (.getfield 98, 3) := by decide +kernel
theorem dX3_common_31 : decode cX3_common 31 = .ok (.iload_n 2, 1) := by decide +kernel
theorem dX3_common_32 : decode cX3_common 32 = .ok (.iaload, 1) := by decide +kernel
theorem dX3_common_33 : decode cX3_common 33 = .ok (.istore_n 3, 1) := by decide +kernel
theorem dX3_common_34 : decode cX3_common 34 = .ok (.aload_n 0, 1) := by decide +kernel
theorem dX3_common_35 : decode cX3_common 35 = .ok (.getfield 10, 3) := by decide +kernel
theorem dX3_common_38 : decode cX3_common 38 = .ok (.iload_n 2, 1) := by decide +kernel
theorem dX3_common_39 : decode cX3_common 39 = .ok (.invokevirtual 139, 3) := by decide +kernel
theorem dX3_common_42 : decode cX3_common 42 = .ok (.istore 4, 2) := by decide +kernel
theorem dX3_common_44 : decode cX3_common 44 = .ok (.aload_n 0, 1) := by decide +kernel
theorem dX3_common_45 : decode cX3_common 45 = .ok (.getfield 41, 3) := by decide +kernel
theorem dX3_common_48 : decode cX3_common 48 = .ok (.iconst 0, 1) := by decide +kernel
theorem dX3_common_49 : decode cX3_common 49 = .ok (.invokestatic 205, 3) := by decide +kernel
theorem dX3_common_52 : decode cX3_common 52 = .ok (.iconst 0, 1) := by decide +kernel
theorem dX3_common_53 : decode cX3_common 53 = .ok (.istore 5, 2) := by decide +kernel
theorem dX3_common_55 : decode cX3_common 55 = .ok (.aload_n 0, 1) := by decide +kernel
theorem dX3_common_56 : decode cX3_common 56 = .ok (.getfield 10, 3) := by decide +kernel
theorem dX3_common_59 : decode cX3_common 59 = .ok (.getfield 98, 3) := by decide +kernel
theorem dX3_common_62 : decode cX3_common 62 = .ok (.iload_n 1, 1) := by decide +kernel
theorem dX3_common_63 : decode cX3_common 63 = .ok (.iaload, 1) := by decide +kernel
theorem dX3_common_64 : decode cX3_common 64 = .ok (.istore 6, 2) := by decide +kernel
theorem dX3_common_66 : decode cX3_common 66 = .ok (.iload 6, 2) := by decide +kernel
theorem dX3_common_68 : decode cX3_common 68 = .ok (.aload_n 0, 1) := by decide +kernel
theorem dX3_common_69 : decode cX3_common 69 = .ok (.getfield 10, 3) := by decide +kernel
theorem dX3_common_72 : decode cX3_common 72 = .ok (.getfield 98, 3) := by decide +kernel
theorem dX3_common_75 : decode cX3_common 75 = .ok (.iload_n 1, 1) := by decide +kernel
theorem dX3_common_76 : decode cX3_common 76 = .ok (.iconst 1, 1) := by decide +kernel
theorem dX3_common_77 : decode cX3_common 77 = .ok (.iadd, 1) := by decide +kernel
theorem dX3_common_78 : decode cX3_common 78 = .ok (.iaload, 1) := by decide +kernel
theorem dX3_common_79 : decode cX3_common 79 = .ok (.if_icmp .ge 112, 3) := by decide +kernel
theorem dX3_common_82 : decode cX3_common 82 = .ok (.iload 4, 2) := by decide +kernel
theorem dX3_common_84 : decode cX3_common 84 = .ok (.iconst 1, 1) := by decide +kernel
theorem dX3_common_85 : decode cX3_common 85 = .ok (.isub, 1) := by decide +kernel
theorem dX3_common_86 : decode cX3_common 86 = .ok (.istore 7, 2) := by decide +kernel
theorem dX3_common_88 : decode cX3_common 88 = .ok (.iload 7, 2) := by decide +kernel
theorem dX3_common_90 : decode cX3_common 90 = .ok (.ifCond .lt 95, 3) := by decide +kernel
theorem dX3_common_93 : decode cX3_common 93 = .ok (.aload_n 0, 1) := by decide +kernel
theorem dX3_common_94 : decode cX3_common 94 = .ok (.getfield 10, 3) := by decide +kernel
theorem dX3_common_97 : decode cX3_common 97 = .ok (.getfield 142, 3) := by decide +kernel
theorem dX3_common_100 : decode cX3_common 100 = .ok (.iload 6, 2) := by decide +kernel
theorem dX3_common_102 : decode cX3_common 102 = .ok (.iaload, 1) := by decide +kernel
theorem dX3_common_103 : decode cX3_common 103 = .ok (.aload_n 0, 1) := by decide +kernel
theorem dX3_common_104 : decode cX3_common 104 = .ok (.getfield 10, 3) := by decide +kernel
theorem dX3_common_107 : decode cX3_common 107 = .ok (.getfield 142, 3) := by decide +kernel
theorem dX3_common_110 : decode cX3_common 110 = .ok (.iload_n 3, 1) := by decide +kernel
theorem dX3_common_111 : decode cX3_common 111 = .ok (.iload 7, 2) := by decide +kernel
theorem dX3_common_113 : decode cX3_common 113 = .ok (.iadd, 1) := by decide +kernel
theorem dX3_common_114 : decode cX3_common 114 = .ok (.iaload, 1) := by decide +kernel
theorem dX3_common_115 : decode cX3_common 115 = .ok (.if_icmp .ne 7, 3) := by decide +kernel
theorem dX3_common_118 : decode cX3_common 118 = .ok (.iconst 1, 1) := by decide +kernel
theorem dX3_common_119 : decode cX3_common 119 = .ok (.goto 4, 3) := by decide +kernel
theorem dX3_common_122 : decode cX3_common 122 = .ok (.iconst 0, 1) := by decide +kernel
theorem dX3_common_123 : decode cX3_common 123 = .ok (.istore 8, 2) := by decide +kernel
theorem dX3_common_125 : decode cX3_common 125 = .ok (.iload 7, 2) := by decide +kernel
theorem dX3_common_127 : decode cX3_common 127 = .ok (.ifCond .le 15, 3) := by decide +kernel
theorem dX3_common_130 : decode cX3_common 130 = .ok (.aload_n 0, 1) := by decide +kernel
theorem dX3_common_131 : decode cX3_common 131 = .ok (.getfield 41, 3) := by decide +kernel
theorem dX3_common_134 : decode cX3_common 134 = .ok (.iload 7, 2) := by decide +kernel
theorem dX3_common_136 : decode cX3_common 136 = .ok (.iconst 1, 1) := by decide +kernel
theorem dX3_common_137 : decode cX3_common 137 = .ok (.isub, 1) := by decide +kernel
theorem dX3_common_138 : decode cX3_common 138 = .ok (.iaload, 1) := by decide +kernel
theorem dX3_common_139 : decode cX3_common 139 = .ok (.goto 4, 3) := by decide +kernel
theorem dX3_common_142 : decode cX3_common 142 = .ok (.iconst 0, 1) := by decide +kernel
theorem dX3_common_143 : decode cX3_common 143 = .ok (.istore 9, 2) := by decide +kernel
theorem dX3_common_145 : decode cX3_common 145 = .ok (.aload_n 0, 1) := by decide +kernel
theorem dX3_common_146 : decode cX3_common 146 = .ok (.getfield 41, 3) := by decide +kernel
theorem dX3_common_149 : decode cX3_common 149 = .ok (.iload 7, 2) := by decide +kernel
theorem dX3_common_151 : decode cX3_common 151 = .ok (.iload 8, 2) := by decide +kernel
theorem dX3_common_153 : decode cX3_common 153 = .ok (.ifCond .eq 10, 3) := by decide +kernel
theorem dX3_common_156 : decode cX3_common 156 = .ok (.iload 9, 2) := by decide +kernel
theorem dX3_common_158 : decode cX3_common 158 = .ok (.iconst 1, 1) := by decide +kernel
theorem dX3_common_159 : decode cX3_common 159 = .ok (.iadd, 1) := by decide +kernel
theorem dX3_common_160 : decode cX3_common 160 = .ok (.goto 4, 3) := by decide +kernel
theorem dX3_common_163 : decode cX3_common 163 = .ok (.iconst 0, 1) := by decide +kernel
theorem dX3_common_164 : decode cX3_common 164 = .ok (.iastore, 1) := by decide +kernel
theorem dX3_common_165 : decode cX3_common 165 = .ok (.iload 5, 2) := by decide +kernel
theorem dX3_common_167 : decode cX3_common 167 = .ok (.aload_n 0, 1) := by decide +kernel
theorem dX3_common_168 : decode cX3_common 168 = .ok (.getfield 41, 3) := by decide +kernel
theorem dX3_common_171 : decode cX3_common 171 = .ok (.iload 7, 2) := by decide +kernel
theorem dX3_common_173 : decode cX3_common 173 = .ok (.iaload, 1) := by decide +kernel
theorem dX3_common_174 : decode cX3_common 174 = .ok (.invokestatic 127, 3) := by decide +kernel
theorem dX3_common_177 : decode cX3_common 177 = .ok (.istore 5, 2) := by decide +kernel
theorem dX3_common_179 : decode cX3_common 179 = .ok (.iinc 7 (-1), 3) := by decide +kernel
theorem dX3_common_182 : decode cX3_common 182 = .ok (.goto (-94), 3) := by decide +kernel
theorem dX3_common_185 : decode cX3_common 185 = .ok (.iinc 6 1, 3) := by decide +kernel
theorem dX3_common_188 : decode cX3_common 188 = .ok (.goto (-122), 3) := by decide +kernel
theorem dX3_common_191 : decode cX3_common 191 = .ok (.iload 5, 2) := by decide +kernel
theorem dX3_common_193 : decode cX3_common 193 = .ok (.ireturn, 1) := by decide +kernel
set_option maxRecDepth 20000 in
theorem ggX3_ifHeated_X2_hasWord : GoodIn wsX3_ifHeated wsX2_hasWord := goodIn_r _ [10, 11, 12, 13, 9, 14, 15, 16, 17, 18, 19, 20, 21, 22, 23, 96, 97, 98, 99, 100, 101, 102, 103, 104, 105, 106, 107] (by decide +kernel) (by decide +kernel)
set_option maxRecDepth 20000 in
theorem gX3_ifHeated_X2_hasWord : GoodIn wsX3_ifHeated (wsV RX3 94 RX2 yX2_hasWord wsX2_hasWord) := goodIn_app (goodIn_of _ (by decide +kernel)) ggX3_ifHeated_X2_hasWord
set_option maxRecDepth 20000 in
theorem ggX3_ifHeated_X3_isWithin : GoodIn wsX3_ifHeated wsX3_isWithin := goodIn_r _ [18] (by decide +kernel) (by decide +kernel)
set_option maxRecDepth 20000 in
theorem gX3_ifHeated_X3_isWithin : GoodIn wsX3_ifHeated (va_wsS RX3 51 yX3_isWithin wsX3_isWithin) := goodIn_app (goodIn_of _ (by decide +kernel)) ggX3_ifHeated_X3_isWithin
set_option maxRecDepth 20000 in
theorem ggX3_ifHeated_X3_tryHeating : GoodIn wsX3_ifHeated wsX3_tryHeating := goodIn_r _ [28, 3, 1, 29, 30, 31, 9, 32, 33, 34, 35, 36, 37, 38, 39, 23, 15, 40, 41, 42, 43, 44, 45, 46, 47, 48, 49, 50, 51, 52, 53, 54, 55, 56, 57, 58, 59, 60, 61, 62, 63, 64, 65, 66, 67, 68, 69, 70, 71, 72, 73, 74, 75, 76, 77, 78, 87, 88, 89, 90, 91, 92, 93, 94, 95, 96, 97, 98, 99, 100, 101, 102, 103, 104, 105, 106, 107] (by decide +kernel) (by decide +kernel)
set_option maxRecDepth 20000 in
theorem gX3_ifHeated_X3_tryHeating : GoodIn wsX3_ifHeated (wsV RX3 211 RX3 yX3_tryHeating wsX3_tryHeating) := goodIn_app (goodIn_of _ (by decide +kernel)) ggX3_ifHeated_X3_tryHeating
set_option maxRecDepth 20000 in
theorem ggX3_ifHeated_X2_heatOfAll : GoodIn wsX3_ifHeated wsX2_heatOfAll := goodIn_r _ [82, 46, 47, 48, 9, 49, 23, 15, 83, 84, 85, 86, 39, 96, 97, 98, 99, 100, 101, 102, 103, 104, 105, 106, 107] (by decide +kernel) (by decide +kernel)
set_option maxRecDepth 20000 in
theorem gX3_ifHeated_X2_heatOfAll : GoodIn wsX3_ifHeated (wsV RX3 136 RX2 yX2_heatOfAll wsX2_heatOfAll) := goodIn_app (goodIn_of _ (by decide +kernel)) ggX3_ifHeated_X2_heatOfAll
theorem dX3_ifHeated_0 : decode cX3_ifHeated 0 = .ok (.aload_n 0, 1) := by decide +kernel
theorem dX3_ifHeated_1 : decode cX3_ifHeated 1 = .ok (.getfield 10, 3) := by decide +kernel
theorem dX3_ifHeated_4 : decode cX3_ifHeated 4 = .ok (.iload_n 1, 1) := by decide +kernel
theorem dX3_ifHeated_5 : decode cX3_ifHeated 5 = .ok (.iload_n 2, 1) := by decide +kernel
theorem dX3_ifHeated_6 : decode cX3_ifHeated 6 = .ok (.invokevirtual 94, 3) := by decide +kernel
theorem dX3_ifHeated_9 : decode cX3_ifHeated 9 = .ok (.ifCond .ne 5, 3) := by decide +kernel
theorem dX3_ifHeated_12 : decode cX3_ifHeated 12 = .ok (.iconst (-1), 1) := by decide +kernel
theorem dX3_ifHeated_13 : decode cX3_ifHeated 13 = .ok (.ireturn, 1) := by decide +kernel
theorem dX3_ifHeated_14 : decode cX3_ifHeated 14 = .ok (.iload_n 3, 1) := by decide +kernel
theorem dX3_ifHeated_15 : decode cX3_ifHeated 15 = .ok (.iconst 1, 1) := by decide +kernel
theorem dX3_ifHeated_16 : decode cX3_ifHeated 16 = .ok (.sipush 500, 3) := by decide +kernel
theorem dX3_ifHeated_19 : decode cX3_ifHeated 19 = .ok (.invokestatic 51, 3) := by decide +kernel
theorem dX3_ifHeated_22 : decode cX3_ifHeated 22 = .ok (.ifCond .eq 13, 3) := by decide +kernel
theorem dX3_ifHeated_25 : decode cX3_ifHeated 25 = .ok (.iload 4, 2) := by decide +kernel
theorem dX3_ifHeated_27 : decode cX3_ifHeated 27 = .ok (.iconst 0, 1) := by decide +kernel
theorem dX3_ifHeated_28 : decode cX3_ifHeated 28 = .ok (.iconst 3, 1) := by decide +kernel
theorem dX3_ifHeated_29 : decode cX3_ifHeated 29 = .ok (.invokestatic 51, 3) := by decide +kernel
theorem dX3_ifHeated_32 : decode cX3_ifHeated 32 = .ok (.ifCond .ne 6, 3) := by decide +kernel
theorem dX3_ifHeated_35 : decode cX3_ifHeated 35 = .ok (.bipush (-2), 2) := by decide +kernel
theorem dX3_ifHeated_37 : decode cX3_ifHeated 37 = .ok (.ireturn, 1) := by decide +kernel
theorem dX3_ifHeated_38 : decode cX3_ifHeated 38 = .ok (.aload_n 0, 1) := by decide +kernel
theorem dX3_ifHeated_39 : decode cX3_ifHeated 39 = .ok (.aload_n 0, 1) := by decide +kernel
theorem dX3_ifHeated_40 : decode cX3_ifHeated 40 = .ok (.getfield 10, 3) := by decide +kernel
theorem dX3_ifHeated_43 : decode cX3_ifHeated 43 = .ok (.getfield 98, 3) := by decide +kernel
theorem dX3_ifHeated_46 : decode cX3_ifHeated 46 = .ok (.iload_n 1, 1) := by decide +kernel
theorem dX3_ifHeated_47 : decode cX3_ifHeated 47 = .ok (.iaload, 1) := by decide +kernel
theorem dX3_ifHeated_48 : decode cX3_ifHeated 48 = .ok (.iload_n 2, 1) := by decide +kernel
theorem dX3_ifHeated_49 : decode cX3_ifHeated 49 = .ok (.iadd, 1) := by decide +kernel
theorem dX3_ifHeated_50 : decode cX3_ifHeated 50 = .ok (.iload_n 3, 1) := by decide +kernel
theorem dX3_ifHeated_51 : decode cX3_ifHeated 51 = .ok (.invokevirtual 211, 3) := by decide +kernel
theorem dX3_ifHeated_54 : decode cX3_ifHeated 54 = .ok (.istore 5, 2) := by decide +kernel
theorem dX3_ifHeated_56 : decode cX3_ifHeated 56 = .ok (.iload 4, 2) := by decide +kernel
theorem dX3_ifHeated_58 : decode cX3_ifHeated 58 = .ok (.tableswitch 53 0 2 #[26, 29, 45], 26) := by decide +kernel
theorem dX3_ifHeated_84 : decode cX3_ifHeated 84 = .ok (.iload 5, 2) := by decide +kernel
theorem dX3_ifHeated_86 : decode cX3_ifHeated 86 = .ok (.ireturn, 1) := by decide +kernel
theorem dX3_ifHeated_87 : decode cX3_ifHeated 87 = .ok (.aload_n 0, 1) := by decide +kernel
theorem dX3_ifHeated_88 : decode cX3_ifHeated 88 = .ok (.getfield 16, 3) := by decide +kernel
theorem dX3_ifHeated_91 : decode cX3_ifHeated 91 = .ok (.getfield 166, 3) := by decide +kernel
theorem dX3_ifHeated_94 : decode cX3_ifHeated 94 = .ok (.aload_n 0, 1) := by decide +kernel
theorem dX3_ifHeated_95 : decode cX3_ifHeated 95 = .ok (.getfield 10, 3) := by decide +kernel
theorem dX3_ifHeated_98 : decode cX3_ifHeated 98 = .ok (.getfield 166, 3) := by decide +kernel
theorem dX3_ifHeated_101 : decode cX3_ifHeated 101 = .ok (.isub, 1) := by decide +kernel
theorem dX3_ifHeated_102 : decode cX3_ifHeated 102 = .ok (.ireturn, 1) := by decide +kernel
theorem dX3_ifHeated_103 : decode cX3_ifHeated 103 = .ok (.aload_n 0, 1) := by decide +kernel
theorem dX3_ifHeated_104 : decode cX3_ifHeated 104 = .ok (.getfield 16, 3) := by decide +kernel
theorem dX3_ifHeated_107 : decode cX3_ifHeated 107 = .ok (.getfield 72, 3) := by decide +kernel
theorem dX3_ifHeated_110 : decode cX3_ifHeated 110 = .ok (.ireturn, 1) := by decide +kernel
theorem dX3_ifHeated_111 : decode cX3_ifHeated 111 = .ok (.aload_n 0, 1) := by decide +kernel
theorem dX3_ifHeated_112 : decode cX3_ifHeated 112 = .ok (.getfield 16, 3) := by decide +kernel
theorem dX3_ifHeated_115 : decode cX3_ifHeated 115 = .ok (.invokevirtual 136, 3) := by decide +kernel
theorem dX3_ifHeated_118 : decode cX3_ifHeated 118 = .ok (.ireturn, 1) := by decide +kernel
set_option maxRecDepth 20000 in
theorem ggX3_critical_X2_hasWord : GoodIn wsX3_critical wsX2_hasWord := goodIn_r _ [15, 16, 17, 18, 14, 19, 20, 21, 22, 23, 24, 25, 26, 27, 28, 93, 94, 95, 96, 97, 98, 99, 100, 101, 102, 103, 104] (by decide +kernel) (by decide +kernel)
set_option maxRecDepth 20000 in
theorem gX3_critical_X2_hasWord : GoodIn wsX3_critical (wsV RX3 94 RX2 yX2_hasWord wsX2_hasWord) := goodIn_app (goodIn_of _ (by decide +kernel)) ggX3_critical_X2_hasWord
set_option maxRecDepth 20000 in
theorem ggX3_critical_X2_isCalm : GoodIn wsX3_critical wsX2_isCalm := goodIn_r _ [32, 33, 34, 35, 36, 37, 14, 38, 28, 20, 93, 94, 95, 96, 97, 98, 99, 100, 101, 102, 103, 104] (by decide +kernel) (by decide +kernel)
set_option maxRecDepth 20000 in
theorem gX3_critical_X2_isCalm : GoodIn wsX3_critical (wsV RX3 214 RX2 yX2_isCalm wsX2_isCalm) := goodIn_app (goodIn_of _ (by decide +kernel)) ggX3_critical_X2_isCalm
set_option maxRecDepth 20000 in
theorem ggX3_critical_X3_tryHeating : GoodIn wsX3_critical wsX3_tryHeating := goodIn_r _ [42, 9, 1, 43, 44, 45, 14, 46, 34, 47, 48, 49, 50, 51, 33, 28, 20, 52, 53, 54, 55, 56, 57, 35, 36, 37, 38, 58, 59, 60, 61, 62, 63, 7, 64, 65, 66, 67, 68, 69, 70, 6, 8, 71, 72, 73, 74, 75, 76, 77, 78, 79, 80, 81, 82, 83, 84, 85, 86, 87, 88, 89, 90, 91, 92, 93, 94, 95, 96, 97, 98, 99, 100, 101, 102, 103, 104] (by decide +kernel) (by decide +kernel)
set_option maxRecDepth 20000 in
theorem gX3_critical_X3_tryHeating : GoodIn wsX3_critical (wsV RX3 211 RX3 yX3_tryHeating wsX3_tryHeating) := goodIn_app (goodIn_of _ (by decide +kernel)) ggX3_critical_X3_tryHeating
theorem dX3_critical_0 : decode cX3_critical 0 = .ok (.aload_n 0, 1) := by decide +kernel
theorem dX3_critical_1 : decode cX3_critical 1 = .ok (.getfield 10, 3) := by decide +kernel
theorem dX3_critical_4 : decode cX3_critical 4 = .ok (.iload_n 1, 1) := by decide +kernel
theorem dX3_critical_5 : decode cX3_critical 5 = .ok (.iload_n 2, 1) := by decide +kernel
theorem dX3_critical_6 : decode cX3_critical 6 = .ok (.invokevirtual 94, 3) := by decide +kernel
theorem dX3_critical_9 : decode cX3_critical 9 = .ok (.ifCond .ne 5, 3) := by decide +kernel
theorem dX3_critical_12 : decode cX3_critical 12 = .ok (.iconst (-1), 1) := by decide +kernel
theorem dX3_critical_13 : decode cX3_critical 13 = .ok (.ireturn, 1) := by decide +kernel
theorem dX3_critical_14 : decode cX3_critical 14 = .ok (.aload_n 0, 1) := by decide +kernel
theorem dX3_critical_15 : decode cX3_critical 15 = .ok (.getfield 10, 3) := by decide +kernel
theorem dX3_critical_18 : decode cX3_critical 18 = .ok (.getfield 98, 3) := by decide +kernel
theorem dX3_critical_21 : decode cX3_critical 21 = .ok (.iload_n 1, 1) := by decide +kernel
theorem dX3_critical_22 : decode cX3_critical 22 = .ok (.iaload, 1) := by decide +kernel
theorem dX3_critical_23 : decode cX3_critical 23 = .ok (.iload_n 2, 1) := by decide +kernel
theorem dX3_critical_24 : decode cX3_critical 24 = .ok (.iadd, 1) := by decide +kernel
theorem dX3_critical_25 : decode cX3_critical 25 = .ok (.istore_n 3, 1) := by decide +kernel
theorem dX3_critical_26 : decode cX3_critical 26 = .ok (.iconst 1, 1) := by decide +kernel
theorem dX3_critical_27 : decode cX3_critical 27 = .ok (.aload_n 0, 1) := by decide +kernel
theorem dX3_critical_28 : decode cX3_critical 28 = .ok (.getfield 10, 3) := by decide +kernel
theorem dX3_critical_31 : decode cX3_critical 31 = .ok (.getfield 65, 3) := by decide +kernel
theorem dX3_critical_34 : decode cX3_critical 34 = .ok (.iconst 0, 1) := by decide +kernel
theorem dX3_critical_35 : decode cX3_critical 35 = .ok (.iaload, 1) := by decide +kernel
theorem dX3_critical_36 : decode cX3_critical 36 = .ok (.aload_n 0, 1) := by decide +kernel
theorem dX3_critical_37 : decode cX3_critical 37 = .ok (.getfield 10, 3) := by decide +kernel
theorem dX3_critical_40 : decode cX3_critical 40 = .ok (.getfield 133, 3) := by decide +kernel
theorem dX3_critical_43 : decode cX3_critical 43 = .ok (.iload_n 3, 1) := by decide +kernel
theorem dX3_critical_44 : decode cX3_critical 44 = .ok (.iaload, 1) := by decide +kernel
theorem dX3_critical_45 : decode cX3_critical 45 = .ok (.isub, 1) := by decide +kernel
theorem dX3_critical_46 : decode cX3_critical 46 = .ok (.invokestatic 127, 3) := by decide +kernel
theorem dX3_critical_49 : decode cX3_critical 49 = .ok (.istore 4, 2) := by decide +kernel
theorem dX3_critical_51 : decode cX3_critical 51 = .ok (.aload_n 0, 1) := by decide +kernel
theorem dX3_critical_52 : decode cX3_critical 52 = .ok (.getfield 10, 3) := by decide +kernel
theorem dX3_critical_55 : decode cX3_critical 55 = .ok (.invokevirtual 214, 3) := by decide +kernel
theorem dX3_critical_58 : decode cX3_critical 58 = .ok (.ifCond .eq 8, 3) := by decide +kernel
theorem dX3_critical_61 : decode cX3_critical 61 = .ok (.iload 4, 2) := by decide +kernel
theorem dX3_critical_63 : decode cX3_critical 63 = .ok (.goto 4, 3) := by decide +kernel
theorem dX3_critical_66 : decode cX3_critical 66 = .ok (.iconst 1, 1) := by decide +kernel
theorem dX3_critical_67 : decode cX3_critical 67 = .ok (.istore 5, 2) := by decide +kernel
theorem dX3_critical_69 : decode cX3_critical 69 = .ok (.iload 5, 2) := by decide +kernel
theorem dX3_critical_71 : decode cX3_critical 71 = .ok (.istore 6, 2) := by decide +kernel
theorem dX3_critical_73 : decode cX3_critical 73 = .ok (.iload 6, 2) := by decide +kernel
theorem dX3_critical_75 : decode cX3_critical 75 = .ok (.iload 4, 2) := by decide +kernel
theorem dX3_critical_77 : decode cX3_critical 77 = .ok (.if_icmp .gt 37, 3) := by decide +kernel
theorem dX3_critical_80 : decode cX3_critical 80 = .ok (.aload_n 0, 1) := by decide +kernel
theorem dX3_critical_81 : decode cX3_critical 81 = .ok (.iload_n 3, 1) := by decide +kernel
theorem dX3_critical_82 : decode cX3_critical 82 = .ok (.iload 6, 2) := by decide +kernel
theorem dX3_critical_84 : decode cX3_critical 84 = .ok (.invokevirtual 211, 3) := by decide +kernel
theorem dX3_critical_87 : decode cX3_critical 87 = .ok (.pop, 1) := by decide +kernel
theorem dX3_critical_88 : decode cX3_critical 88 = .ok (.aload_n 0, 1) := by decide +kernel
theorem dX3_critical_89 : decode cX3_critical 89 = .ok (.getfield 16, 3) := by decide +kernel
theorem dX3_critical_92 : decode cX3_critical 92 = .ok (.getfield 166, 3) := by decide +kernel
theorem dX3_critical_95 : decode cX3_critical 95 = .ok (.aload_n 0, 1) := by decide +kernel
theorem dX3_critical_96 : decode cX3_critical 96 = .ok (.getfield 10, 3) := by decide +kernel
theorem dX3_critical_99 : decode cX3_critical 99 = .ok (.getfield 166, 3) := by decide +kernel
theorem dX3_critical_102 : decode cX3_critical 102 = .ok (.if_icmp .le 6, 3) := by decide +kernel
theorem dX3_critical_105 : decode cX3_critical 105 = .ok (.iload 6, 2) := by decide +kernel
theorem dX3_critical_107 : decode cX3_critical 107 = .ok (.ireturn, 1) := by decide +kernel
theorem dX3_critical_108 : decode cX3_critical 108 = .ok (.iinc 6 1, 3) := by decide +kernel
theorem dX3_critical_111 : decode cX3_critical 111 = .ok (.goto (-38), 3) := by decide +kernel
theorem dX3_critical_114 : decode cX3_critical 114 = .ok (.bipush (-6), 2) := by decide +kernel
theorem dX3_critical_116 : decode cX3_critical 116 = .ok (.ireturn, 1) := by decide +kernel
set_option maxRecDepth 20000 in
theorem ggX3_touchiest_X3_isWithin : GoodIn wsX3_touchiest wsX3_isWithin := goodIn_r _ [8] (by decide +kernel) (by decide +kernel)
set_option maxRecDepth 20000 in
theorem gX3_touchiest_X3_isWithin : GoodIn wsX3_touchiest (va_wsS RX3 51 yX3_isWithin wsX3_isWithin) := goodIn_app (goodIn_of _ (by decide +kernel)) ggX3_touchiest_X3_isWithin
set_option maxRecDepth 20000 in
theorem ggX3_touchiest_X2_isCalm : GoodIn wsX3_touchiest wsX2_isCalm := goodIn_r _ [13, 14, 15, 16, 17, 18, 12, 19, 20, 21, 86, 87, 88, 89, 90, 91, 92, 93, 94, 95, 96, 97] (by decide +kernel) (by decide +kernel)
set_option maxRecDepth 20000 in
theorem gX3_touchiest_X2_isCalm : GoodIn wsX3_touchiest (wsV RX3 214 RX2 yX2_isCalm wsX2_isCalm) := goodIn_app (goodIn_of _ (by decide +kernel)) ggX3_touchiest_X2_isCalm
set_option maxRecDepth 20000 in
theorem ggX3_touchiest_X2_words : GoodIn wsX3_touchiest wsX2_words := goodIn_r _ [19, 20, 21, 86, 87, 88, 89, 90, 91, 92, 93, 94, 95, 96, 97] (by decide +kernel) (by decide +kernel)
set_option maxRecDepth 20000 in
theorem gX3_touchiest_X2_words : GoodIn wsX3_touchiest (wsV RX3 79 RX2 yX2_words wsX2_words) := goodIn_app (goodIn_of _ (by decide +kernel)) ggX3_touchiest_X2_words
set_option maxRecDepth 20000 in
theorem ggX3_touchiest_X3_tryHeating : GoodIn wsX3_touchiest wsX3_tryHeating := goodIn_r _ [26, 27, 1, 28, 29, 30, 12, 31, 15, 32, 33, 34, 35, 36, 14, 20, 21, 37, 38, 39, 40, 41, 42, 16, 17, 18, 19, 43, 44, 45, 46, 47, 48, 49, 50, 51, 52, 53, 54, 55, 56, 57, 58, 59, 60, 61, 62, 63, 64, 65, 66, 67, 68, 69, 70, 71, 77, 78, 79, 80, 81, 82, 83, 84, 85, 86, 87, 88, 89, 90, 91, 92, 93, 94, 95, 96, 97] (by decide +kernel) (by decide +kernel)
set_option maxRecDepth 20000 in
theorem gX3_touchiest_X3_tryHeating : GoodIn wsX3_touchiest (wsV RX3 211 RX3 yX3_tryHeating wsX3_tryHeating) := goodIn_app (goodIn_of _ (by decide +kernel)) ggX3_touchiest_X3_tryHeating
set_option maxRecDepth 20000 in
theorem ggX3_touchiest_X2_storyAt : GoodIn wsX3_touchiest wsX2_storyAt := goodIn_r _ [66, 21, 20, 86, 87, 88, 89, 90, 91, 92, 93, 94, 95, 96, 97] (by decide +kernel) (by decide +kernel)
set_option maxRecDepth 20000 in
theorem gX3_touchiest_X2_storyAt : GoodIn wsX3_touchiest (wsV RX3 199 RX2 yX2_storyAt wsX2_storyAt) := goodIn_app (goodIn_of _ (by decide +kernel)) ggX3_touchiest_X2_storyAt
set_option maxRecDepth 20000 in
theorem ggX3_touchiest_X2_placeOf : GoodIn wsX3_touchiest wsX2_placeOf := goodIn_r _ [76, 20, 63, 64, 65, 12, 66, 21, 86, 87, 88, 89, 90, 91, 92, 93, 94, 95, 96, 97] (by decide +kernel) (by decide +kernel)
set_option maxRecDepth 20000 in
theorem gX3_touchiest_X2_placeOf : GoodIn wsX3_touchiest (wsV RX3 202 RX2 yX2_placeOf wsX2_placeOf) := goodIn_app (goodIn_of _ (by decide +kernel)) ggX3_touchiest_X2_placeOf
theorem dX3_touchiest_0 : decode cX3_touchiest 0 = .ok (.iload_n 1, 1) := by decide +kernel
theorem dX3_touchiest_1 : decode cX3_touchiest 1 = .ok (.iconst 1, 1) := by decide +kernel
theorem dX3_touchiest_2 : decode cX3_touchiest 2 = .ok (.sipush 500, 3) := by decide +kernel
theorem dX3_touchiest_5 : decode cX3_touchiest 5 = .ok (.invokestatic 51, 3) := by decide +kernel
theorem dX3_touchiest_8 : decode cX3_touchiest 8 = .ok (.ifCond .eq 12, 3) := by decide +kernel
theorem dX3_touchiest_11 : decode cX3_touchiest 11 = .ok (.iload_n 2, 1) := by decide +kernel
theorem dX3_touchiest_12 : decode cX3_touchiest 12 = .ok (.iconst 0, 1) := by decide +kernel
theorem dX3_touchiest_13 : decode cX3_touchiest 13 = .ok (.iconst 2, 1) := by decide +kernel
theorem dX3_touchiest_14 : decode cX3_touchiest 14 = .ok (.invokestatic 51, 3) := by decide +kernel
theorem dX3_touchiest_17 : decode cX3_touchiest 17 = .ok (.ifCond .ne 6, 3) := by decide +kernel
theorem dX3_touchiest_20 : decode cX3_touchiest 20 = .ok (.bipush (-2), 2) := by decide +kernel
theorem dX3_touchiest_22 : decode cX3_touchiest 22 = .ok (.ireturn, 1) := by decide +kernel
theorem dX3_touchiest_23 : decode cX3_touchiest 23 = .ok (.aload_n 0, 1) := by decide +kernel
theorem dX3_touchiest_24 : decode cX3_touchiest 24 = .ok (.getfield 10, 3) := by decide +kernel
theorem dX3_touchiest_27 : decode cX3_touchiest 27 = .ok (.getfield 72, 3) := by decide +kernel
theorem dX3_touchiest_30 : decode cX3_touchiest 30 = .ok (.ifCond .ne 6, 3) := by decide +kernel
theorem dX3_touchiest_33 : decode cX3_touchiest 33 = .ok (.bipush (-6), 2) := by decide +kernel
theorem dX3_touchiest_35 : decode cX3_touchiest 35 = .ok (.ireturn, 1) := by decide +kernel
theorem dX3_touchiest_36 : decode cX3_touchiest 36 = .ok (.aload_n 0, 1) := by decide +kernel
theorem dX3_touchiest_37 : decode cX3_touchiest 37 = .ok (.getfield 10, 3) := by decide +kernel
theorem dX3_touchiest_40 : decode cX3_touchiest 40 = .ok (.invokevirtual 214, 3) := by decide +kernel
theorem dX3_touchiest_43 : decode cX3_touchiest 43 = .ok (.istore_n 3, 1) := by decide +kernel
theorem dX3_touchiest_44 : decode cX3_touchiest 44 = .ok (.iconst 0, 1) := by decide +kernel
theorem dX3_touchiest_45 : decode cX3_touchiest 45 = .ok (.istore 4, 2) := by decide +kernel
theorem dX3_touchiest_47 : decode cX3_touchiest 47 = .ok (.iconst (-1), 1) := by decide +kernel
theorem dX3_touchiest_48 : decode cX3_touchiest 48 = .ok (.istore 5, 2) := by decide +kernel
theorem dX3_touchiest_50 : decode cX3_touchiest 50 = .ok (.iconst 0, 1) := by decide +kernel
theorem dX3_touchiest_51 : decode cX3_touchiest 51 = .ok (.istore 6, 2) := by decide +kernel
theorem dX3_touchiest_53 : decode cX3_touchiest 53 = .ok (.iload 6, 2) := by decide +kernel
theorem dX3_touchiest_55 : decode cX3_touchiest 55 = .ok (.aload_n 0, 1) := by decide +kernel
theorem dX3_touchiest_56 : decode cX3_touchiest 56 = .ok (.getfield 10, 3) := by decide +kernel
theorem dX3_touchiest_59 : decode cX3_touchiest 59 = .ok (.invokevirtual 79, 3) := by decide +kernel
theorem dX3_touchiest_62 : decode cX3_touchiest 62 = .ok (.if_icmp .ge 77, 3) := by decide +kernel
theorem dX3_touchiest_65 : decode cX3_touchiest 65 = .ok (.iload_n 3, 1) := by decide +kernel
theorem dX3_touchiest_66 : decode cX3_touchiest 66 = .ok (.ifCond .eq 31, 3) := by decide +kernel
theorem dX3_touchiest_69 : decode cX3_touchiest 69 = .ok (.aload_n 0, 1) := by decide +kernel
theorem dX3_touchiest_70 : decode cX3_touchiest 70 = .ok (.getfield 10, 3) := by decide +kernel
theorem dX3_touchiest_73 : decode cX3_touchiest 73 = .ok (.getfield 133, 3) := by decide +kernel
theorem dX3_touchiest_76 : decode cX3_touchiest 76 = .ok (.iload 6, 2) := by decide +kernel
theorem dX3_touchiest_78 : decode cX3_touchiest 78 = .ok (.iaload, 1) := by decide +kernel
theorem dX3_touchiest_79 : decode cX3_touchiest 79 = .ok (.iload_n 1, 1) := by decide +kernel
theorem dX3_touchiest_80 : decode cX3_touchiest 80 = .ok (.iadd, 1) := by decide +kernel
theorem dX3_touchiest_81 : decode cX3_touchiest 81 = .ok (.aload_n 0, 1) := by decide +kernel
theorem dX3_touchiest_82 : decode cX3_touchiest 82 = .ok (.getfield 10, 3) := by decide +kernel
theorem dX3_touchiest_85 : decode cX3_touchiest 85 = .ok (.getfield 65, 3) := by decide +kernel
theorem dX3_touchiest_88 : decode cX3_touchiest 88 = .ok (.iconst 0, 1) := by decide +kernel
theorem dX3_touchiest_89 : decode cX3_touchiest 89 = .ok (.iaload, 1) := by decide +kernel
theorem dX3_touchiest_90 : decode cX3_touchiest 90 = .ok (.if_icmp .ge 7, 3) := by decide +kernel
theorem dX3_touchiest_93 : decode cX3_touchiest 93 = .ok (.iconst 1, 1) := by decide +kernel
theorem dX3_touchiest_94 : decode cX3_touchiest 94 = .ok (.goto 4, 3) := by decide +kernel
theorem dX3_touchiest_97 : decode cX3_touchiest 97 = .ok (.iconst 0, 1) := by decide +kernel
theorem dX3_touchiest_98 : decode cX3_touchiest 98 = .ok (.istore 7, 2) := by decide +kernel
theorem dX3_touchiest_100 : decode cX3_touchiest 100 = .ok (.iload 7, 2) := by decide +kernel
theorem dX3_touchiest_102 : decode cX3_touchiest 102 = .ok (.ifCond .eq 7, 3) := by decide +kernel
theorem dX3_touchiest_105 : decode cX3_touchiest 105 = .ok (.iconst 0, 1) := by decide +kernel
theorem dX3_touchiest_106 : decode cX3_touchiest 106 = .ok (.goto 10, 3) := by decide +kernel
theorem dX3_touchiest_109 : decode cX3_touchiest 109 = .ok (.aload_n 0, 1) := by decide +kernel
theorem dX3_touchiest_110 : decode cX3_touchiest 110 = .ok (.iload 6, 2) := by decide +kernel
theorem dX3_touchiest_112 : decode cX3_touchiest 112 = .ok (.iload_n 1, 1) := by decide +kernel
theorem dX3_touchiest_113 : decode cX3_touchiest 113 = .ok (.invokevirtual 211, 3) := by decide +kernel
theorem dX3_touchiest_116 : decode cX3_touchiest 116 = .ok (.istore 8, 2) := by decide +kernel
theorem dX3_touchiest_118 : decode cX3_touchiest 118 = .ok (.iload 8, 2) := by decide +kernel
theorem dX3_touchiest_120 : decode cX3_touchiest 120 = .ok (.iload 5, 2) := by decide +kernel
theorem dX3_touchiest_122 : decode cX3_touchiest 122 = .ok (.if_icmp .le 11, 3) := by decide +kernel
theorem dX3_touchiest_125 : decode cX3_touchiest 125 = .ok (.iload 8, 2) := by decide +kernel
theorem dX3_touchiest_127 : decode cX3_touchiest 127 = .ok (.istore 5, 2) := by decide +kernel
theorem dX3_touchiest_129 : decode cX3_touchiest 129 = .ok (.iload 6, 2) := by decide +kernel
theorem dX3_touchiest_131 : decode cX3_touchiest 131 = .ok (.istore 4, 2) := by decide +kernel
theorem dX3_touchiest_133 : decode cX3_touchiest 133 = .ok (.iinc 6 1, 3) := by decide +kernel
theorem dX3_touchiest_136 : decode cX3_touchiest 136 = .ok (.goto (-83), 3) := by decide +kernel
theorem dX3_touchiest_139 : decode cX3_touchiest 139 = .ok (.iload_n 2, 1) := by decide +kernel
theorem dX3_touchiest_140 : decode cX3_touchiest 140 = .ok (.lookupswitch 48 #[(0, 28), (1, 38)], 28) := by decide +kernel
theorem dX3_touchiest_168 : decode cX3_touchiest 168 = .ok (.aload_n 0, 1) := by decide +kernel
theorem dX3_touchiest_169 : decode cX3_touchiest 169 = .ok (.getfield 10, 3) := by decide +kernel
theorem dX3_touchiest_172 : decode cX3_touchiest 172 = .ok (.iload 4, 2) := by decide +kernel
theorem dX3_touchiest_174 : decode cX3_touchiest 174 = .ok (.invokevirtual 199, 3) := by decide +kernel
theorem dX3_touchiest_177 : decode cX3_touchiest 177 = .ok (.ireturn, 1) := by decide +kernel
theorem dX3_touchiest_178 : decode cX3_touchiest 178 = .ok (.aload_n 0, 1) := by decide +kernel
theorem dX3_touchiest_179 : decode cX3_touchiest 179 = .ok (.getfield 10, 3) := by decide +kernel
theorem dX3_touchiest_182 : decode cX3_touchiest 182 = .ok (.iload 4, 2) := by decide +kernel
theorem dX3_touchiest_184 : decode cX3_touchiest 184 = .ok (.invokevirtual 202, 3) := by decide +kernel
theorem dX3_touchiest_187 : decode cX3_touchiest 187 = .ok (.ireturn, 1) := by decide +kernel
theorem dX3_touchiest_188 : decode cX3_touchiest 188 = .ok (.iload 5, 2) := by decide +kernel
theorem dX3_touchiest_190 : decode cX3_touchiest 190 = .ok (.ireturn, 1) := by decide +kernel
set_option maxRecDepth 20000 in
theorem ggX3_coolestPair_X3_isWithin : GoodIn wsX3_coolestPair wsX3_isWithin := goodIn_r _ [8] (by decide +kernel) (by decide +kernel)
set_option maxRecDepth 20000 in
theorem gX3_coolestPair_X3_isWithin : GoodIn wsX3_coolestPair (va_wsS RX3 51 yX3_isWithin wsX3_isWithin) := goodIn_app (goodIn_of _ (by decide +kernel)) ggX3_coolestPair_X3_isWithin
set_option maxRecDepth 20000 in
theorem ggX3_coolestPair_X2_themeOf : GoodIn wsX3_coolestPair wsX2_themeOf := goodIn_r _ [13, 14, 15, 16, 17, 12, 18, 19, 20, 21, 22, 23, 24, 43, 44, 45, 46, 47, 48, 49, 50, 51, 52, 53, 54] (by decide +kernel) (by decide +kernel)
set_option maxRecDepth 20000 in
theorem gX3_coolestPair_X2_themeOf : GoodIn wsX3_coolestPair (wsV RX3 109 RX2 yX2_themeOf wsX2_themeOf) := goodIn_app (goodIn_of _ (by decide +kernel)) ggX3_coolestPair_X2_themeOf
set_option maxRecDepth 20000 in
theorem ggX3_coolestPair_X2_heatOf : GoodIn wsX3_coolestPair wsX2_heatOf := goodIn_r _ [28, 19, 29, 30, 31, 12, 32, 33, 43, 44, 45, 46, 47, 48, 49, 50, 51, 52, 53, 54] (by decide +kernel) (by decide +kernel)
set_option maxRecDepth 20000 in
theorem gX3_coolestPair_X2_heatOf : GoodIn wsX3_coolestPair (wsV RX3 148 RX2 yX2_heatOf wsX2_heatOf) := goodIn_app (goodIn_of _ (by decide +kernel)) ggX3_coolestPair_X2_heatOf
theorem dX3_coolestPair_0 : decode cX3_coolestPair 0 = .ok (.iload_n 1, 1) := by decide +kernel
theorem dX3_coolestPair_1 : decode cX3_coolestPair 1 = .ok (.iconst 0, 1) := by decide +kernel
theorem dX3_coolestPair_2 : decode cX3_coolestPair 2 = .ok (.iconst 1, 1) := by decide +kernel
theorem dX3_coolestPair_3 : decode cX3_coolestPair 3 = .ok (.invokestatic 51, 3) := by decide +kernel
theorem dX3_coolestPair_6 : decode cX3_coolestPair 6 = .ok (.ifCond .ne 6, 3) := by decide +kernel
theorem dX3_coolestPair_9 : decode cX3_coolestPair 9 = .ok (.bipush (-2), 2) := by decide +kernel
theorem dX3_coolestPair_11 : decode cX3_coolestPair 11 = .ok (.ireturn, 1) := by decide +kernel
theorem dX3_coolestPair_12 : decode cX3_coolestPair 12 = .ok (.iconst 0, 1) := by decide +kernel
theorem dX3_coolestPair_13 : decode cX3_coolestPair 13 = .ok (.istore_n 2, 1) := by decide +kernel
theorem dX3_coolestPair_14 : decode cX3_coolestPair 14 = .ok (.iload_n 2, 1) := by decide +kernel
theorem dX3_coolestPair_15 : decode cX3_coolestPair 15 = .ok (.aload_n 0, 1) := by decide +kernel
theorem dX3_coolestPair_16 : decode cX3_coolestPair 16 = .ok (.getfield 10, 3) := by decide +kernel
theorem dX3_coolestPair_19 : decode cX3_coolestPair 19 = .ok (.getfield 72, 3) := by decide +kernel
theorem dX3_coolestPair_22 : decode cX3_coolestPair 22 = .ok (.if_icmp .ge 37, 3) := by decide +kernel
theorem dX3_coolestPair_25 : decode cX3_coolestPair 25 = .ok (.aload_n 0, 1) := by decide +kernel
theorem dX3_coolestPair_26 : decode cX3_coolestPair 26 = .ok (.getfield 45, 3) := by decide +kernel
theorem dX3_coolestPair_29 : decode cX3_coolestPair 29 = .ok (.iload_n 2, 1) := by decide +kernel
theorem dX3_coolestPair_30 : decode cX3_coolestPair 30 = .ok (.aload_n 0, 1) := by decide +kernel
theorem dX3_coolestPair_31 : decode cX3_coolestPair 31 = .ok (.getfield 10, 3) := by decide +kernel
theorem dX3_coolestPair_34 : decode cX3_coolestPair 34 = .ok (.iload_n 2, 1) := by decide +kernel
theorem dX3_coolestPair_35 : decode cX3_coolestPair 35 = .ok (.invokevirtual 109, 3) := by decide +kernel
theorem dX3_coolestPair_38 : decode cX3_coolestPair 38 = .ok (.iastore, 1) := by decide +kernel
theorem dX3_coolestPair_39 : decode cX3_coolestPair 39 = .ok (.aload_n 0, 1) := by decide +kernel
theorem dX3_coolestPair_40 : decode cX3_coolestPair 40 = .ok (.getfield 48, 3) := by decide +kernel
theorem dX3_coolestPair_43 : decode cX3_coolestPair 43 = .ok (.iload_n 2, 1) := by decide +kernel
theorem dX3_coolestPair_44 : decode cX3_coolestPair 44 = .ok (.aload_n 0, 1) := by decide +kernel
theorem dX3_coolestPair_45 : decode cX3_coolestPair 45 = .ok (.getfield 10, 3) := by decide +kernel
theorem dX3_coolestPair_48 : decode cX3_coolestPair 48 = .ok (.iload_n 2, 1) := by decide +kernel
theorem dX3_coolestPair_49 : decode cX3_coolestPair 49 = .ok (.invokevirtual 148, 3) := by decide +kernel
theorem dX3_coolestPair_52 : decode cX3_coolestPair 52 = .ok (.iastore, 1) := by decide +kernel
theorem dX3_coolestPair_53 : decode cX3_coolestPair 53 = .ok (.iinc 2 1, 3) := by decide +kernel
theorem dX3_coolestPair_56 : decode cX3_coolestPair 56 = .ok (.goto (-42), 3) := by decide +kernel
theorem dX3_coolestPair_59 : decode cX3_coolestPair 59 = .ok (.bipush (-6), 2) := by decide +kernel
theorem dX3_coolestPair_61 : decode cX3_coolestPair 61 = .ok (.istore_n 2, 1) := by decide +kernel
theorem dX3_coolestPair_62 : decode cX3_coolestPair 62 = .ok (.bipush (-6), 2) := by decide +kernel
theorem dX3_coolestPair_64 : decode cX3_coolestPair 64 = .ok (.istore_n 3, 1) := by decide +kernel
theorem dX3_coolestPair_65 : decode cX3_coolestPair 65 = .ok (.iconst 0, 1) := by decide +kernel
theorem dX3_coolestPair_66 : decode cX3_coolestPair 66 = .ok (.istore 4, 2) := by decide +kernel
theorem dX3_coolestPair_68 : decode cX3_coolestPair 68 = .ok (.iconst 0, 1) := by decide +kernel
theorem dX3_coolestPair_69 : decode cX3_coolestPair 69 = .ok (.istore 5, 2) := by decide +kernel
theorem dX3_coolestPair_71 : decode cX3_coolestPair 71 = .ok (.iload 5, 2) := by decide +kernel
theorem dX3_coolestPair_73 : decode cX3_coolestPair 73 = .ok (.aload_n 0, 1) := by decide +kernel
theorem dX3_coolestPair_74 : decode cX3_coolestPair 74 = .ok (.getfield 10, 3) := by decide +kernel
theorem dX3_coolestPair_77 : decode cX3_coolestPair 77 = .ok (.getfield 72, 3) := by decide +kernel
theorem dX3_coolestPair_80 : decode cX3_coolestPair 80 = .ok (.if_icmp .ge 90, 3) := by decide +kernel
theorem dX3_coolestPair_83 : decode cX3_coolestPair 83 = .ok (.iload 5, 2) := by decide +kernel
theorem dX3_coolestPair_85 : decode cX3_coolestPair 85 = .ok (.iconst 1, 1) := by decide +kernel
theorem dX3_coolestPair_86 : decode cX3_coolestPair 86 = .ok (.iadd, 1) := by decide +kernel
theorem dX3_coolestPair_87 : decode cX3_coolestPair 87 = .ok (.istore 6, 2) := by decide +kernel
theorem dX3_coolestPair_89 : decode cX3_coolestPair 89 = .ok (.iload 6, 2) := by decide +kernel
theorem dX3_coolestPair_91 : decode cX3_coolestPair 91 = .ok (.aload_n 0, 1) := by decide +kernel
theorem dX3_coolestPair_92 : decode cX3_coolestPair 92 = .ok (.getfield 10, 3) := by decide +kernel
theorem dX3_coolestPair_95 : decode cX3_coolestPair 95 = .ok (.getfield 72, 3) := by decide +kernel
theorem dX3_coolestPair_98 : decode cX3_coolestPair 98 = .ok (.if_icmp .ge 66, 3) := by decide +kernel
theorem dX3_coolestPair_101 : decode cX3_coolestPair 101 = .ok (.aload_n 0, 1) := by decide +kernel
theorem dX3_coolestPair_102 : decode cX3_coolestPair 102 = .ok (.getfield 48, 3) := by decide +kernel
theorem dX3_coolestPair_105 : decode cX3_coolestPair 105 = .ok (.iload 5, 2) := by decide +kernel
theorem dX3_coolestPair_107 : decode cX3_coolestPair 107 = .ok (.iaload, 1) := by decide +kernel
theorem dX3_coolestPair_108 : decode cX3_coolestPair 108 = .ok (.aload_n 0, 1) := by decide +kernel
theorem dX3_coolestPair_109 : decode cX3_coolestPair 109 = .ok (.getfield 48, 3) := by decide +kernel
theorem dX3_coolestPair_112 : decode cX3_coolestPair 112 = .ok (.iload 6, 2) := by decide +kernel
theorem dX3_coolestPair_114 : decode cX3_coolestPair 114 = .ok (.iaload, 1) := by decide +kernel
theorem dX3_coolestPair_115 : decode cX3_coolestPair 115 = .ok (.iadd, 1) := by decide +kernel
theorem dX3_coolestPair_116 : decode cX3_coolestPair 116 = .ok (.istore 7, 2) := by decide +kernel
theorem dX3_coolestPair_118 : decode cX3_coolestPair 118 = .ok (.aload_n 0, 1) := by decide +kernel
theorem dX3_coolestPair_119 : decode cX3_coolestPair 119 = .ok (.getfield 45, 3) := by decide +kernel
theorem dX3_coolestPair_122 : decode cX3_coolestPair 122 = .ok (.iload 5, 2) := by decide +kernel
theorem dX3_coolestPair_124 : decode cX3_coolestPair 124 = .ok (.iaload, 1) := by decide +kernel
theorem dX3_coolestPair_125 : decode cX3_coolestPair 125 = .ok (.aload_n 0, 1) := by decide +kernel
theorem dX3_coolestPair_126 : decode cX3_coolestPair 126 = .ok (.getfield 45, 3) := by decide +kernel
theorem dX3_coolestPair_129 : decode cX3_coolestPair 129 = .ok (.iload 6, 2) := by decide +kernel
theorem dX3_coolestPair_131 : decode cX3_coolestPair 131 = .ok (.iaload, 1) := by decide +kernel
theorem dX3_coolestPair_132 : decode cX3_coolestPair 132 = .ok (.if_icmp .ne 26, 3) := by decide +kernel
theorem dX3_coolestPair_135 : decode cX3_coolestPair 135 = .ok (.iload_n 2, 1) := by decide +kernel
theorem dX3_coolestPair_136 : decode cX3_coolestPair 136 = .ok (.bipush (-6), 2) := by decide +kernel
theorem dX3_coolestPair_138 : decode cX3_coolestPair 138 = .ok (.if_icmp .eq 10, 3) := by decide +kernel
theorem dX3_coolestPair_141 : decode cX3_coolestPair 141 = .ok (.iload 7, 2) := by decide +kernel
theorem dX3_coolestPair_143 : decode cX3_coolestPair 143 = .ok (.iload 4, 2) := by decide +kernel
theorem dX3_coolestPair_145 : decode cX3_coolestPair 145 = .ok (.if_icmp .ge 13, 3) := by decide +kernel
theorem dX3_coolestPair_148 : decode cX3_coolestPair 148 = .ok (.iload 7, 2) := by decide +kernel
theorem dX3_coolestPair_150 : decode cX3_coolestPair 150 = .ok (.istore 4, 2) := by decide +kernel
theorem dX3_coolestPair_152 : decode cX3_coolestPair 152 = .ok (.iload 5, 2) := by decide +kernel
theorem dX3_coolestPair_154 : decode cX3_coolestPair 154 = .ok (.istore_n 2, 1) := by decide +kernel
theorem dX3_coolestPair_155 : decode cX3_coolestPair 155 = .ok (.iload 6, 2) := by decide +kernel
theorem dX3_coolestPair_157 : decode cX3_coolestPair 157 = .ok (.istore_n 3, 1) := by decide +kernel
theorem dX3_coolestPair_158 : decode cX3_coolestPair 158 = .ok (.iinc 6 1, 3) := by decide +kernel
theorem dX3_coolestPair_161 : decode cX3_coolestPair 161 = .ok (.goto (-72), 3) := by decide +kernel
theorem dX3_coolestPair_164 : decode cX3_coolestPair 164 = .ok (.iinc 5 1, 3) := by decide +kernel
theorem dX3_coolestPair_167 : decode cX3_coolestPair 167 = .ok (.goto (-96), 3) := by decide +kernel
theorem dX3_coolestPair_170 : decode cX3_coolestPair 170 = .ok (.iload_n 1, 1) := by decide +kernel
theorem dX3_coolestPair_171 : decode cX3_coolestPair 171 = .ok (.ifCond .ne 7, 3) := by decide +kernel
theorem dX3_coolestPair_174 : decode cX3_coolestPair 174 = .ok (.iload_n 2, 1) := by decide +kernel
theorem dX3_coolestPair_175 : decode cX3_coolestPair 175 = .ok (.goto 4, 3) := by decide +kernel
theorem dX3_coolestPair_178 : decode cX3_coolestPair 178 = .ok (.iload_n 3, 1) := by decide +kernel
theorem dX3_coolestPair_179 : decode cX3_coolestPair 179 = .ok (.ireturn, 1) := by decide +kernel
set_option maxRecDepth 20000 in
theorem ggX3_put_X1_charactersIn : GoodIn wsX3_put wsX1_charactersIn := goodIn_r _ [6, 7, 8, 9, 10] (by decide +kernel) (by decide +kernel)
set_option maxRecDepth 20000 in
theorem gX3_put_X1_charactersIn : GoodIn wsX3_put (va_wsS RX3 218 yX1_charactersIn wsX1_charactersIn) := goodIn_app (goodIn_of _ (by decide +kernel)) ggX3_put_X1_charactersIn
set_option maxRecDepth 20000 in
theorem ggX3_put_X1_add : GoodIn wsX3_put wsX1_add := goodIn_r _ [14, 15, 16, 7, 26, 27] (by decide +kernel) (by decide +kernel)
set_option maxRecDepth 20000 in
theorem gX3_put_X1_add : GoodIn wsX3_put (wsV RX3 222 RX1 yX1_add wsX1_add) := goodIn_app (goodIn_of _ (by decide +kernel)) ggX3_put_X1_add
theorem dX3_put_0 : decode cX3_put 0 = .ok (.lload_n 1, 1) := by decide +kernel
theorem dX3_put_1 : decode cX3_put 1 = .ok (.invokestatic 218, 3) := by decide +kernel
theorem dX3_put_4 : decode cX3_put 4 = .ok (.istore_n 3, 1) := by decide +kernel
theorem dX3_put_5 : decode cX3_put 5 = .ok (.iload_n 3, 1) := by decide +kernel
theorem dX3_put_6 : decode cX3_put 6 = .ok (.ifCond .ne 6, 3) := by decide +kernel
theorem dX3_put_9 : decode cX3_put 9 = .ok (.bipush (-2), 2) := by decide +kernel
theorem dX3_put_11 : decode cX3_put 11 = .ok (.ireturn, 1) := by decide +kernel
theorem dX3_put_12 : decode cX3_put 12 = .ok (.aload_n 0, 1) := by decide +kernel
theorem dX3_put_13 : decode cX3_put 13 = .ok (.getfield 37, 3) := by decide +kernel
theorem dX3_put_16 : decode cX3_put 16 = .ok (.getfield 88, 3) := by decide +kernel
theorem dX3_put_19 : decode cX3_put 19 = .ok (.iload_n 3, 1) := by decide +kernel
theorem dX3_put_20 : decode cX3_put 20 = .ok (.iadd, 1) := by decide +kernel
theorem dX3_put_21 : decode cX3_put 21 = .ok (.bipush 60, 2) := by decide +kernel
theorem dX3_put_23 : decode cX3_put 23 = .ok (.if_icmp .le 6, 3) := by decide +kernel
theorem dX3_put_26 : decode cX3_put 26 = .ok (.bipush (-4), 2) := by decide +kernel
theorem dX3_put_28 : decode cX3_put 28 = .ok (.ireturn, 1) := by decide +kernel
theorem dX3_put_29 : decode cX3_put 29 = .ok (.aload_n 0, 1) := by decide +kernel
theorem dX3_put_30 : decode cX3_put 30 = .ok (.getfield 37, 3) := by decide +kernel
theorem dX3_put_33 : decode cX3_put 33 = .ok (.lload_n 1, 1) := by decide +kernel
theorem dX3_put_34 : decode cX3_put 34 = .ok (.iload_n 3, 1) := by decide +kernel
theorem dX3_put_35 : decode cX3_put 35 = .ok (.invokevirtual 222, 3) := by decide +kernel
theorem dX3_put_38 : decode cX3_put 38 = .ok (.aload_n 0, 1) := by decide +kernel
theorem dX3_put_39 : decode cX3_put 39 = .ok (.getfield 37, 3) := by decide +kernel
theorem dX3_put_42 : decode cX3_put 42 = .ok (.getfield 88, 3) := by decide +kernel
theorem dX3_put_45 : decode cX3_put 45 = .ok (.ireturn, 1) := by decide +kernel
theorem dX3_wipe_0 : decode cX3_wipe 0 = .ok (.aload_n 0, 1) := by decide +kernel
theorem dX3_wipe_1 : decode cX3_wipe 1 = .ok (.getfield 37, 3) := by decide +kernel
theorem dX3_wipe_4 : decode cX3_wipe 4 = .ok (.getfield 88, 3) := by decide +kernel
theorem dX3_wipe_7 : decode cX3_wipe 7 = .ok (.istore_n 1, 1) := by decide +kernel
theorem dX3_wipe_8 : decode cX3_wipe 8 = .ok (.aload_n 0, 1) := by decide +kernel
theorem dX3_wipe_9 : decode cX3_wipe 9 = .ok (.getfield 37, 3) := by decide +kernel
theorem dX3_wipe_12 : decode cX3_wipe 12 = .ok (.iconst 0, 1) := by decide +kernel
theorem dX3_wipe_13 : decode cX3_wipe 13 = .ok (.putfield 88, 3) := by decide +kernel
theorem dX3_wipe_16 : decode cX3_wipe 16 = .ok (.iload_n 1, 1) := by decide +kernel
theorem dX3_wipe_17 : decode cX3_wipe 17 = .ok (.ireturn, 1) := by decide +kernel
set_option maxRecDepth 20000 in
theorem ggX3_fault_X1_firstFault : GoodIn wsX3_fault wsX1_firstFault := goodIn_r _ [6, 7, 8, 9, 10, 5, 11, 12, 13, 14, 15, 16, 17, 27, 28] (by decide +kernel) (by decide +kernel)
set_option maxRecDepth 20000 in
theorem gX3_fault_X1_firstFault : GoodIn wsX3_fault (wsV RX3 68 RX1 yX1_firstFault wsX1_firstFault) := goodIn_app (goodIn_of _ (by decide +kernel)) ggX3_fault_X1_firstFault
theorem dX3_fault_0 : decode cX3_fault 0 = .ok (.aload_n 0, 1) := by decide +kernel
theorem dX3_fault_1 : decode cX3_fault 1 = .ok (.getfield 37, 3) := by decide +kernel
theorem dX3_fault_4 : decode cX3_fault 4 = .ok (.invokevirtual 68, 3) := by decide +kernel
theorem dX3_fault_7 : decode cX3_fault 7 = .ok (.ireturn, 1) := by decide +kernel
set_option maxRecDepth 20000 in
theorem ggX3_undo_X0_takeBack : GoodIn wsX3_undo wsX0_takeBack := goodIn_r _ [8, 9, 10, 11, 12, 13, 14, 15, 16, 17, 18, 19, 20, 21, 22, 23, 24, 25, 26, 27, 28, 29, 30, 31, 32, 33, 34, 35, 45, 46, 47, 48, 49, 50, 51, 52, 53, 54, 55, 56, 57, 58, 59] (by decide +kernel) (by decide +kernel)
set_option maxRecDepth 20000 in
theorem gX3_undo_X0_takeBack : GoodIn wsX3_undo (wsV RX3 226 RX0 yX0_takeBack wsX0_takeBack) := goodIn_app (goodIn_of _ (by decide +kernel)) ggX3_undo_X0_takeBack
theorem dX3_undo_0 : decode cX3_undo 0 = .ok (.aload_n 0, 1) := by decide +kernel
theorem dX3_undo_1 : decode cX3_undo 1 = .ok (.getfield 22, 3) := by decide +kernel
theorem dX3_undo_4 : decode cX3_undo 4 = .ok (.getfield 178, 3) := by decide +kernel
theorem dX3_undo_7 : decode cX3_undo 7 = .ok (.ifCond .ne 6, 3) := by decide +kernel
theorem dX3_undo_10 : decode cX3_undo 10 = .ok (.bipush (-5), 2) := by decide +kernel
theorem dX3_undo_12 : decode cX3_undo 12 = .ok (.ireturn, 1) := by decide +kernel
theorem dX3_undo_13 : decode cX3_undo 13 = .ok (.aload_n 0, 1) := by decide +kernel
theorem dX3_undo_14 : decode cX3_undo 14 = .ok (.getfield 22, 3) := by decide +kernel
theorem dX3_undo_17 : decode cX3_undo 17 = .ok (.aload_n 0, 1) := by decide +kernel
theorem dX3_undo_18 : decode cX3_undo 18 = .ok (.getfield 10, 3) := by decide +kernel
theorem dX3_undo_21 : decode cX3_undo 21 = .ok (.invokevirtual 226, 3) := by decide +kernel
theorem dX3_undo_24 : decode cX3_undo 24 = .ok (.aload_n 0, 1) := by decide +kernel
theorem dX3_undo_25 : decode cX3_undo 25 = .ok (.getfield 22, 3) := by decide +kernel
theorem dX3_undo_28 : decode cX3_undo 28 = .ok (.getfield 178, 3) := by decide +kernel
theorem dX3_undo_31 : decode cX3_undo 31 = .ok (.ireturn, 1) := by decide +kernel
set_option maxRecDepth 20000 in
theorem ggX3_save_X3_isWithin : GoodIn wsX3_save wsX3_isWithin := goodIn_r _ [8] (by decide +kernel) (by decide +kernel)
set_option maxRecDepth 20000 in
theorem gX3_save_X3_isWithin : GoodIn wsX3_save (va_wsS RX3 51 yX3_isWithin wsX3_isWithin) := goodIn_app (goodIn_of _ (by decide +kernel)) ggX3_save_X3_isWithin
set_option maxRecDepth 20000 in
theorem ggX3_save_X2_copyFrom : GoodIn wsX3_save wsX2_copyFrom := goodIn_r _ [13, 14, 15, 16, 17, 18, 19, 20, 21, 22, 23, 24, 25, 26, 27, 28, 29, 30, 31, 12, 32, 42, 43, 44, 45, 46, 47, 48, 49, 50, 51, 52, 53] (by decide +kernel) (by decide +kernel)
set_option maxRecDepth 20000 in
theorem gX3_save_X2_copyFrom : GoodIn wsX3_save (wsV RX3 113 RX2 yX2_copyFrom wsX2_copyFrom) := goodIn_app (goodIn_of _ (by decide +kernel)) ggX3_save_X2_copyFrom
theorem dX3_save_0 : decode cX3_save 0 = .ok (.iload_n 1, 1) := by decide +kernel
theorem dX3_save_1 : decode cX3_save 1 = .ok (.iconst 0, 1) := by decide +kernel
theorem dX3_save_2 : decode cX3_save 2 = .ok (.iconst 1, 1) := by decide +kernel
theorem dX3_save_3 : decode cX3_save 3 = .ok (.invokestatic 51, 3) := by decide +kernel
theorem dX3_save_6 : decode cX3_save 6 = .ok (.ifCond .ne 6, 3) := by decide +kernel
theorem dX3_save_9 : decode cX3_save 9 = .ok (.bipush (-2), 2) := by decide +kernel
theorem dX3_save_11 : decode cX3_save 11 = .ok (.ireturn, 1) := by decide +kernel
theorem dX3_save_12 : decode cX3_save 12 = .ok (.aload_n 0, 1) := by decide +kernel
theorem dX3_save_13 : decode cX3_save 13 = .ok (.getfield 26, 3) := by decide +kernel
theorem dX3_save_16 : decode cX3_save 16 = .ok (.iload_n 1, 1) := by decide +kernel
theorem dX3_save_17 : decode cX3_save 17 = .ok (.aaload, 1) := by decide +kernel
theorem dX3_save_18 : decode cX3_save 18 = .ok (.aload_n 0, 1) := by decide +kernel
theorem dX3_save_19 : decode cX3_save 19 = .ok (.getfield 10, 3) := by decide +kernel
theorem dX3_save_22 : decode cX3_save 22 = .ok (.invokevirtual 113, 3) := by decide +kernel
theorem dX3_save_25 : decode cX3_save 25 = .ok (.aload_n 0, 1) := by decide +kernel
theorem dX3_save_26 : decode cX3_save 26 = .ok (.getfield 30, 3) := by decide +kernel
theorem dX3_save_29 : decode cX3_save 29 = .ok (.iload_n 1, 1) := by decide +kernel
theorem dX3_save_30 : decode cX3_save 30 = .ok (.iconst 1, 1) := by decide +kernel
theorem dX3_save_31 : decode cX3_save 31 = .ok (.bastore, 1) := by decide +kernel
theorem dX3_save_32 : decode cX3_save 32 = .ok (.aload_n 0, 1) := by decide +kernel
theorem dX3_save_33 : decode cX3_save 33 = .ok (.getfield 10, 3) := by decide +kernel
theorem dX3_save_36 : decode cX3_save 36 = .ok (.getfield 72, 3) := by decide +kernel
theorem dX3_save_39 : decode cX3_save 39 = .ok (.ireturn, 1) := by decide +kernel
set_option maxRecDepth 20000 in
theorem ggX3_restore_X3_isWithin : GoodIn wsX3_restore wsX3_isWithin := goodIn_r _ [9] (by decide +kernel) (by decide +kernel)
set_option maxRecDepth 20000 in
theorem gX3_restore_X3_isWithin : GoodIn wsX3_restore (va_wsS RX3 51 yX3_isWithin wsX3_isWithin) := goodIn_app (goodIn_of _ (by decide +kernel)) ggX3_restore_X3_isWithin
set_option maxRecDepth 20000 in
theorem ggX3_restore_X0_record : GoodIn wsX3_restore wsX0_record := goodIn_r _ [14, 15, 16, 17, 18, 19, 20, 21, 22, 23, 24, 25, 26, 27, 28, 29, 30, 31, 32, 33, 34, 35, 36, 37, 38, 39, 40, 41, 64, 65, 66, 52, 53, 54, 55, 56, 57, 58, 59, 60, 61, 62, 63] (by decide +kernel) (by decide +kernel)
set_option maxRecDepth 20000 in
theorem gX3_restore_X0_record : GoodIn wsX3_restore (wsV RX3 61 RX0 yX0_record wsX0_record) := goodIn_app (goodIn_of _ (by decide +kernel)) ggX3_restore_X0_record
set_option maxRecDepth 20000 in
theorem ggX3_restore_X2_copyFrom : GoodIn wsX3_restore wsX2_copyFrom := goodIn_r _ [22, 23, 24, 25, 26, 27, 28, 29, 30, 31, 32, 33, 34, 35, 36, 37, 38, 39, 40, 21, 41, 52, 53, 54, 55, 56, 57, 58, 59, 60, 61, 62, 63] (by decide +kernel) (by decide +kernel)
set_option maxRecDepth 20000 in
theorem gX3_restore_X2_copyFrom : GoodIn wsX3_restore (wsV RX3 113 RX2 yX2_copyFrom wsX2_copyFrom) := goodIn_app (goodIn_of _ (by decide +kernel)) ggX3_restore_X2_copyFrom
theorem dX3_restore_0 : decode cX3_restore 0 = .ok (.iload_n 1, 1) := by decide +kernel
theorem dX3_restore_1 : decode cX3_restore 1 = .ok (.iconst 0, 1) := by decide +kernel
theorem dX3_restore_2 : decode cX3_restore 2 = .ok (.iconst 1, 1) := by decide +kernel
theorem dX3_restore_3 : decode cX3_restore 3 = .ok (.invokestatic 51, 3) := by decide +kernel
theorem dX3_restore_6 : decode cX3_restore 6 = .ok (.ifCond .ne 6, 3) := by decide +kernel
theorem dX3_restore_9 : decode cX3_restore 9 = .ok (.bipush (-2), 2) := by decide +kernel
theorem dX3_restore_11 : decode cX3_restore 11 = .ok (.ireturn, 1) := by decide +kernel
theorem dX3_restore_12 : decode cX3_restore 12 = .ok (.aload_n 0, 1) := by decide +kernel
theorem dX3_restore_13 : decode cX3_restore 13 = .ok (.getfield 30, 3) := by decide +kernel
theorem dX3_restore_16 : decode cX3_restore 16 = .ok (.iload_n 1, 1) := by decide +kernel
theorem dX3_restore_17 : decode cX3_restore 17 = .ok (.baload, 1) := by decide +kernel
theorem dX3_restore_18 : decode cX3_restore 18 = .ok (.ifCond .ne 6, 3) := by decide +kernel
theorem dX3_restore_21 : decode cX3_restore 21 = .ok (.bipush (-5), 2) := by decide +kernel
theorem dX3_restore_23 : decode cX3_restore 23 = .ok (.ireturn, 1) := by decide +kernel
theorem dX3_restore_24 : decode cX3_restore 24 = .ok (.aload_n 0, 1) := by decide +kernel
theorem dX3_restore_25 : decode cX3_restore 25 = .ok (.getfield 22, 3) := by decide +kernel
theorem dX3_restore_28 : decode cX3_restore 28 = .ok (.aload_n 0, 1) := by decide +kernel
theorem dX3_restore_29 : decode cX3_restore 29 = .ok (.getfield 10, 3) := by decide +kernel
theorem dX3_restore_32 : decode cX3_restore 32 = .ok (.invokevirtual 61, 3) := by decide +kernel
theorem dX3_restore_35 : decode cX3_restore 35 = .ok (.aload_n 0, 1) := by decide +kernel
theorem dX3_restore_36 : decode cX3_restore 36 = .ok (.getfield 10, 3) := by decide +kernel
theorem dX3_restore_39 : decode cX3_restore 39 = .ok (.aload_n 0, 1) := by decide +kernel
theorem dX3_restore_40 : decode cX3_restore 40 = .ok (.getfield 26, 3) := by decide +kernel
theorem dX3_restore_43 : decode cX3_restore 43 = .ok (.iload_n 1, 1) := by decide +kernel
theorem dX3_restore_44 : decode cX3_restore 44 = .ok (.aaload, 1) := by decide +kernel
theorem dX3_restore_45 : decode cX3_restore 45 = .ok (.invokevirtual 113, 3) := by decide +kernel
theorem dX3_restore_48 : decode cX3_restore 48 = .ok (.aload_n 0, 1) := by decide +kernel
theorem dX3_restore_49 : decode cX3_restore 49 = .ok (.getfield 10, 3) := by decide +kernel
theorem dX3_restore_52 : decode cX3_restore 52 = .ok (.getfield 72, 3) := by decide +kernel
theorem dX3_restore_55 : decode cX3_restore 55 = .ok (.ireturn, 1) := by decide +kernel
set_option maxRecDepth 20000 in
theorem ggX3_tryHeating_X2_copyFrom : GoodIn wsX3_tryHeating wsX2_copyFrom := goodIn_r _ [7, 8, 9, 10, 11, 12, 13, 14, 15, 16, 17, 18, 19, 20, 21, 22, 23, 24, 25, 6, 26, 65, 66, 67, 68, 69, 70, 71, 72, 73, 74, 75, 76] (by decide +kernel) (by decide +kernel)
set_option maxRecDepth 20000 in
theorem gX3_tryHeating_X2_copyFrom : GoodIn wsX3_tryHeating (wsV RX3 113 RX2 yX2_copyFrom wsX2_copyFrom) := goodIn_app (goodIn_of _ (by decide +kernel)) ggX3_tryHeating_X2_copyFrom
set_option maxRecDepth 20000 in
theorem ggX3_tryHeating_X2_warm : GoodIn wsX3_tryHeating wsX2_warm := goodIn_r _ [30, 14, 31, 32, 33, 34, 65, 66, 67, 68, 69, 70, 71, 72, 73, 74, 75, 76] (by decide +kernel) (by decide +kernel)
set_option maxRecDepth 20000 in
theorem gX3_tryHeating_X2_warm : GoodIn wsX3_tryHeating (wsV RX3 101 RX2 yX2_warm wsX2_warm) := goodIn_app (goodIn_of _ (by decide +kernel)) ggX3_tryHeating_X2_warm
set_option maxRecDepth 20000 in
theorem ggX3_tryHeating_X2_react : GoodIn wsX3_tryHeating wsX2_react := goodIn_r _ [38, 39, 14, 8, 40, 41, 33, 42, 23, 24, 25, 6, 26, 15, 16, 43, 44, 45, 46, 21, 20, 22, 47, 48, 49, 50, 51, 52, 53, 54, 9, 10, 11, 12, 17, 18, 55, 28, 29, 30, 31, 32, 34, 65, 66, 67, 68, 69, 70, 71, 72, 73, 74, 75, 76] (by decide +kernel) (by decide +kernel)
set_option maxRecDepth 20000 in
theorem gX3_tryHeating_X2_react : GoodIn wsX3_tryHeating (wsV RX3 91 RX2 yX2_react wsX2_react) := goodIn_app (goodIn_of _ (by decide +kernel)) ggX3_tryHeating_X2_react
theorem dX3_tryHeating_0 : decode cX3_tryHeating 0 = .ok (.aload_n 0, 1) := by decide +kernel
theorem dX3_tryHeating_1 : decode cX3_tryHeating 1 = .ok (.getfield 16, 3) := by decide +kernel
theorem dX3_tryHeating_4 : decode cX3_tryHeating 4 = .ok (.aload_n 0, 1) := by decide +kernel
theorem dX3_tryHeating_5 : decode cX3_tryHeating 5 = .ok (.getfield 10, 3) := by decide +kernel
theorem dX3_tryHeating_8 : decode cX3_tryHeating 8 = .ok (.invokevirtual 113, 3) := by decide +kernel
theorem dX3_tryHeating_11 : decode cX3_tryHeating 11 = .ok (.aload_n 0, 1) := by decide +kernel
theorem dX3_tryHeating_12 : decode cX3_tryHeating 12 = .ok (.getfield 16, 3) := by decide +kernel
theorem dX3_tryHeating_15 : decode cX3_tryHeating 15 = .ok (.iload_n 1, 1) := by decide +kernel
theorem dX3_tryHeating_16 : decode cX3_tryHeating 16 = .ok (.iload_n 2, 1) := by decide +kernel
theorem dX3_tryHeating_17 : decode cX3_tryHeating 17 = .ok (.invokevirtual 101, 3) := by decide +kernel
theorem dX3_tryHeating_20 : decode cX3_tryHeating 20 = .ok (.aload_n 0, 1) := by decide +kernel
theorem dX3_tryHeating_21 : decode cX3_tryHeating 21 = .ok (.getfield 16, 3) := by decide +kernel
theorem dX3_tryHeating_24 : decode cX3_tryHeating 24 = .ok (.invokevirtual 91, 3) := by decide +kernel
theorem dX3_tryHeating_27 : decode cX3_tryHeating 27 = .ok (.ireturn, 1) := by decide +kernel
theorem dX3_isWithin_0 : decode cX3_isWithin 0 = .ok (.iload_n 0, 1) := by decide +kernel
theorem dX3_isWithin_1 : decode cX3_isWithin 1 = .ok (.iload_n 1, 1) := by decide +kernel
theorem dX3_isWithin_2 : decode cX3_isWithin 2 = .ok (.if_icmp .lt 12, 3) := by decide +kernel
theorem dX3_isWithin_5 : decode cX3_isWithin 5 = .ok (.iload_n 0, 1) := by decide +kernel
theorem dX3_isWithin_6 : decode cX3_isWithin 6 = .ok (.iload_n 2, 1) := by decide +kernel
theorem dX3_isWithin_7 : decode cX3_isWithin 7 = .ok (.if_icmp .gt 7, 3) := by decide +kernel
theorem dX3_isWithin_10 : decode cX3_isWithin 10 = .ok (.iconst 1, 1) := by decide +kernel
theorem dX3_isWithin_11 : decode cX3_isWithin 11 = .ok (.goto 4, 3) := by decide +kernel
theorem dX3_isWithin_14 : decode cX3_isWithin 14 = .ok (.iconst 0, 1) := by decide +kernel
theorem dX3_isWithin_15 : decode cX3_isWithin 15 = .ok (.ireturn, 1) := by decide +kernel
set_option maxRecDepth 20000 in
theorem ggX3_isLetter_X3_isWithin : GoodIn wsX3_isLetter wsX3_isWithin := goodIn_r _ [4] (by decide +kernel) (by decide +kernel)
set_option maxRecDepth 20000 in
theorem gX3_isLetter_X3_isWithin : GoodIn wsX3_isLetter (va_wsS RX3 51 yX3_isWithin wsX3_isWithin) := goodIn_app (goodIn_of _ (by decide +kernel)) ggX3_isLetter_X3_isWithin
theorem dX3_isLetter_0 : decode cX3_isLetter 0 = .ok (.iload_n 0, 1) := by decide +kernel
theorem dX3_isLetter_1 : decode cX3_isLetter 1 = .ok (.iconst 0, 1) := by decide +kernel
theorem dX3_isLetter_2 : decode cX3_isLetter 2 = .ok (.bipush 25, 2) := by decide +kernel
theorem dX3_isLetter_4 : decode cX3_isLetter 4 = .ok (.invokestatic 51, 3) := by decide +kernel
theorem dX3_isLetter_7 : decode cX3_isLetter 7 = .ok (.ireturn, 1) := by decide +kernel
theorem dX4_init_0 : decode cX4_init 0 = .ok (.aload_n 0, 1) := by decide +kernel
theorem dX4_init_1 : decode cX4_init 1 = .ok (.invokespecial 1, 3) := by decide +kernel
theorem dX4_init_4 : decode cX4_init 4 = .ok (.aload_n 0, 1) := by decide +kernel
theorem dX4_init_5 : decode cX4_init 5 = .ok (.sipush 345, 3) := by decide +kernel
theorem dX4_init_8 : decode cX4_init 8 = .ok (.newarray .int, 2) := by decide +kernel
theorem dX4_init_10 : decode cX4_init 10 = .ok (.putfield 7, 3) := by decide +kernel
theorem dX4_init_13 : decode cX4_init 13 = .ok (.aload_n 0, 1) := by decide +kernel
theorem dX4_init_14 : decode cX4_init 14 = .ok (.sipush 345, 3) := by decide +kernel
theorem dX4_init_17 : decode cX4_init 17 = .ok (.newarray .int, 2) := by decide +kernel
theorem dX4_init_19 : decode cX4_init 19 = .ok (.putfield 13, 3) := by decide +kernel
theorem dX4_init_22 : decode cX4_init 22 = .ok (.aload_n 0, 1) := by decide +kernel
theorem dX4_init_23 : decode cX4_init 23 = .ok (.sipush 2070, 3) := by decide +kernel
theorem dX4_init_26 : decode cX4_init 26 = .ok (.newarray .int, 2) := by decide +kernel
theorem dX4_init_28 : decode cX4_init 28 = .ok (.putfield 16, 3) := by decide +kernel
theorem dX4_init_31 : decode cX4_init 31 = .ok (.aload_n 0, 1) := by decide +kernel
theorem dX4_init_32 : decode cX4_init 32 = .ok (.sipush 690, 3) := by decide +kernel
theorem dX4_init_35 : decode cX4_init 35 = .ok (.newarray .int, 2) := by decide +kernel
theorem dX4_init_37 : decode cX4_init 37 = .ok (.putfield 19, 3) := by decide +kernel
theorem dX4_init_40 : decode cX4_init 40 = .ok (.aload_n 0, 1) := by decide +kernel
theorem dX4_init_41 : decode cX4_init 41 = .ok (.iconst 2, 1) := by decide +kernel
theorem dX4_init_42 : decode cX4_init 42 = .ok (.newarray .boolean, 2) := by decide +kernel
theorem dX4_init_44 : decode cX4_init 44 = .ok (.putfield 22, 3) := by decide +kernel
theorem dX4_init_47 : decode cX4_init 47 = .ok (.aload_n 0, 1) := by decide +kernel
theorem dX4_init_48 : decode cX4_init 48 = .ok (.bipush 60, 2) := by decide +kernel
theorem dX4_init_50 : decode cX4_init 50 = .ok (.newarray .int, 2) := by decide +kernel
theorem dX4_init_52 : decode cX4_init 52 = .ok (.putfield 26, 3) := by decide +kernel
theorem dX4_init_55 : decode cX4_init 55 = .ok (.aload_n 0, 1) := by decide +kernel
theorem dX4_init_56 : decode cX4_init 56 = .ok (.sipush 150, 3) := by decide +kernel
theorem dX4_init_59 : decode cX4_init 59 = .ok (.newarray .int, 2) := by decide +kernel
theorem dX4_init_61 : decode cX4_init 61 = .ok (.putfield 29, 3) := by decide +kernel
theorem dX4_init_64 : decode cX4_init 64 = .ok (.aload_n 0, 1) := by decide +kernel
theorem dX4_init_65 : decode cX4_init 65 = .ok (.sipush 150, 3) := by decide +kernel
theorem dX4_init_68 : decode cX4_init 68 = .ok (.newarray .int, 2) := by decide +kernel
theorem dX4_init_70 : decode cX4_init 70 = .ok (.putfield 32, 3) := by decide +kernel
theorem dX4_init_73 : decode cX4_init 73 = .ok (.aload_n 0, 1) := by decide +kernel
theorem dX4_init_74 : decode cX4_init 74 = .ok (.bipush 61, 2) := by decide +kernel
theorem dX4_init_76 : decode cX4_init 76 = .ok (.newarray .int, 2) := by decide +kernel
theorem dX4_init_78 : decode cX4_init 78 = .ok (.putfield 35, 3) := by decide +kernel
theorem dX4_init_81 : decode cX4_init 81 = .ok (.aload_n 0, 1) := by decide +kernel
theorem dX4_init_82 : decode cX4_init 82 = .ok (.bipush 61, 2) := by decide +kernel
theorem dX4_init_84 : decode cX4_init 84 = .ok (.newarray .int, 2) := by decide +kernel
theorem dX4_init_86 : decode cX4_init 86 = .ok (.putfield 38, 3) := by decide +kernel
theorem dX4_init_89 : decode cX4_init 89 = .ok (.aload_n 0, 1) := by decide +kernel
theorem dX4_init_90 : decode cX4_init 90 = .ok (.bipush 61, 2) := by decide +kernel
theorem dX4_init_92 : decode cX4_init 92 = .ok (.newarray .int, 2) := by decide +kernel
theorem dX4_init_94 : decode cX4_init 94 = .ok (.putfield 41, 3) := by decide +kernel
theorem dX4_init_97 : decode cX4_init 97 = .ok (.aload_n 0, 1) := by decide +kernel
theorem dX4_init_98 : decode cX4_init 98 = .ok (.getfield 7, 3) := by decide +kernel
theorem dX4_init_101 : decode cX4_init 101 = .ok (.iconst 0, 1) := by decide +kernel
theorem dX4_init_102 : decode cX4_init 102 = .ok (.bipush 20, 2) := by decide +kernel
theorem dX4_init_104 : decode cX4_init 104 = .ok (.iastore, 1) := by decide +kernel
theorem dX4_init_105 : decode cX4_init 105 = .ok (.aload_n 0, 1) := by decide +kernel
theorem dX4_init_106 : decode cX4_init 106 = .ok (.getfield 7, 3) := by decide +kernel
theorem dX4_init_109 : decode cX4_init 109 = .ok (.iconst 1, 1) := by decide +kernel
theorem dX4_init_110 : decode cX4_init 110 = .ok (.iconst 3, 1) := by decide +kernel
theorem dX4_init_111 : decode cX4_init 111 = .ok (.iastore, 1) := by decide +kernel
theorem dX4_init_112 : decode cX4_init 112 = .ok (.aload_n 0, 1) := by decide +kernel
theorem dX4_init_113 : decode cX4_init 113 = .ok (.getfield 7, 3) := by decide +kernel
theorem dX4_init_116 : decode cX4_init 116 = .ok (.iconst 2, 1) := by decide +kernel
theorem dX4_init_117 : decode cX4_init 117 = .ok (.iconst 2, 1) := by decide +kernel
theorem dX4_init_118 : decode cX4_init 118 = .ok (.iastore, 1) := by decide +kernel
theorem dX4_init_119 : decode cX4_init 119 = .ok (.return_, 1) := by decide +kernel
theorem dX4_in_0 : decode cX4_in 0 = .ok (.iload_n 0, 1) := by decide +kernel
theorem dX4_in_1 : decode cX4_in 1 = .ok (.iload_n 1, 1) := by decide +kernel
theorem dX4_in_2 : decode cX4_in 2 = .ok (.if_icmp .lt 12, 3) := by decide +kernel
theorem dX4_in_5 : decode cX4_in 5 = .ok (.iload_n 0, 1) := by decide +kernel
theorem dX4_in_6 : decode cX4_in 6 = .ok (.iload_n 2, 1) := by decide +kernel
theorem dX4_in_7 : decode cX4_in 7 = .ok (.if_icmp .gt 7, 3) := by decide +kernel
theorem dX4_in_10 : decode cX4_in 10 = .ok (.iconst 1, 1) := by decide +kernel
theorem dX4_in_11 : decode cX4_in 11 = .ok (.goto 4, 3) := by decide +kernel
theorem dX4_in_14 : decode cX4_in 14 = .ok (.iconst 0, 1) := by decide +kernel
theorem dX4_in_15 : decode cX4_in 15 = .ok (.ireturn, 1) := by decide +kernel
set_option maxRecDepth 20000 in
theorem ggX4_isStory_X4_in : GoodIn wsX4_isStory wsX4_in := goodIn_r _ [5] (by decide +kernel) (by decide +kernel)
set_option maxRecDepth 20000 in
theorem gX4_isStory_X4_in : GoodIn wsX4_isStory (va_wsS RX4 44 yX4_in wsX4_in) := goodIn_app (goodIn_of _ (by decide +kernel)) ggX4_isStory_X4_in
theorem dX4_isStory_0 : decode cX4_isStory 0 = .ok (.iload_n 1, 1) := by decide +kernel
theorem dX4_isStory_1 : decode cX4_isStory 1 = .ok (.iconst 0, 1) := by decide +kernel
theorem dX4_isStory_2 : decode cX4_isStory 2 = .ok (.aload_n 0, 1) := by decide +kernel
theorem dX4_isStory_3 : decode cX4_isStory 3 = .ok (.getfield 7, 3) := by decide +kernel
theorem dX4_isStory_6 : decode cX4_isStory 6 = .ok (.iconst 3, 1) := by decide +kernel
theorem dX4_isStory_7 : decode cX4_isStory 7 = .ok (.iaload, 1) := by decide +kernel
theorem dX4_isStory_8 : decode cX4_isStory 8 = .ok (.iconst 1, 1) := by decide +kernel
theorem dX4_isStory_9 : decode cX4_isStory 9 = .ok (.isub, 1) := by decide +kernel
theorem dX4_isStory_10 : decode cX4_isStory 10 = .ok (.invokestatic 44, 3) := by decide +kernel
theorem dX4_isStory_13 : decode cX4_isStory 13 = .ok (.ireturn, 1) := by decide +kernel
set_option maxRecDepth 20000 in
theorem ggX4_isWord_X4_isStory : GoodIn wsX4_isWord wsX4_isStory := goodIn_r _ [6, 1, 7, 8, 5, 9, 10, 11, 12, 13, 14, 15, 16, 17, 18, 19, 20, 21, 22, 23, 24, 25, 26, 27, 28, 29, 30] (by decide +kernel) (by decide +kernel)
set_option maxRecDepth 20000 in
theorem gX4_isWord_X4_isStory : GoodIn wsX4_isWord (wsV RX4 48 RX4 yX4_isStory wsX4_isStory) := goodIn_app (goodIn_of _ (by decide +kernel)) ggX4_isWord_X4_isStory
set_option maxRecDepth 20000 in
theorem ggX4_isWord_X4_in : GoodIn wsX4_isWord wsX4_in := goodIn_r _ [9] (by decide +kernel) (by decide +kernel)
set_option maxRecDepth 20000 in
theorem gX4_isWord_X4_in : GoodIn wsX4_isWord (va_wsS RX4 44 yX4_in wsX4_in) := goodIn_app (goodIn_of _ (by decide +kernel)) ggX4_isWord_X4_in
theorem dX4_isWord_0 : decode cX4_isWord 0 = .ok (.aload_n 0, 1) := by decide +kernel
theorem dX4_isWord_1 : decode cX4_isWord 1 = .ok (.iload_n 1, 1) := by decide +kernel
theorem dX4_isWord_2 : decode cX4_isWord 2 = .ok (.invokevirtual 48, 3) := by decide +kernel
theorem dX4_isWord_5 : decode cX4_isWord 5 = .ok (.ifCond .eq 26, 3) := by decide +kernel
theorem dX4_isWord_8 : decode cX4_isWord 8 = .ok (.iload_n 2, 1) := by decide +kernel
theorem dX4_isWord_9 : decode cX4_isWord 9 = .ok (.iconst 0, 1) := by decide +kernel
theorem dX4_isWord_10 : decode cX4_isWord 10 = .ok (.aload_n 0, 1) := by decide +kernel
theorem dX4_isWord_11 : decode cX4_isWord 11 = .ok (.getfield 7, 3) := by decide +kernel
theorem dX4_isWord_14 : decode cX4_isWord 14 = .ok (.bipush 9, 2) := by decide +kernel
theorem dX4_isWord_16 : decode cX4_isWord 16 = .ok (.iload_n 1, 1) := by decide +kernel
theorem dX4_isWord_17 : decode cX4_isWord 17 = .ok (.iadd, 1) := by decide +kernel
theorem dX4_isWord_18 : decode cX4_isWord 18 = .ok (.iaload, 1) := by decide +kernel
theorem dX4_isWord_19 : decode cX4_isWord 19 = .ok (.iconst 1, 1) := by decide +kernel
theorem dX4_isWord_20 : decode cX4_isWord 20 = .ok (.isub, 1) := by decide +kernel
theorem dX4_isWord_21 : decode cX4_isWord 21 = .ok (.invokestatic 44, 3) := by decide +kernel
theorem dX4_isWord_24 : decode cX4_isWord 24 = .ok (.ifCond .eq 7, 3) := by decide +kernel
theorem dX4_isWord_27 : decode cX4_isWord 27 = .ok (.iconst 1, 1) := by decide +kernel
theorem dX4_isWord_28 : decode cX4_isWord 28 = .ok (.goto 4, 3) := by decide +kernel
theorem dX4_isWord_31 : decode cX4_isWord 31 = .ok (.iconst 0, 1) := by decide +kernel
theorem dX4_isWord_32 : decode cX4_isWord 32 = .ok (.ireturn, 1) := by decide +kernel
theorem dX4_first_0 : decode cX4_first 0 = .ok (.iconst 0, 1) := by decide +kernel
theorem dX4_first_1 : decode cX4_first 1 = .ok (.istore_n 2, 1) := by decide +kernel
theorem dX4_first_2 : decode cX4_first 2 = .ok (.iconst 0, 1) := by decide +kernel
theorem dX4_first_3 : decode cX4_first 3 = .ok (.istore_n 3, 1) := by decide +kernel
theorem dX4_first_4 : decode cX4_first 4 = .ok (.iload_n 3, 1) := by decide +kernel
theorem dX4_first_5 : decode cX4_first 5 = .ok (.iload_n 1, 1) := by decide +kernel
theorem dX4_first_6 : decode cX4_first 6 = .ok (.if_icmp .ge 21, 3) := by decide +kernel
theorem dX4_first_9 : decode cX4_first 9 = .ok (.iload_n 2, 1) := by decide +kernel
theorem dX4_first_10 : decode cX4_first 10 = .ok (.aload_n 0, 1) := by decide +kernel
theorem dX4_first_11 : decode cX4_first 11 = .ok (.getfield 7, 3) := by decide +kernel
theorem dX4_first_14 : decode cX4_first 14 = .ok (.bipush 9, 2) := by decide +kernel
theorem dX4_first_16 : decode cX4_first 16 = .ok (.iload_n 3, 1) := by decide +kernel
theorem dX4_first_17 : decode cX4_first 17 = .ok (.iadd, 1) := by decide +kernel
theorem dX4_first_18 : decode cX4_first 18 = .ok (.iaload, 1) := by decide +kernel
theorem dX4_first_19 : decode cX4_first 19 = .ok (.iadd, 1) := by decide +kernel
theorem dX4_first_20 : decode cX4_first 20 = .ok (.istore_n 2, 1) := by decide +kernel
theorem dX4_first_21 : decode cX4_first 21 = .ok (.iinc 3 1, 3) := by decide +kernel
theorem dX4_first_24 : decode cX4_first 24 = .ok (.goto (-20), 3) := by decide +kernel
theorem dX4_first_27 : decode cX4_first 27 = .ok (.iload_n 2, 1) := by decide +kernel
theorem dX4_first_28 : decode cX4_first 28 = .ok (.ireturn, 1) := by decide +kernel
theorem dX4_know_0 : decode cX4_know 0 = .ok (.aload_n 0, 1) := by decide +kernel
theorem dX4_know_1 : decode cX4_know 1 = .ok (.getfield 52, 3) := by decide +kernel
theorem dX4_know_4 : decode cX4_know 4 = .ok (.bipush 6, 2) := by decide +kernel
theorem dX4_know_6 : decode cX4_know 6 = .ok (.if_icmp .ne 44, 3) := by decide +kernel
theorem dX4_know_9 : decode cX4_know 9 = .ok (.iconst 0, 1) := by decide +kernel
theorem dX4_know_10 : decode cX4_know 10 = .ok (.istore_n 1, 1) := by decide +kernel
theorem dX4_know_11 : decode cX4_know 11 = .ok (.iload_n 1, 1) := by decide +kernel
theorem dX4_know_12 : decode cX4_know 12 = .ok (.sipush 1725, 3) := by decide +kernel
theorem dX4_know_15 : decode cX4_know 15 = .ok (.if_icmp .ge 25, 3) := by decide +kernel
theorem dX4_know_18 : decode cX4_know 18 = .ok (.aload_n 0, 1) := by decide +kernel
theorem dX4_know_19 : decode cX4_know 19 = .ok (.getfield 16, 3) := by decide +kernel
theorem dX4_know_22 : decode cX4_know 22 = .ok (.iload_n 1, 1) := by decide +kernel
theorem dX4_know_23 : decode cX4_know 23 = .ok (.aload_n 0, 1) := by decide +kernel
theorem dX4_know_24 : decode cX4_know 24 = .ok (.getfield 16, 3) := by decide +kernel
theorem dX4_know_27 : decode cX4_know 27 = .ok (.sipush 345, 3) := by decide +kernel
theorem dX4_know_30 : decode cX4_know 30 = .ok (.iload_n 1, 1) := by decide +kernel
theorem dX4_know_31 : decode cX4_know 31 = .ok (.iadd, 1) := by decide +kernel
theorem dX4_know_32 : decode cX4_know 32 = .ok (.iaload, 1) := by decide +kernel
theorem dX4_know_33 : decode cX4_know 33 = .ok (.iastore, 1) := by decide +kernel
theorem dX4_know_34 : decode cX4_know 34 = .ok (.iinc 1 1, 3) := by decide +kernel
theorem dX4_know_37 : decode cX4_know 37 = .ok (.goto (-26), 3) := by decide +kernel
theorem dX4_know_40 : decode cX4_know 40 = .ok (.aload_n 0, 1) := by decide +kernel
theorem dX4_know_41 : decode cX4_know 41 = .ok (.dup, 1) := by decide +kernel
theorem dX4_know_42 : decode cX4_know 42 = .ok (.getfield 52, 3) := by decide +kernel
theorem dX4_know_45 : decode cX4_know 45 = .ok (.iconst 1, 1) := by decide +kernel
theorem dX4_know_46 : decode cX4_know 46 = .ok (.isub, 1) := by decide +kernel
theorem dX4_know_47 : decode cX4_know 47 = .ok (.putfield 52, 3) := by decide +kernel
theorem dX4_know_50 : decode cX4_know 50 = .ok (.iconst 0, 1) := by decide +kernel
theorem dX4_know_51 : decode cX4_know 51 = .ok (.istore_n 1, 1) := by decide +kernel
theorem dX4_know_52 : decode cX4_know 52 = .ok (.iload_n 1, 1) := by decide +kernel
theorem dX4_know_53 : decode cX4_know 53 = .ok (.sipush 345, 3) := by decide +kernel
theorem dX4_know_56 : decode cX4_know 56 = .ok (.if_icmp .ge 30, 3) := by decide +kernel
theorem dX4_know_59 : decode cX4_know 59 = .ok (.aload_n 0, 1) := by decide +kernel
theorem dX4_know_60 : decode cX4_know 60 = .ok (.getfield 16, 3) := by decide +kernel
theorem dX4_know_63 : decode cX4_know 63 = .ok (.sipush 345, 3) := by decide +kernel
theorem dX4_know_66 : decode cX4_know 66 = .ok (.aload_n 0, 1) := by decide +kernel
theorem dX4_know_67 : decode cX4_know 67 = .ok (.getfield 52, 3) := by decide +kernel
theorem dX4_know_70 : decode cX4_know 70 = .ok (.imul, 1) := by decide +kernel
theorem dX4_know_71 : decode cX4_know 71 = .ok (.iload_n 1, 1) := by decide +kernel
theorem dX4_know_72 : decode cX4_know 72 = .ok (.iadd, 1) := by decide +kernel
theorem dX4_know_73 : decode cX4_know 73 = .ok (.aload_n 0, 1) := by decide +kernel
theorem dX4_know_74 : decode cX4_know 74 = .ok (.getfield 7, 3) := by decide +kernel
theorem dX4_know_77 : decode cX4_know 77 = .ok (.iload_n 1, 1) := by decide +kernel
theorem dX4_know_78 : decode cX4_know 78 = .ok (.iaload, 1) := by decide +kernel
theorem dX4_know_79 : decode cX4_know 79 = .ok (.iastore, 1) := by decide +kernel
theorem dX4_know_80 : decode cX4_know 80 = .ok (.iinc 1 1, 3) := by decide +kernel
theorem dX4_know_83 : decode cX4_know 83 = .ok (.goto (-31), 3) := by decide +kernel
theorem dX4_know_86 : decode cX4_know 86 = .ok (.aload_n 0, 1) := by decide +kernel
theorem dX4_know_87 : decode cX4_know 87 = .ok (.dup, 1) := by decide +kernel
theorem dX4_know_88 : decode cX4_know 88 = .ok (.getfield 52, 3) := by decide +kernel
theorem dX4_know_91 : decode cX4_know 91 = .ok (.iconst 1, 1) := by decide +kernel
theorem dX4_know_92 : decode cX4_know 92 = .ok (.iadd, 1) := by decide +kernel
theorem dX4_know_93 : decode cX4_know 93 = .ok (.putfield 52, 3) := by decide +kernel
theorem dX4_know_96 : decode cX4_know 96 = .ok (.return_, 1) := by decide +kernel
theorem dX4_putAside_0 : decode cX4_putAside 0 = .ok (.iconst 0, 1) := by decide +kernel
theorem dX4_putAside_1 : decode cX4_putAside 1 = .ok (.istore_n 1, 1) := by decide +kernel
theorem dX4_putAside_2 : decode cX4_putAside 2 = .ok (.iload_n 1, 1) := by decide +kernel
theorem dX4_putAside_3 : decode cX4_putAside 3 = .ok (.sipush 345, 3) := by decide +kernel
theorem dX4_putAside_6 : decode cX4_putAside 6 = .ok (.if_icmp .ge 21, 3) := by decide +kernel
theorem dX4_putAside_9 : decode cX4_putAside 9 = .ok (.aload_n 0, 1) := by decide +kernel
theorem dX4_putAside_10 : decode cX4_putAside 10 = .ok (.getfield 13, 3) := by decide +kernel
theorem dX4_putAside_13 : decode cX4_putAside 13 = .ok (.iload_n 1, 1) := by decide +kernel
theorem dX4_putAside_14 : decode cX4_putAside 14 = .ok (.aload_n 0, 1) := by decide +kernel
theorem dX4_putAside_15 : decode cX4_putAside 15 = .ok (.getfield 7, 3) := by decide +kernel
theorem dX4_putAside_18 : decode cX4_putAside 18 = .ok (.iload_n 1, 1) := by decide +kernel
theorem dX4_putAside_19 : decode cX4_putAside 19 = .ok (.iaload, 1) := by decide +kernel
theorem dX4_putAside_20 : decode cX4_putAside 20 = .ok (.iastore, 1) := by decide +kernel
theorem dX4_putAside_21 : decode cX4_putAside 21 = .ok (.iinc 1 1, 3) := by decide +kernel
theorem dX4_putAside_24 : decode cX4_putAside 24 = .ok (.goto (-22), 3) := by decide +kernel
theorem dX4_putAside_27 : decode cX4_putAside 27 = .ok (.return_, 1) := by decide +kernel
theorem dX4_putBack_0 : decode cX4_putBack 0 = .ok (.iconst 0, 1) := by decide +kernel
theorem dX4_putBack_1 : decode cX4_putBack 1 = .ok (.istore_n 1, 1) := by decide +kernel
theorem dX4_putBack_2 : decode cX4_putBack 2 = .ok (.iload_n 1, 1) := by decide +kernel
theorem dX4_putBack_3 : decode cX4_putBack 3 = .ok (.sipush 345, 3) := by decide +kernel
theorem dX4_putBack_6 : decode cX4_putBack 6 = .ok (.if_icmp .ge 21, 3) := by decide +kernel
theorem dX4_putBack_9 : decode cX4_putBack 9 = .ok (.aload_n 0, 1) := by decide +kernel
theorem dX4_putBack_10 : decode cX4_putBack 10 = .ok (.getfield 7, 3) := by decide +kernel
theorem dX4_putBack_13 : decode cX4_putBack 13 = .ok (.iload_n 1, 1) := by decide +kernel
theorem dX4_putBack_14 : decode cX4_putBack 14 = .ok (.aload_n 0, 1) := by decide +kernel
theorem dX4_putBack_15 : decode cX4_putBack 15 = .ok (.getfield 13, 3) := by decide +kernel
theorem dX4_putBack_18 : decode cX4_putBack 18 = .ok (.iload_n 1, 1) := by decide +kernel
theorem dX4_putBack_19 : decode cX4_putBack 19 = .ok (.iaload, 1) := by decide +kernel
theorem dX4_putBack_20 : decode cX4_putBack 20 = .ok (.iastore, 1) := by decide +kernel
theorem dX4_putBack_21 : decode cX4_putBack 21 = .ok (.iinc 1 1, 3) := by decide +kernel
theorem dX4_putBack_24 : decode cX4_putBack 24 = .ok (.goto (-22), 3) := by decide +kernel
theorem dX4_putBack_27 : decode cX4_putBack 27 = .ok (.return_, 1) := by decide +kernel
theorem dX4_warm_0 : decode cX4_warm 0 = .ok (.aload_n 0, 1) := by decide +kernel
theorem dX4_warm_1 : decode cX4_warm 1 = .ok (.getfield 7, 3) := by decide +kernel
theorem dX4_warm_4 : decode cX4_warm 4 = .ok (.sipush 195, 3) := by decide +kernel
theorem dX4_warm_7 : decode cX4_warm 7 = .ok (.iload_n 1, 1) := by decide +kernel
theorem dX4_warm_8 : decode cX4_warm 8 = .ok (.iadd, 1) := by decide +kernel
theorem dX4_warm_9 : decode cX4_warm 9 = .ok (.iaload, 1) := by decide +kernel
theorem dX4_warm_10 : decode cX4_warm 10 = .ok (.iload_n 2, 1) := by decide +kernel
theorem dX4_warm_11 : decode cX4_warm 11 = .ok (.iadd, 1) := by decide +kernel
theorem dX4_warm_12 : decode cX4_warm 12 = .ok (.istore_n 3, 1) := by decide +kernel
theorem dX4_warm_13 : decode cX4_warm 13 = .ok (.aload_n 0, 1) := by decide +kernel
theorem dX4_warm_14 : decode cX4_warm 14 = .ok (.getfield 7, 3) := by decide +kernel
theorem dX4_warm_17 : decode cX4_warm 17 = .ok (.sipush 195, 3) := by decide +kernel
theorem dX4_warm_20 : decode cX4_warm 20 = .ok (.iload_n 1, 1) := by decide +kernel
theorem dX4_warm_21 : decode cX4_warm 21 = .ok (.iadd, 1) := by decide +kernel
theorem dX4_warm_22 : decode cX4_warm 22 = .ok (.iload_n 3, 1) := by decide +kernel
theorem dX4_warm_23 : decode cX4_warm 23 = .ok (.sipush 999, 3) := by decide +kernel
theorem dX4_warm_26 : decode cX4_warm 26 = .ok (.if_icmp .le 9, 3) := by decide +kernel
theorem dX4_warm_29 : decode cX4_warm 29 = .ok (.sipush 999, 3) := by decide +kernel
theorem dX4_warm_32 : decode cX4_warm 32 = .ok (.goto 4, 3) := by decide +kernel
theorem dX4_warm_35 : decode cX4_warm 35 = .ok (.iload_n 3, 1) := by decide +kernel
theorem dX4_warm_36 : decode cX4_warm 36 = .ok (.iastore, 1) := by decide +kernel
theorem dX4_warm_37 : decode cX4_warm 37 = .ok (.return_, 1) := by decide +kernel
theorem dX4_storyOf_0 : decode cX4_storyOf 0 = .ok (.iconst 0, 1) := by decide +kernel
theorem dX4_storyOf_1 : decode cX4_storyOf 1 = .ok (.istore_n 2, 1) := by decide +kernel
theorem dX4_storyOf_2 : decode cX4_storyOf 2 = .ok (.iload_n 1, 1) := by decide +kernel
theorem dX4_storyOf_3 : decode cX4_storyOf 3 = .ok (.istore_n 3, 1) := by decide +kernel
theorem dX4_storyOf_4 : decode cX4_storyOf 4 = .ok (.iload_n 3, 1) := by decide +kernel
theorem dX4_storyOf_5 : decode cX4_storyOf 5 = .ok (.aload_n 0, 1) := by decide +kernel
theorem dX4_storyOf_6 : decode cX4_storyOf 6 = .ok (.getfield 7, 3) := by decide +kernel
theorem dX4_storyOf_9 : decode cX4_storyOf 9 = .ok (.bipush 9, 2) := by decide +kernel
theorem dX4_storyOf_11 : decode cX4_storyOf 11 = .ok (.iload_n 2, 1) := by decide +kernel
theorem dX4_storyOf_12 : decode cX4_storyOf 12 = .ok (.iadd, 1) := by decide +kernel
theorem dX4_storyOf_13 : decode cX4_storyOf 13 = .ok (.iaload, 1) := by decide +kernel
theorem dX4_storyOf_14 : decode cX4_storyOf 14 = .ok (.if_icmp .lt 21, 3) := by decide +kernel
theorem dX4_storyOf_17 : decode cX4_storyOf 17 = .ok (.iload_n 3, 1) := by decide +kernel
theorem dX4_storyOf_18 : decode cX4_storyOf 18 = .ok (.aload_n 0, 1) := by decide +kernel
theorem dX4_storyOf_19 : decode cX4_storyOf 19 = .ok (.getfield 7, 3) := by decide +kernel
theorem dX4_storyOf_22 : decode cX4_storyOf 22 = .ok (.bipush 9, 2) := by decide +kernel
theorem dX4_storyOf_24 : decode cX4_storyOf 24 = .ok (.iload_n 2, 1) := by decide +kernel
theorem dX4_storyOf_25 : decode cX4_storyOf 25 = .ok (.iadd, 1) := by decide +kernel
theorem dX4_storyOf_26 : decode cX4_storyOf 26 = .ok (.iaload, 1) := by decide +kernel
theorem dX4_storyOf_27 : decode cX4_storyOf 27 = .ok (.isub, 1) := by decide +kernel
theorem dX4_storyOf_28 : decode cX4_storyOf 28 = .ok (.istore_n 3, 1) := by decide +kernel
theorem dX4_storyOf_29 : decode cX4_storyOf 29 = .ok (.iinc 2 1, 3) := by decide +kernel
theorem dX4_storyOf_32 : decode cX4_storyOf 32 = .ok (.goto (-28), 3) := by decide +kernel
theorem dX4_storyOf_35 : decode cX4_storyOf 35 = .ok (.iload_n 2, 1) := by decide +kernel
theorem dX4_storyOf_36 : decode cX4_storyOf 36 = .ok (.ireturn, 1) := by decide +kernel
theorem dX4_split_0 : decode cX4_split 0 = .ok (.aload_n 0, 1) := by decide +kernel
theorem dX4_split_1 : decode cX4_split 1 = .ok (.getfield 7, 3) := by decide +kernel
theorem dX4_split_4 : decode cX4_split 4 = .ok (.iconst 3, 1) := by decide +kernel
theorem dX4_split_5 : decode cX4_split 5 = .ok (.iaload, 1) := by decide +kernel
theorem dX4_split_6 : decode cX4_split 6 = .ok (.istore_n 3, 1) := by decide +kernel
theorem dX4_split_7 : decode cX4_split 7 = .ok (.iload_n 3, 1) := by decide +kernel
theorem dX4_split_8 : decode cX4_split 8 = .ok (.iload_n 1, 1) := by decide +kernel
theorem dX4_split_9 : decode cX4_split 9 = .ok (.iconst 1, 1) := by decide +kernel
theorem dX4_split_10 : decode cX4_split 10 = .ok (.iadd, 1) := by decide +kernel
theorem dX4_split_11 : decode cX4_split 11 = .ok (.if_icmp .le 69, 3) := by decide +kernel
theorem dX4_split_14 : decode cX4_split 14 = .ok (.aload_n 0, 1) := by decide +kernel
theorem dX4_split_15 : decode cX4_split 15 = .ok (.getfield 7, 3) := by decide +kernel
theorem dX4_split_18 : decode cX4_split 18 = .ok (.bipush 9, 2) := by decide +kernel
theorem dX4_split_20 : decode cX4_split 20 = .ok (.iload_n 3, 1) := by decide +kernel
theorem dX4_split_21 : decode cX4_split 21 = .ok (.iadd, 1) := by decide +kernel
theorem dX4_split_22 : decode cX4_split 22 = .ok (.aload_n 0, 1) := by decide +kernel
theorem dX4_split_23 : decode cX4_split 23 = .ok (.getfield 7, 3) := by decide +kernel
theorem dX4_split_26 : decode cX4_split 26 = .ok (.bipush 9, 2) := by decide +kernel
theorem dX4_split_28 : decode cX4_split 28 = .ok (.iload_n 3, 1) := by decide +kernel
theorem dX4_split_29 : decode cX4_split 29 = .ok (.iadd, 1) := by decide +kernel
theorem dX4_split_30 : decode cX4_split 30 = .ok (.iconst 1, 1) := by decide +kernel
theorem dX4_split_31 : decode cX4_split 31 = .ok (.isub, 1) := by decide +kernel
theorem dX4_split_32 : decode cX4_split 32 = .ok (.iaload, 1) := by decide +kernel
theorem dX4_split_33 : decode cX4_split 33 = .ok (.iastore, 1) := by decide +kernel
theorem dX4_split_34 : decode cX4_split 34 = .ok (.aload_n 0, 1) := by decide +kernel
theorem dX4_split_35 : decode cX4_split 35 = .ok (.getfield 7, 3) := by decide +kernel
theorem dX4_split_38 : decode cX4_split 38 = .ok (.bipush 21, 2) := by decide +kernel
theorem dX4_split_40 : decode cX4_split 40 = .ok (.iload_n 3, 1) := by decide +kernel
theorem dX4_split_41 : decode cX4_split 41 = .ok (.iadd, 1) := by decide +kernel
theorem dX4_split_42 : decode cX4_split 42 = .ok (.aload_n 0, 1) := by decide +kernel
theorem dX4_split_43 : decode cX4_split 43 = .ok (.getfield 7, 3) := by decide +kernel
theorem dX4_split_46 : decode cX4_split 46 = .ok (.bipush 21, 2) := by decide +kernel
theorem dX4_split_48 : decode cX4_split 48 = .ok (.iload_n 3, 1) := by decide +kernel
theorem dX4_split_49 : decode cX4_split 49 = .ok (.iadd, 1) := by decide +kernel
theorem dX4_split_50 : decode cX4_split 50 = .ok (.iconst 1, 1) := by decide +kernel
theorem dX4_split_51 : decode cX4_split 51 = .ok (.isub, 1) := by decide +kernel
theorem dX4_split_52 : decode cX4_split 52 = .ok (.iaload, 1) := by decide +kernel
theorem dX4_split_53 : decode cX4_split 53 = .ok (.iastore, 1) := by decide +kernel
theorem dX4_split_54 : decode cX4_split 54 = .ok (.aload_n 0, 1) := by decide +kernel
theorem dX4_split_55 : decode cX4_split 55 = .ok (.getfield 7, 3) := by decide +kernel
theorem dX4_split_58 : decode cX4_split 58 = .ok (.bipush 33, 2) := by decide +kernel
theorem dX4_split_60 : decode cX4_split 60 = .ok (.iload_n 3, 1) := by decide +kernel
theorem dX4_split_61 : decode cX4_split 61 = .ok (.iadd, 1) := by decide +kernel
theorem dX4_split_62 : decode cX4_split 62 = .ok (.aload_n 0, 1) := by decide +kernel
theorem dX4_split_63 : decode cX4_split 63 = .ok (.getfield 7, 3) := by decide +kernel
theorem dX4_split_66 : decode cX4_split 66 = .ok (.bipush 33, 2) := by decide +kernel
theorem dX4_split_68 : decode cX4_split 68 = .ok (.iload_n 3, 1) := by decide +kernel
theorem dX4_split_69 : decode cX4_split 69 = .ok (.iadd, 1) := by decide +kernel
theorem dX4_split_70 : decode cX4_split 70 = .ok (.iconst 1, 1) := by decide +kernel
theorem dX4_split_71 : decode cX4_split 71 = .ok (.isub, 1) := by decide +kernel
theorem dX4_split_72 : decode cX4_split 72 = .ok (.iaload, 1) := by decide +kernel
theorem dX4_split_73 : decode cX4_split 73 = .ok (.iastore, 1) := by decide +kernel
theorem dX4_split_74 : decode cX4_split 74 = .ok (.iinc 3 (-1), 3) := by decide +kernel
theorem dX4_split_77 : decode cX4_split 77 = .ok (.goto (-70), 3) := by decide +kernel
theorem dX4_split_80 : decode cX4_split 80 = .ok (.aload_n 0, 1) := by decide +kernel
theorem dX4_split_81 : decode cX4_split 81 = .ok (.getfield 7, 3) := by decide +kernel
theorem dX4_split_84 : decode cX4_split 84 = .ok (.bipush 9, 2) := by decide +kernel
theorem dX4_split_86 : decode cX4_split 86 = .ok (.iload_n 1, 1) := by decide +kernel
theorem dX4_split_87 : decode cX4_split 87 = .ok (.iadd, 1) := by decide +kernel
theorem dX4_split_88 : decode cX4_split 88 = .ok (.iconst 1, 1) := by decide +kernel
theorem dX4_split_89 : decode cX4_split 89 = .ok (.iadd, 1) := by decide +kernel
theorem dX4_split_90 : decode cX4_split 90 = .ok (.aload_n 0, 1) := by decide +kernel
theorem dX4_split_91 : decode cX4_split 91 = .ok (.getfield 7, 3) := by decide +kernel
theorem dX4_split_94 : decode cX4_split 94 = .ok (.bipush 9, 2) := by decide +kernel
theorem dX4_split_96 : decode cX4_split 96 = .ok (.iload_n 1, 1) := by decide +kernel
theorem dX4_split_97 : decode cX4_split 97 = .ok (.iadd, 1) := by decide +kernel
theorem dX4_split_98 : decode cX4_split 98 = .ok (.iaload, 1) := by decide +kernel
theorem dX4_split_99 : decode cX4_split 99 = .ok (.iload_n 2, 1) := by decide +kernel
theorem dX4_split_100 : decode cX4_split 100 = .ok (.isub, 1) := by decide +kernel
theorem dX4_split_101 : decode cX4_split 101 = .ok (.iastore, 1) := by decide +kernel
theorem dX4_split_102 : decode cX4_split 102 = .ok (.aload_n 0, 1) := by decide +kernel
theorem dX4_split_103 : decode cX4_split 103 = .ok (.getfield 7, 3) := by decide +kernel
theorem dX4_split_106 : decode cX4_split 106 = .ok (.bipush 9, 2) := by decide +kernel
theorem dX4_split_108 : decode cX4_split 108 = .ok (.iload_n 1, 1) := by decide +kernel
theorem dX4_split_109 : decode cX4_split 109 = .ok (.iadd, 1) := by decide +kernel
theorem dX4_split_110 : decode cX4_split 110 = .ok (.iload_n 2, 1) := by decide +kernel
theorem dX4_split_111 : decode cX4_split 111 = .ok (.iastore, 1) := by decide +kernel
theorem dX4_split_112 : decode cX4_split 112 = .ok (.aload_n 0, 1) := by decide +kernel
theorem dX4_split_113 : decode cX4_split 113 = .ok (.getfield 7, 3) := by decide +kernel
theorem dX4_split_116 : decode cX4_split 116 = .ok (.bipush 21, 2) := by decide +kernel
theorem dX4_split_118 : decode cX4_split 118 = .ok (.iload_n 1, 1) := by decide +kernel
theorem dX4_split_119 : decode cX4_split 119 = .ok (.iadd, 1) := by decide +kernel
theorem dX4_split_120 : decode cX4_split 120 = .ok (.iconst 1, 1) := by decide +kernel
theorem dX4_split_121 : decode cX4_split 121 = .ok (.iadd, 1) := by decide +kernel
theorem dX4_split_122 : decode cX4_split 122 = .ok (.aload_n 0, 1) := by decide +kernel
theorem dX4_split_123 : decode cX4_split 123 = .ok (.getfield 7, 3) := by decide +kernel
theorem dX4_split_126 : decode cX4_split 126 = .ok (.bipush 21, 2) := by decide +kernel
theorem dX4_split_128 : decode cX4_split 128 = .ok (.iload_n 1, 1) := by decide +kernel
theorem dX4_split_129 : decode cX4_split 129 = .ok (.iadd, 1) := by decide +kernel
theorem dX4_split_130 : decode cX4_split 130 = .ok (.iaload, 1) := by decide +kernel
theorem dX4_split_131 : decode cX4_split 131 = .ok (.iastore, 1) := by decide +kernel
theorem dX4_split_132 : decode cX4_split 132 = .ok (.aload_n 0, 1) := by decide +kernel
theorem dX4_split_133 : decode cX4_split 133 = .ok (.getfield 7, 3) := by decide +kernel
theorem dX4_split_136 : decode cX4_split 136 = .ok (.bipush 33, 2) := by decide +kernel
theorem dX4_split_138 : decode cX4_split 138 = .ok (.iload_n 1, 1) := by decide +kernel
theorem dX4_split_139 : decode cX4_split 139 = .ok (.iadd, 1) := by decide +kernel
theorem dX4_split_140 : decode cX4_split 140 = .ok (.iconst 1, 1) := by decide +kernel
theorem dX4_split_141 : decode cX4_split 141 = .ok (.iadd, 1) := by decide +kernel
theorem dX4_split_142 : decode cX4_split 142 = .ok (.aload_n 0, 1) := by decide +kernel
theorem dX4_split_143 : decode cX4_split 143 = .ok (.getfield 7, 3) := by decide +kernel
theorem dX4_split_146 : decode cX4_split 146 = .ok (.bipush 33, 2) := by decide +kernel
theorem dX4_split_148 : decode cX4_split 148 = .ok (.iload_n 1, 1) := by decide +kernel
theorem dX4_split_149 : decode cX4_split 149 = .ok (.iadd, 1) := by decide +kernel
theorem dX4_split_150 : decode cX4_split 150 = .ok (.iaload, 1) := by decide +kernel
theorem dX4_split_151 : decode cX4_split 151 = .ok (.iconst 1, 1) := by decide +kernel
theorem dX4_split_152 : decode cX4_split 152 = .ok (.iadd, 1) := by decide +kernel
theorem dX4_split_153 : decode cX4_split 153 = .ok (.iastore, 1) := by decide +kernel
theorem dX4_split_154 : decode cX4_split 154 = .ok (.aload_n 0, 1) := by decide +kernel
theorem dX4_split_155 : decode cX4_split 155 = .ok (.getfield 7, 3) := by decide +kernel
theorem dX4_split_158 : decode cX4_split 158 = .ok (.iconst 3, 1) := by decide +kernel
theorem dX4_split_159 : decode cX4_split 159 = .ok (.dup2, 1) := by decide +kernel
theorem dX4_split_160 : decode cX4_split 160 = .ok (.iaload, 1) := by decide +kernel
theorem dX4_split_161 : decode cX4_split 161 = .ok (.iconst 1, 1) := by decide +kernel
theorem dX4_split_162 : decode cX4_split 162 = .ok (.iadd, 1) := by decide +kernel
theorem dX4_split_163 : decode cX4_split 163 = .ok (.iastore, 1) := by decide +kernel
theorem dX4_split_164 : decode cX4_split 164 = .ok (.return_, 1) := by decide +kernel
set_option maxRecDepth 20000 in
theorem ggX4_reactOne_X4_storyOf : GoodIn wsX4_reactOne wsX4_storyOf := goodIn_r _ [6, 1, 19, 20, 21, 22, 23, 24, 25, 26, 27, 28, 29, 30, 31, 32, 33, 34, 35, 36, 37, 38, 39] (by decide +kernel) (by decide +kernel)
set_option maxRecDepth 20000 in
theorem gX4_reactOne_X4_storyOf : GoodIn wsX4_reactOne (wsV RX4 56 RX4 yX4_storyOf wsX4_storyOf) := goodIn_app (goodIn_of _ (by decide +kernel)) ggX4_reactOne_X4_storyOf
set_option maxRecDepth 20000 in
theorem ggX4_reactOne_X4_first : GoodIn wsX4_reactOne wsX4_first := goodIn_r _ [10, 1, 19, 20, 21, 22, 23, 24, 25, 26, 27, 28, 29, 30, 31, 32, 33, 34, 35, 36, 37, 38, 39] (by decide +kernel) (by decide +kernel)
set_option maxRecDepth 20000 in
theorem gX4_reactOne_X4_first : GoodIn wsX4_reactOne (wsV RX4 60 RX4 yX4_first wsX4_first) := goodIn_app (goodIn_of _ (by decide +kernel)) ggX4_reactOne_X4_first
set_option maxRecDepth 20000 in
theorem ggX4_reactOne_X4_split : GoodIn wsX4_reactOne wsX4_split := goodIn_r _ [14, 1, 19, 20, 21, 22, 23, 24, 25, 26, 27, 28, 29, 30, 31, 32, 33, 34, 35, 36, 37, 38, 39] (by decide +kernel) (by decide +kernel)
set_option maxRecDepth 20000 in
theorem gX4_reactOne_X4_split : GoodIn wsX4_reactOne (wsV RX4 63 RX4 yX4_split wsX4_split) := goodIn_app (goodIn_of _ (by decide +kernel)) ggX4_reactOne_X4_split
set_option maxRecDepth 20000 in
theorem ggX4_reactOne_X4_warm : GoodIn wsX4_reactOne wsX4_warm := goodIn_r _ [18, 1, 19, 20, 21, 22, 23, 24, 25, 26, 27, 28, 29, 30, 31, 32, 33, 34, 35, 36, 37, 38, 39] (by decide +kernel) (by decide +kernel)
set_option maxRecDepth 20000 in
theorem gX4_reactOne_X4_warm : GoodIn wsX4_reactOne (wsV RX4 67 RX4 yX4_warm wsX4_warm) := goodIn_app (goodIn_of _ (by decide +kernel)) ggX4_reactOne_X4_warm
theorem dX4_reactOne_0 : decode cX4_reactOne 0 = .ok (.aload_n 0, 1) := by decide +kernel
theorem dX4_reactOne_1 : decode cX4_reactOne 1 = .ok (.iload_n 1, 1) := by decide +kernel
theorem dX4_reactOne_2 : decode cX4_reactOne 2 = .ok (.invokevirtual 56, 3) := by decide +kernel
theorem dX4_reactOne_5 : decode cX4_reactOne 5 = .ok (.istore_n 2, 1) := by decide +kernel
theorem dX4_reactOne_6 : decode cX4_reactOne 6 = .ok (.iload_n 1, 1) := by decide +kernel
theorem dX4_reactOne_7 : decode cX4_reactOne 7 = .ok (.aload_n 0, 1) := by decide +kernel
theorem dX4_reactOne_8 : decode cX4_reactOne 8 = .ok (.iload_n 2, 1) := by decide +kernel
theorem dX4_reactOne_9 : decode cX4_reactOne 9 = .ok (.invokevirtual 60, 3) := by decide +kernel
theorem dX4_reactOne_12 : decode cX4_reactOne 12 = .ok (.isub, 1) := by decide +kernel
theorem dX4_reactOne_13 : decode cX4_reactOne 13 = .ok (.istore_n 3, 1) := by decide +kernel
theorem dX4_reactOne_14 : decode cX4_reactOne 14 = .ok (.iload_n 3, 1) := by decide +kernel
theorem dX4_reactOne_15 : decode cX4_reactOne 15 = .ok (.aload_n 0, 1) := by decide +kernel
theorem dX4_reactOne_16 : decode cX4_reactOne 16 = .ok (.getfield 7, 3) := by decide +kernel
theorem dX4_reactOne_19 : decode cX4_reactOne 19 = .ok (.bipush 9, 2) := by decide +kernel
theorem dX4_reactOne_21 : decode cX4_reactOne 21 = .ok (.iload_n 2, 1) := by decide +kernel
theorem dX4_reactOne_22 : decode cX4_reactOne 22 = .ok (.iadd, 1) := by decide +kernel
theorem dX4_reactOne_23 : decode cX4_reactOne 23 = .ok (.iaload, 1) := by decide +kernel
theorem dX4_reactOne_24 : decode cX4_reactOne 24 = .ok (.iconst 1, 1) := by decide +kernel
theorem dX4_reactOne_25 : decode cX4_reactOne 25 = .ok (.isub, 1) := by decide +kernel
theorem dX4_reactOne_26 : decode cX4_reactOne 26 = .ok (.if_icmp .ne 7, 3) := by decide +kernel
theorem dX4_reactOne_29 : decode cX4_reactOne 29 = .ok (.iconst 1, 1) := by decide +kernel
theorem dX4_reactOne_30 : decode cX4_reactOne 30 = .ok (.goto 4, 3) := by decide +kernel
theorem dX4_reactOne_33 : decode cX4_reactOne 33 = .ok (.iconst 0, 1) := by decide +kernel
theorem dX4_reactOne_34 : decode cX4_reactOne 34 = .ok (.istore 4, 2) := by decide +kernel
theorem dX4_reactOne_36 : decode cX4_reactOne 36 = .ok (.aload_n 0, 1) := by decide +kernel
theorem dX4_reactOne_37 : decode cX4_reactOne 37 = .ok (.getfield 7, 3) := by decide +kernel
theorem dX4_reactOne_40 : decode cX4_reactOne 40 = .ok (.sipush 195, 3) := by decide +kernel
theorem dX4_reactOne_43 : decode cX4_reactOne 43 = .ok (.iload_n 1, 1) := by decide +kernel
theorem dX4_reactOne_44 : decode cX4_reactOne 44 = .ok (.iadd, 1) := by decide +kernel
theorem dX4_reactOne_45 : decode cX4_reactOne 45 = .ok (.iconst 0, 1) := by decide +kernel
theorem dX4_reactOne_46 : decode cX4_reactOne 46 = .ok (.iastore, 1) := by decide +kernel
theorem dX4_reactOne_47 : decode cX4_reactOne 47 = .ok (.iload_n 3, 1) := by decide +kernel
theorem dX4_reactOne_48 : decode cX4_reactOne 48 = .ok (.ifCond .ne 17, 3) := by decide +kernel
theorem dX4_reactOne_51 : decode cX4_reactOne 51 = .ok (.aload_n 0, 1) := by decide +kernel
theorem dX4_reactOne_52 : decode cX4_reactOne 52 = .ok (.getfield 7, 3) := by decide +kernel
theorem dX4_reactOne_55 : decode cX4_reactOne 55 = .ok (.bipush 7, 2) := by decide +kernel
theorem dX4_reactOne_57 : decode cX4_reactOne 57 = .ok (.dup2, 1) := by decide +kernel
theorem dX4_reactOne_58 : decode cX4_reactOne 58 = .ok (.iaload, 1) := by decide +kernel
theorem dX4_reactOne_59 : decode cX4_reactOne 59 = .ok (.iconst 1, 1) := by decide +kernel
theorem dX4_reactOne_60 : decode cX4_reactOne 60 = .ok (.iadd, 1) := by decide +kernel
theorem dX4_reactOne_61 : decode cX4_reactOne 61 = .ok (.iastore, 1) := by decide +kernel
theorem dX4_reactOne_62 : decode cX4_reactOne 62 = .ok (.goto 45, 3) := by decide +kernel
theorem dX4_reactOne_65 : decode cX4_reactOne 65 = .ok (.aload_n 0, 1) := by decide +kernel
theorem dX4_reactOne_66 : decode cX4_reactOne 66 = .ok (.getfield 7, 3) := by decide +kernel
theorem dX4_reactOne_69 : decode cX4_reactOne 69 = .ok (.iconst 3, 1) := by decide +kernel
theorem dX4_reactOne_70 : decode cX4_reactOne 70 = .ok (.iaload, 1) := by decide +kernel
theorem dX4_reactOne_71 : decode cX4_reactOne 71 = .ok (.bipush 12, 2) := by decide +kernel
theorem dX4_reactOne_73 : decode cX4_reactOne 73 = .ok (.if_icmp .ge 23, 3) := by decide +kernel
theorem dX4_reactOne_76 : decode cX4_reactOne 76 = .ok (.aload_n 0, 1) := by decide +kernel
theorem dX4_reactOne_77 : decode cX4_reactOne 77 = .ok (.getfield 7, 3) := by decide +kernel
theorem dX4_reactOne_80 : decode cX4_reactOne 80 = .ok (.bipush 6, 2) := by decide +kernel
theorem dX4_reactOne_82 : decode cX4_reactOne 82 = .ok (.dup2, 1) := by decide +kernel
theorem dX4_reactOne_83 : decode cX4_reactOne 83 = .ok (.iaload, 1) := by decide +kernel
theorem dX4_reactOne_84 : decode cX4_reactOne 84 = .ok (.iconst 1, 1) := by decide +kernel
theorem dX4_reactOne_85 : decode cX4_reactOne 85 = .ok (.iadd, 1) := by decide +kernel
theorem dX4_reactOne_86 : decode cX4_reactOne 86 = .ok (.iastore, 1) := by decide +kernel
theorem dX4_reactOne_87 : decode cX4_reactOne 87 = .ok (.aload_n 0, 1) := by decide +kernel
theorem dX4_reactOne_88 : decode cX4_reactOne 88 = .ok (.iload_n 2, 1) := by decide +kernel
theorem dX4_reactOne_89 : decode cX4_reactOne 89 = .ok (.iload_n 3, 1) := by decide +kernel
theorem dX4_reactOne_90 : decode cX4_reactOne 90 = .ok (.invokevirtual 63, 3) := by decide +kernel
theorem dX4_reactOne_93 : decode cX4_reactOne 93 = .ok (.goto 14, 3) := by decide +kernel
theorem dX4_reactOne_96 : decode cX4_reactOne 96 = .ok (.aload_n 0, 1) := by decide +kernel
theorem dX4_reactOne_97 : decode cX4_reactOne 97 = .ok (.getfield 7, 3) := by decide +kernel
theorem dX4_reactOne_100 : decode cX4_reactOne 100 = .ok (.bipush 8, 2) := by decide +kernel
theorem dX4_reactOne_102 : decode cX4_reactOne 102 = .ok (.dup2, 1) := by decide +kernel
theorem dX4_reactOne_103 : decode cX4_reactOne 103 = .ok (.iaload, 1) := by decide +kernel
theorem dX4_reactOne_104 : decode cX4_reactOne 104 = .ok (.iconst 1, 1) := by decide +kernel
theorem dX4_reactOne_105 : decode cX4_reactOne 105 = .ok (.iadd, 1) := by decide +kernel
theorem dX4_reactOne_106 : decode cX4_reactOne 106 = .ok (.iastore, 1) := by decide +kernel
theorem dX4_reactOne_107 : decode cX4_reactOne 107 = .ok (.iload_n 3, 1) := by decide +kernel
theorem dX4_reactOne_108 : decode cX4_reactOne 108 = .ok (.ifCond .le 16, 3) := by decide +kernel
theorem dX4_reactOne_111 : decode cX4_reactOne 111 = .ok (.aload_n 0, 1) := by decide +kernel
theorem dX4_reactOne_112 : decode cX4_reactOne 112 = .ok (.iload_n 1, 1) := by decide +kernel
theorem dX4_reactOne_113 : decode cX4_reactOne 113 = .ok (.iconst 1, 1) := by decide +kernel
theorem dX4_reactOne_114 : decode cX4_reactOne 114 = .ok (.isub, 1) := by decide +kernel
theorem dX4_reactOne_115 : decode cX4_reactOne 115 = .ok (.aload_n 0, 1) := by decide +kernel
theorem dX4_reactOne_116 : decode cX4_reactOne 116 = .ok (.getfield 7, 3) := by decide +kernel
theorem dX4_reactOne_119 : decode cX4_reactOne 119 = .ok (.iconst 1, 1) := by decide +kernel
theorem dX4_reactOne_120 : decode cX4_reactOne 120 = .ok (.iaload, 1) := by decide +kernel
theorem dX4_reactOne_121 : decode cX4_reactOne 121 = .ok (.invokevirtual 67, 3) := by decide +kernel
theorem dX4_reactOne_124 : decode cX4_reactOne 124 = .ok (.iload 4, 2) := by decide +kernel
theorem dX4_reactOne_126 : decode cX4_reactOne 126 = .ok (.ifCond .ne 16, 3) := by decide +kernel
theorem dX4_reactOne_129 : decode cX4_reactOne 129 = .ok (.aload_n 0, 1) := by decide +kernel
theorem dX4_reactOne_130 : decode cX4_reactOne 130 = .ok (.iload_n 1, 1) := by decide +kernel
theorem dX4_reactOne_131 : decode cX4_reactOne 131 = .ok (.iconst 1, 1) := by decide +kernel
theorem dX4_reactOne_132 : decode cX4_reactOne 132 = .ok (.iadd, 1) := by decide +kernel
theorem dX4_reactOne_133 : decode cX4_reactOne 133 = .ok (.aload_n 0, 1) := by decide +kernel
theorem dX4_reactOne_134 : decode cX4_reactOne 134 = .ok (.getfield 7, 3) := by decide +kernel
theorem dX4_reactOne_137 : decode cX4_reactOne 137 = .ok (.iconst 1, 1) := by decide +kernel
theorem dX4_reactOne_138 : decode cX4_reactOne 138 = .ok (.iaload, 1) := by decide +kernel
theorem dX4_reactOne_139 : decode cX4_reactOne 139 = .ok (.invokevirtual 67, 3) := by decide +kernel
theorem dX4_reactOne_142 : decode cX4_reactOne 142 = .ok (.return_, 1) := by decide +kernel
set_option maxRecDepth 20000 in
theorem ggX4_react_X4_reactOne : GoodIn wsX4_react wsX4_reactOne := goodIn_r _ [6, 1, 7, 8, 9, 5, 10, 11, 12, 13, 14, 15, 16, 17, 18, 19, 20, 21, 22, 23, 24, 25, 26, 27, 28, 29, 30, 31, 32, 33, 34, 35, 36, 37, 38, 39, 40, 41, 42, 43] (by decide +kernel) (by decide +kernel)
set_option maxRecDepth 20000 in
theorem gX4_react_X4_reactOne : GoodIn wsX4_react (wsV RX4 70 RX4 yX4_reactOne wsX4_reactOne) := goodIn_app (goodIn_of _ (by decide +kernel)) ggX4_react_X4_reactOne
theorem dX4_react_0 : decode cX4_react 0 = .ok (.iconst 0, 1) := by decide +kernel
theorem dX4_react_1 : decode cX4_react 1 = .ok (.istore_n 1, 1) := by decide +kernel
theorem dX4_react_2 : decode cX4_react 2 = .ok (.iconst 0, 1) := by decide +kernel
theorem dX4_react_3 : decode cX4_react 3 = .ok (.istore_n 2, 1) := by decide +kernel
theorem dX4_react_4 : decode cX4_react 4 = .ok (.iload_n 2, 1) := by decide +kernel
theorem dX4_react_5 : decode cX4_react 5 = .ok (.aload_n 0, 1) := by decide +kernel
theorem dX4_react_6 : decode cX4_react 6 = .ok (.getfield 7, 3) := by decide +kernel
theorem dX4_react_9 : decode cX4_react 9 = .ok (.iconst 4, 1) := by decide +kernel
theorem dX4_react_10 : decode cX4_react 10 = .ok (.iaload, 1) := by decide +kernel
theorem dX4_react_11 : decode cX4_react 11 = .ok (.if_icmp .ge 41, 3) := by decide +kernel
theorem dX4_react_14 : decode cX4_react 14 = .ok (.aload_n 0, 1) := by decide +kernel
theorem dX4_react_15 : decode cX4_react 15 = .ok (.getfield 7, 3) := by decide +kernel
theorem dX4_react_18 : decode cX4_react 18 = .ok (.sipush 195, 3) := by decide +kernel
theorem dX4_react_21 : decode cX4_react 21 = .ok (.iload_n 2, 1) := by decide +kernel
theorem dX4_react_22 : decode cX4_react 22 = .ok (.iadd, 1) := by decide +kernel
theorem dX4_react_23 : decode cX4_react 23 = .ok (.iaload, 1) := by decide +kernel
theorem dX4_react_24 : decode cX4_react 24 = .ok (.aload_n 0, 1) := by decide +kernel
theorem dX4_react_25 : decode cX4_react 25 = .ok (.getfield 7, 3) := by decide +kernel
theorem dX4_react_28 : decode cX4_react 28 = .ok (.iconst 0, 1) := by decide +kernel
theorem dX4_react_29 : decode cX4_react 29 = .ok (.iaload, 1) := by decide +kernel
theorem dX4_react_30 : decode cX4_react 30 = .ok (.if_icmp .lt 16, 3) := by decide +kernel
theorem dX4_react_33 : decode cX4_react 33 = .ok (.aload_n 0, 1) := by decide +kernel
theorem dX4_react_34 : decode cX4_react 34 = .ok (.iload_n 2, 1) := by decide +kernel
theorem dX4_react_35 : decode cX4_react 35 = .ok (.invokevirtual 70, 3) := by decide +kernel
theorem dX4_react_38 : decode cX4_react 38 = .ok (.iinc 1 1, 3) := by decide +kernel
theorem dX4_react_41 : decode cX4_react 41 = .ok (.iconst 0, 1) := by decide +kernel
theorem dX4_react_42 : decode cX4_react 42 = .ok (.istore_n 2, 1) := by decide +kernel
theorem dX4_react_43 : decode cX4_react 43 = .ok (.goto (-39), 3) := by decide +kernel
theorem dX4_react_46 : decode cX4_react 46 = .ok (.iinc 2 1, 3) := by decide +kernel
theorem dX4_react_49 : decode cX4_react 49 = .ok (.goto (-45), 3) := by decide +kernel
theorem dX4_react_52 : decode cX4_react 52 = .ok (.iload_n 1, 1) := by decide +kernel
theorem dX4_react_53 : decode cX4_react 53 = .ok (.ireturn, 1) := by decide +kernel
theorem dX4_removeStory_0 : decode cX4_removeStory 0 = .ok (.aload_n 0, 1) := by decide +kernel
theorem dX4_removeStory_1 : decode cX4_removeStory 1 = .ok (.getfield 7, 3) := by decide +kernel
theorem dX4_removeStory_4 : decode cX4_removeStory 4 = .ok (.iconst 3, 1) := by decide +kernel
theorem dX4_removeStory_5 : decode cX4_removeStory 5 = .ok (.dup2, 1) := by decide +kernel
theorem dX4_removeStory_6 : decode cX4_removeStory 6 = .ok (.iaload, 1) := by decide +kernel
theorem dX4_removeStory_7 : decode cX4_removeStory 7 = .ok (.iconst 1, 1) := by decide +kernel
theorem dX4_removeStory_8 : decode cX4_removeStory 8 = .ok (.isub, 1) := by decide +kernel
theorem dX4_removeStory_9 : decode cX4_removeStory 9 = .ok (.iastore, 1) := by decide +kernel
theorem dX4_removeStory_10 : decode cX4_removeStory 10 = .ok (.iload_n 1, 1) := by decide +kernel
theorem dX4_removeStory_11 : decode cX4_removeStory 11 = .ok (.istore_n 2, 1) := by decide +kernel
theorem dX4_removeStory_12 : decode cX4_removeStory 12 = .ok (.iload_n 2, 1) := by decide +kernel
theorem dX4_removeStory_13 : decode cX4_removeStory 13 = .ok (.aload_n 0, 1) := by decide +kernel
theorem dX4_removeStory_14 : decode cX4_removeStory 14 = .ok (.getfield 7, 3) := by decide +kernel
theorem dX4_removeStory_17 : decode cX4_removeStory 17 = .ok (.iconst 3, 1) := by decide +kernel
theorem dX4_removeStory_18 : decode cX4_removeStory 18 = .ok (.iaload, 1) := by decide +kernel
theorem dX4_removeStory_19 : decode cX4_removeStory 19 = .ok (.if_icmp .ge 69, 3) := by decide +kernel
theorem dX4_removeStory_22 : decode cX4_removeStory 22 = .ok (.aload_n 0, 1) := by decide +kernel
theorem dX4_removeStory_23 : decode cX4_removeStory 23 = .ok (.getfield 7, 3) := by decide +kernel
theorem dX4_removeStory_26 : decode cX4_removeStory 26 = .ok (.bipush 9, 2) := by decide +kernel
theorem dX4_removeStory_28 : decode cX4_removeStory 28 = .ok (.iload_n 2, 1) := by decide +kernel
theorem dX4_removeStory_29 : decode cX4_removeStory 29 = .ok (.iadd, 1) := by decide +kernel
theorem dX4_removeStory_30 : decode cX4_removeStory 30 = .ok (.aload_n 0, 1) := by decide +kernel
theorem dX4_removeStory_31 : decode cX4_removeStory 31 = .ok (.getfield 7, 3) := by decide +kernel
theorem dX4_removeStory_34 : decode cX4_removeStory 34 = .ok (.bipush 9, 2) := by decide +kernel
theorem dX4_removeStory_36 : decode cX4_removeStory 36 = .ok (.iload_n 2, 1) := by decide +kernel
theorem dX4_removeStory_37 : decode cX4_removeStory 37 = .ok (.iadd, 1) := by decide +kernel
theorem dX4_removeStory_38 : decode cX4_removeStory 38 = .ok (.iconst 1, 1) := by decide +kernel
theorem dX4_removeStory_39 : decode cX4_removeStory 39 = .ok (.iadd, 1) := by decide +kernel
theorem dX4_removeStory_40 : decode cX4_removeStory 40 = .ok (.iaload, 1) := by decide +kernel
theorem dX4_removeStory_41 : decode cX4_removeStory 41 = .ok (.iastore, 1) := by decide +kernel
theorem dX4_removeStory_42 : decode cX4_removeStory 42 = .ok (.aload_n 0, 1) := by decide +kernel
theorem dX4_removeStory_43 : decode cX4_removeStory 43 = .ok (.getfield 7, 3) := by decide +kernel
theorem dX4_removeStory_46 : decode cX4_removeStory 46 = .ok (.bipush 21, 2) := by decide +kernel
theorem dX4_removeStory_48 : decode cX4_removeStory 48 = .ok (.iload_n 2, 1) := by decide +kernel
theorem dX4_removeStory_49 : decode cX4_removeStory 49 = .ok (.iadd, 1) := by decide +kernel
theorem dX4_removeStory_50 : decode cX4_removeStory 50 = .ok (.aload_n 0, 1) := by decide +kernel
theorem dX4_removeStory_51 : decode cX4_removeStory 51 = .ok (.getfield 7, 3) := by decide +kernel
theorem dX4_removeStory_54 : decode cX4_removeStory 54 = .ok (.bipush 21, 2) := by decide +kernel
theorem dX4_removeStory_56 : decode cX4_removeStory 56 = .ok (.iload_n 2, 1) := by decide +kernel
theorem dX4_removeStory_57 : decode cX4_removeStory 57 = .ok (.iadd, 1) := by decide +kernel
theorem dX4_removeStory_58 : decode cX4_removeStory 58 = .ok (.iconst 1, 1) := by decide +kernel
theorem dX4_removeStory_59 : decode cX4_removeStory 59 = .ok (.iadd, 1) := by decide +kernel
theorem dX4_removeStory_60 : decode cX4_removeStory 60 = .ok (.iaload, 1) := by decide +kernel
theorem dX4_removeStory_61 : decode cX4_removeStory 61 = .ok (.iastore, 1) := by decide +kernel
theorem dX4_removeStory_62 : decode cX4_removeStory 62 = .ok (.aload_n 0, 1) := by decide +kernel
theorem dX4_removeStory_63 : decode cX4_removeStory 63 = .ok (.getfield 7, 3) := by decide +kernel
theorem dX4_removeStory_66 : decode cX4_removeStory 66 = .ok (.bipush 33, 2) := by decide +kernel
theorem dX4_removeStory_68 : decode cX4_removeStory 68 = .ok (.iload_n 2, 1) := by decide +kernel
theorem dX4_removeStory_69 : decode cX4_removeStory 69 = .ok (.iadd, 1) := by decide +kernel
theorem dX4_removeStory_70 : decode cX4_removeStory 70 = .ok (.aload_n 0, 1) := by decide +kernel
theorem dX4_removeStory_71 : decode cX4_removeStory 71 = .ok (.getfield 7, 3) := by decide +kernel
theorem dX4_removeStory_74 : decode cX4_removeStory 74 = .ok (.bipush 33, 2) := by decide +kernel
theorem dX4_removeStory_76 : decode cX4_removeStory 76 = .ok (.iload_n 2, 1) := by decide +kernel
theorem dX4_removeStory_77 : decode cX4_removeStory 77 = .ok (.iadd, 1) := by decide +kernel
theorem dX4_removeStory_78 : decode cX4_removeStory 78 = .ok (.iconst 1, 1) := by decide +kernel
theorem dX4_removeStory_79 : decode cX4_removeStory 79 = .ok (.iadd, 1) := by decide +kernel
theorem dX4_removeStory_80 : decode cX4_removeStory 80 = .ok (.iaload, 1) := by decide +kernel
theorem dX4_removeStory_81 : decode cX4_removeStory 81 = .ok (.iastore, 1) := by decide +kernel
theorem dX4_removeStory_82 : decode cX4_removeStory 82 = .ok (.iinc 2 1, 3) := by decide +kernel
theorem dX4_removeStory_85 : decode cX4_removeStory 85 = .ok (.goto (-73), 3) := by decide +kernel
theorem dX4_removeStory_88 : decode cX4_removeStory 88 = .ok (.return_, 1) := by decide +kernel
theorem dX4_removeWords_0 : decode cX4_removeWords 0 = .ok (.aload_n 0, 1) := by decide +kernel
theorem dX4_removeWords_1 : decode cX4_removeWords 1 = .ok (.getfield 7, 3) := by decide +kernel
theorem dX4_removeWords_4 : decode cX4_removeWords 4 = .ok (.iconst 4, 1) := by decide +kernel
theorem dX4_removeWords_5 : decode cX4_removeWords 5 = .ok (.dup2, 1) := by decide +kernel
theorem dX4_removeWords_6 : decode cX4_removeWords 6 = .ok (.iaload, 1) := by decide +kernel
theorem dX4_removeWords_7 : decode cX4_removeWords 7 = .ok (.iload_n 2, 1) := by decide +kernel
theorem dX4_removeWords_8 : decode cX4_removeWords 8 = .ok (.isub, 1) := by decide +kernel
theorem dX4_removeWords_9 : decode cX4_removeWords 9 = .ok (.iastore, 1) := by decide +kernel
theorem dX4_removeWords_10 : decode cX4_removeWords 10 = .ok (.iload_n 1, 1) := by decide +kernel
theorem dX4_removeWords_11 : decode cX4_removeWords 11 = .ok (.istore_n 3, 1) := by decide +kernel
theorem dX4_removeWords_12 : decode cX4_removeWords 12 = .ok (.iload_n 3, 1) := by decide +kernel
theorem dX4_removeWords_13 : decode cX4_removeWords 13 = .ok (.aload_n 0, 1) := by decide +kernel
theorem dX4_removeWords_14 : decode cX4_removeWords 14 = .ok (.getfield 7, 3) := by decide +kernel
theorem dX4_removeWords_17 : decode cX4_removeWords 17 = .ok (.iconst 4, 1) := by decide +kernel
theorem dX4_removeWords_18 : decode cX4_removeWords 18 = .ok (.iaload, 1) := by decide +kernel
theorem dX4_removeWords_19 : decode cX4_removeWords 19 = .ok (.if_icmp .ge 51, 3) := by decide +kernel
theorem dX4_removeWords_22 : decode cX4_removeWords 22 = .ok (.aload_n 0, 1) := by decide +kernel
theorem dX4_removeWords_23 : decode cX4_removeWords 23 = .ok (.getfield 7, 3) := by decide +kernel
theorem dX4_removeWords_26 : decode cX4_removeWords 26 = .ok (.bipush 45, 2) := by decide +kernel
theorem dX4_removeWords_28 : decode cX4_removeWords 28 = .ok (.iload_n 3, 1) := by decide +kernel
theorem dX4_removeWords_29 : decode cX4_removeWords 29 = .ok (.iadd, 1) := by decide +kernel
theorem dX4_removeWords_30 : decode cX4_removeWords 30 = .ok (.aload_n 0, 1) := by decide +kernel
theorem dX4_removeWords_31 : decode cX4_removeWords 31 = .ok (.getfield 7, 3) := by decide +kernel
theorem dX4_removeWords_34 : decode cX4_removeWords 34 = .ok (.bipush 45, 2) := by decide +kernel
theorem dX4_removeWords_36 : decode cX4_removeWords 36 = .ok (.iload_n 3, 1) := by decide +kernel
theorem dX4_removeWords_37 : decode cX4_removeWords 37 = .ok (.iadd, 1) := by decide +kernel
theorem dX4_removeWords_38 : decode cX4_removeWords 38 = .ok (.iload_n 2, 1) := by decide +kernel
theorem dX4_removeWords_39 : decode cX4_removeWords 39 = .ok (.iadd, 1) := by decide +kernel
theorem dX4_removeWords_40 : decode cX4_removeWords 40 = .ok (.iaload, 1) := by decide +kernel
theorem dX4_removeWords_41 : decode cX4_removeWords 41 = .ok (.iastore, 1) := by decide +kernel
theorem dX4_removeWords_42 : decode cX4_removeWords 42 = .ok (.aload_n 0, 1) := by decide +kernel
theorem dX4_removeWords_43 : decode cX4_removeWords 43 = .ok (.getfield 7, 3) := by decide +kernel
theorem dX4_removeWords_46 : decode cX4_removeWords 46 = .ok (.sipush 195, 3) := by decide +kernel
theorem dX4_removeWords_49 : decode cX4_removeWords 49 = .ok (.iload_n 3, 1) := by decide +kernel
theorem dX4_removeWords_50 : decode cX4_removeWords 50 = .ok (.iadd, 1) := by decide +kernel
theorem dX4_removeWords_51 : decode cX4_removeWords 51 = .ok (.aload_n 0, 1) := by decide +kernel
theorem dX4_removeWords_52 : decode cX4_removeWords 52 = .ok (.getfield 7, 3) := by decide +kernel
theorem dX4_removeWords_55 : decode cX4_removeWords 55 = .ok (.sipush 195, 3) := by decide +kernel
theorem dX4_removeWords_58 : decode cX4_removeWords 58 = .ok (.iload_n 3, 1) := by decide +kernel
theorem dX4_removeWords_59 : decode cX4_removeWords 59 = .ok (.iadd, 1) := by decide +kernel
theorem dX4_removeWords_60 : decode cX4_removeWords 60 = .ok (.iload_n 2, 1) := by decide +kernel
theorem dX4_removeWords_61 : decode cX4_removeWords 61 = .ok (.iadd, 1) := by decide +kernel
theorem dX4_removeWords_62 : decode cX4_removeWords 62 = .ok (.iaload, 1) := by decide +kernel
theorem dX4_removeWords_63 : decode cX4_removeWords 63 = .ok (.iastore, 1) := by decide +kernel
theorem dX4_removeWords_64 : decode cX4_removeWords 64 = .ok (.iinc 3 1, 3) := by decide +kernel
theorem dX4_removeWords_67 : decode cX4_removeWords 67 = .ok (.goto (-55), 3) := by decide +kernel
theorem dX4_removeWords_70 : decode cX4_removeWords 70 = .ok (.return_, 1) := by decide +kernel
set_option maxRecDepth 20000 in
theorem ggX4_times_X4_first : GoodIn wsX4_times wsX4_first := goodIn_r _ [6, 1, 7, 8, 9, 10, 11, 12, 13, 14, 15, 16, 17, 18, 19, 20, 21, 22, 23, 24, 25, 26, 27] (by decide +kernel) (by decide +kernel)
set_option maxRecDepth 20000 in
theorem gX4_times_X4_first : GoodIn wsX4_times (wsV RX4 60 RX4 yX4_first wsX4_first) := goodIn_app (goodIn_of _ (by decide +kernel)) ggX4_times_X4_first
theorem dX4_times_0 : decode cX4_times 0 = .ok (.iconst 0, 1) := by decide +kernel
theorem dX4_times_1 : decode cX4_times 1 = .ok (.istore_n 3, 1) := by decide +kernel
theorem dX4_times_2 : decode cX4_times 2 = .ok (.iconst 0, 1) := by decide +kernel
theorem dX4_times_3 : decode cX4_times 3 = .ok (.istore 4, 2) := by decide +kernel
theorem dX4_times_5 : decode cX4_times 5 = .ok (.iload 4, 2) := by decide +kernel
theorem dX4_times_7 : decode cX4_times 7 = .ok (.aload_n 0, 1) := by decide +kernel
theorem dX4_times_8 : decode cX4_times 8 = .ok (.getfield 7, 3) := by decide +kernel
theorem dX4_times_11 : decode cX4_times 11 = .ok (.bipush 9, 2) := by decide +kernel
theorem dX4_times_13 : decode cX4_times 13 = .ok (.iload_n 1, 1) := by decide +kernel
theorem dX4_times_14 : decode cX4_times 14 = .ok (.iadd, 1) := by decide +kernel
theorem dX4_times_15 : decode cX4_times 15 = .ok (.iaload, 1) := by decide +kernel
theorem dX4_times_16 : decode cX4_times 16 = .ok (.if_icmp .ge 37, 3) := by decide +kernel
theorem dX4_times_19 : decode cX4_times 19 = .ok (.iload_n 3, 1) := by decide +kernel
theorem dX4_times_20 : decode cX4_times 20 = .ok (.aload_n 0, 1) := by decide +kernel
theorem dX4_times_21 : decode cX4_times 21 = .ok (.getfield 7, 3) := by decide +kernel
theorem dX4_times_24 : decode cX4_times 24 = .ok (.bipush 45, 2) := by decide +kernel
theorem dX4_times_26 : decode cX4_times 26 = .ok (.aload_n 0, 1) := by decide +kernel
theorem dX4_times_27 : decode cX4_times 27 = .ok (.iload_n 1, 1) := by decide +kernel
theorem dX4_times_28 : decode cX4_times 28 = .ok (.invokevirtual 60, 3) := by decide +kernel
theorem dX4_times_31 : decode cX4_times 31 = .ok (.iadd, 1) := by decide +kernel
theorem dX4_times_32 : decode cX4_times 32 = .ok (.iload 4, 2) := by decide +kernel
theorem dX4_times_34 : decode cX4_times 34 = .ok (.iadd, 1) := by decide +kernel
theorem dX4_times_35 : decode cX4_times 35 = .ok (.iaload, 1) := by decide +kernel
theorem dX4_times_36 : decode cX4_times 36 = .ok (.iload_n 2, 1) := by decide +kernel
theorem dX4_times_37 : decode cX4_times 37 = .ok (.if_icmp .ne 7, 3) := by decide +kernel
theorem dX4_times_40 : decode cX4_times 40 = .ok (.iconst 1, 1) := by decide +kernel
theorem dX4_times_41 : decode cX4_times 41 = .ok (.goto 4, 3) := by decide +kernel
theorem dX4_times_44 : decode cX4_times 44 = .ok (.iconst 0, 1) := by decide +kernel
theorem dX4_times_45 : decode cX4_times 45 = .ok (.iadd, 1) := by decide +kernel
theorem dX4_times_46 : decode cX4_times 46 = .ok (.istore_n 3, 1) := by decide +kernel
theorem dX4_times_47 : decode cX4_times 47 = .ok (.iinc 4 1, 3) := by decide +kernel
theorem dX4_times_50 : decode cX4_times 50 = .ok (.goto (-45), 3) := by decide +kernel
theorem dX4_times_53 : decode cX4_times 53 = .ok (.iload_n 3, 1) := by decide +kernel
theorem dX4_times_54 : decode cX4_times 54 = .ok (.ireturn, 1) := by decide +kernel
set_option maxRecDepth 20000 in
theorem ggX4_theme_X4_times : GoodIn wsX4_theme wsX4_times := goodIn_r _ [5, 6, 7, 8, 9, 4, 10, 11, 12, 13, 14, 15, 16, 17, 18, 19, 20, 21, 22, 23, 24, 25, 26, 27, 28, 29, 30, 31] (by decide +kernel) (by decide +kernel)
set_option maxRecDepth 20000 in
theorem gX4_theme_X4_times : GoodIn wsX4_theme (wsV RX4 74 RX4 yX4_times wsX4_times) := goodIn_app (goodIn_of _ (by decide +kernel)) ggX4_theme_X4_times
theorem dX4_theme_0 : decode cX4_theme 0 = .ok (.iconst 0, 1) := by decide +kernel
theorem dX4_theme_1 : decode cX4_theme 1 = .ok (.istore_n 2, 1) := by decide +kernel
theorem dX4_theme_2 : decode cX4_theme 2 = .ok (.iconst 1, 1) := by decide +kernel
theorem dX4_theme_3 : decode cX4_theme 3 = .ok (.istore_n 3, 1) := by decide +kernel
theorem dX4_theme_4 : decode cX4_theme 4 = .ok (.iload_n 3, 1) := by decide +kernel
theorem dX4_theme_5 : decode cX4_theme 5 = .ok (.bipush 26, 2) := by decide +kernel
theorem dX4_theme_7 : decode cX4_theme 7 = .ok (.if_icmp .ge 30, 3) := by decide +kernel
theorem dX4_theme_10 : decode cX4_theme 10 = .ok (.aload_n 0, 1) := by decide +kernel
theorem dX4_theme_11 : decode cX4_theme 11 = .ok (.iload_n 1, 1) := by decide +kernel
theorem dX4_theme_12 : decode cX4_theme 12 = .ok (.iload_n 3, 1) := by decide +kernel
theorem dX4_theme_13 : decode cX4_theme 13 = .ok (.invokevirtual 74, 3) := by decide +kernel
theorem dX4_theme_16 : decode cX4_theme 16 = .ok (.aload_n 0, 1) := by decide +kernel
theorem dX4_theme_17 : decode cX4_theme 17 = .ok (.iload_n 1, 1) := by decide +kernel
theorem dX4_theme_18 : decode cX4_theme 18 = .ok (.iload_n 2, 1) := by decide +kernel
theorem dX4_theme_19 : decode cX4_theme 19 = .ok (.invokevirtual 74, 3) := by decide +kernel
theorem dX4_theme_22 : decode cX4_theme 22 = .ok (.if_icmp .le 7, 3) := by decide +kernel
theorem dX4_theme_25 : decode cX4_theme 25 = .ok (.iload_n 3, 1) := by decide +kernel
theorem dX4_theme_26 : decode cX4_theme 26 = .ok (.goto 4, 3) := by decide +kernel
theorem dX4_theme_29 : decode cX4_theme 29 = .ok (.iload_n 2, 1) := by decide +kernel
theorem dX4_theme_30 : decode cX4_theme 30 = .ok (.istore_n 2, 1) := by decide +kernel
theorem dX4_theme_31 : decode cX4_theme 31 = .ok (.iinc 3 1, 3) := by decide +kernel
theorem dX4_theme_34 : decode cX4_theme 34 = .ok (.goto (-30), 3) := by decide +kernel
theorem dX4_theme_37 : decode cX4_theme 37 = .ok (.iload_n 2, 1) := by decide +kernel
theorem dX4_theme_38 : decode cX4_theme 38 = .ok (.ireturn, 1) := by decide +kernel
set_option maxRecDepth 20000 in
theorem ggX4_heatOf_X4_first : GoodIn wsX4_heatOf wsX4_first := goodIn_r _ [6, 1, 7, 8, 9, 10, 11, 12, 13, 14, 15, 16, 17, 18, 19, 20, 21, 22, 23, 24, 25, 26, 27] (by decide +kernel) (by decide +kernel)
set_option maxRecDepth 20000 in
theorem gX4_heatOf_X4_first : GoodIn wsX4_heatOf (wsV RX4 60 RX4 yX4_first wsX4_first) := goodIn_app (goodIn_of _ (by decide +kernel)) ggX4_heatOf_X4_first
theorem dX4_heatOf_0 : decode cX4_heatOf 0 = .ok (.iconst 0, 1) := by decide +kernel
theorem dX4_heatOf_1 : decode cX4_heatOf 1 = .ok (.istore_n 2, 1) := by decide +kernel
theorem dX4_heatOf_2 : decode cX4_heatOf 2 = .ok (.iconst 0, 1) := by decide +kernel
theorem dX4_heatOf_3 : decode cX4_heatOf 3 = .ok (.istore_n 3, 1) := by decide +kernel
theorem dX4_heatOf_4 : decode cX4_heatOf 4 = .ok (.iload_n 3, 1) := by decide +kernel
theorem dX4_heatOf_5 : decode cX4_heatOf 5 = .ok (.aload_n 0, 1) := by decide +kernel
theorem dX4_heatOf_6 : decode cX4_heatOf 6 = .ok (.getfield 7, 3) := by decide +kernel
theorem dX4_heatOf_9 : decode cX4_heatOf 9 = .ok (.bipush 9, 2) := by decide +kernel
theorem dX4_heatOf_11 : decode cX4_heatOf 11 = .ok (.iload_n 1, 1) := by decide +kernel
theorem dX4_heatOf_12 : decode cX4_heatOf 12 = .ok (.iadd, 1) := by decide +kernel
theorem dX4_heatOf_13 : decode cX4_heatOf 13 = .ok (.iaload, 1) := by decide +kernel
theorem dX4_heatOf_14 : decode cX4_heatOf 14 = .ok (.if_icmp .ge 28, 3) := by decide +kernel
theorem dX4_heatOf_17 : decode cX4_heatOf 17 = .ok (.iload_n 2, 1) := by decide +kernel
theorem dX4_heatOf_18 : decode cX4_heatOf 18 = .ok (.aload_n 0, 1) := by decide +kernel
theorem dX4_heatOf_19 : decode cX4_heatOf 19 = .ok (.getfield 7, 3) := by decide +kernel
theorem dX4_heatOf_22 : decode cX4_heatOf 22 = .ok (.sipush 195, 3) := by decide +kernel
theorem dX4_heatOf_25 : decode cX4_heatOf 25 = .ok (.aload_n 0, 1) := by decide +kernel
theorem dX4_heatOf_26 : decode cX4_heatOf 26 = .ok (.iload_n 1, 1) := by decide +kernel
theorem dX4_heatOf_27 : decode cX4_heatOf 27 = .ok (.invokevirtual 60, 3) := by decide +kernel
theorem dX4_heatOf_30 : decode cX4_heatOf 30 = .ok (.iadd, 1) := by decide +kernel
theorem dX4_heatOf_31 : decode cX4_heatOf 31 = .ok (.iload_n 3, 1) := by decide +kernel
theorem dX4_heatOf_32 : decode cX4_heatOf 32 = .ok (.iadd, 1) := by decide +kernel
theorem dX4_heatOf_33 : decode cX4_heatOf 33 = .ok (.iaload, 1) := by decide +kernel
theorem dX4_heatOf_34 : decode cX4_heatOf 34 = .ok (.iadd, 1) := by decide +kernel
theorem dX4_heatOf_35 : decode cX4_heatOf 35 = .ok (.istore_n 2, 1) := by decide +kernel
theorem dX4_heatOf_36 : decode cX4_heatOf 36 = .ok (.iinc 3 1, 3) := by decide +kernel
theorem dX4_heatOf_39 : decode cX4_heatOf 39 = .ok (.goto (-35), 3) := by decide +kernel
theorem dX4_heatOf_42 : decode cX4_heatOf 42 = .ok (.iload_n 2, 1) := by decide +kernel
theorem dX4_heatOf_43 : decode cX4_heatOf 43 = .ok (.ireturn, 1) := by decide +kernel
theorem dX4_allHeat_0 : decode cX4_allHeat 0 = .ok (.iconst 0, 1) := by decide +kernel
theorem dX4_allHeat_1 : decode cX4_allHeat 1 = .ok (.istore_n 1, 1) := by decide +kernel
theorem dX4_allHeat_2 : decode cX4_allHeat 2 = .ok (.iconst 0, 1) := by decide +kernel
theorem dX4_allHeat_3 : decode cX4_allHeat 3 = .ok (.istore_n 2, 1) := by decide +kernel
theorem dX4_allHeat_4 : decode cX4_allHeat 4 = .ok (.iload_n 2, 1) := by decide +kernel
theorem dX4_allHeat_5 : decode cX4_allHeat 5 = .ok (.aload_n 0, 1) := by decide +kernel
theorem dX4_allHeat_6 : decode cX4_allHeat 6 = .ok (.getfield 7, 3) := by decide +kernel
theorem dX4_allHeat_9 : decode cX4_allHeat 9 = .ok (.iconst 4, 1) := by decide +kernel
theorem dX4_allHeat_10 : decode cX4_allHeat 10 = .ok (.iaload, 1) := by decide +kernel
theorem dX4_allHeat_11 : decode cX4_allHeat 11 = .ok (.if_icmp .ge 22, 3) := by decide +kernel
theorem dX4_allHeat_14 : decode cX4_allHeat 14 = .ok (.iload_n 1, 1) := by decide +kernel
theorem dX4_allHeat_15 : decode cX4_allHeat 15 = .ok (.aload_n 0, 1) := by decide +kernel
theorem dX4_allHeat_16 : decode cX4_allHeat 16 = .ok (.getfield 7, 3) := by decide +kernel
theorem dX4_allHeat_19 : decode cX4_allHeat 19 = .ok (.sipush 195, 3) := by decide +kernel
theorem dX4_allHeat_22 : decode cX4_allHeat 22 = .ok (.iload_n 2, 1) := by decide +kernel
theorem dX4_allHeat_23 : decode cX4_allHeat 23 = .ok (.iadd, 1) := by decide +kernel
theorem dX4_allHeat_24 : decode cX4_allHeat 24 = .ok (.iaload, 1) := by decide +kernel
theorem dX4_allHeat_25 : decode cX4_allHeat 25 = .ok (.iadd, 1) := by decide +kernel
theorem dX4_allHeat_26 : decode cX4_allHeat 26 = .ok (.istore_n 1, 1) := by decide +kernel
theorem dX4_allHeat_27 : decode cX4_allHeat 27 = .ok (.iinc 2 1, 3) := by decide +kernel
theorem dX4_allHeat_30 : decode cX4_allHeat 30 = .ok (.goto (-26), 3) := by decide +kernel
theorem dX4_allHeat_33 : decode cX4_allHeat 33 = .ok (.iload_n 1, 1) := by decide +kernel
theorem dX4_allHeat_34 : decode cX4_allHeat 34 = .ok (.ireturn, 1) := by decide +kernel
set_option maxRecDepth 20000 in
theorem ggX4_set_X4_in : GoodIn wsX4_set wsX4_in := goodIn_r _ [5] (by decide +kernel) (by decide +kernel)
set_option maxRecDepth 20000 in
theorem gX4_set_X4_in : GoodIn wsX4_set (va_wsS RX4 44 yX4_in wsX4_in) := goodIn_app (goodIn_of _ (by decide +kernel)) ggX4_set_X4_in
set_option maxRecDepth 20000 in
theorem ggX4_set_X4_know : GoodIn wsX4_set wsX4_know := goodIn_r _ [9, 10, 11, 1, 12, 13, 14, 15, 16, 17, 18, 19, 20, 21, 22, 23, 24, 25, 26, 27, 28, 29, 30, 31, 32] (by decide +kernel) (by decide +kernel)
set_option maxRecDepth 20000 in
theorem gX4_set_X4_know : GoodIn wsX4_set (wsV RX4 78 RX4 yX4_know wsX4_know) := goodIn_app (goodIn_of _ (by decide +kernel)) ggX4_set_X4_know
theorem dX4_set_0 : decode cX4_set 0 = .ok (.iload_n 1, 1) := by decide +kernel
theorem dX4_set_1 : decode cX4_set 1 = .ok (.ifCond .ne 8, 3) := by decide +kernel
theorem dX4_set_4 : decode cX4_set 4 = .ok (.bipush 10, 2) := by decide +kernel
theorem dX4_set_6 : decode cX4_set 6 = .ok (.goto 4, 3) := by decide +kernel
theorem dX4_set_9 : decode cX4_set 9 = .ok (.iconst 0, 1) := by decide +kernel
theorem dX4_set_10 : decode cX4_set 10 = .ok (.istore_n 3, 1) := by decide +kernel
theorem dX4_set_11 : decode cX4_set 11 = .ok (.iload_n 1, 1) := by decide +kernel
theorem dX4_set_12 : decode cX4_set 12 = .ok (.ifCond .ne 8, 3) := by decide +kernel
theorem dX4_set_15 : decode cX4_set 15 = .ok (.bipush 99, 2) := by decide +kernel
theorem dX4_set_17 : decode cX4_set 17 = .ok (.goto 14, 3) := by decide +kernel
theorem dX4_set_20 : decode cX4_set 20 = .ok (.iload_n 1, 1) := by decide +kernel
theorem dX4_set_21 : decode cX4_set 21 = .ok (.iconst 1, 1) := by decide +kernel
theorem dX4_set_22 : decode cX4_set 22 = .ok (.if_icmp .ne 7, 3) := by decide +kernel
theorem dX4_set_25 : decode cX4_set 25 = .ok (.iconst 4, 1) := by decide +kernel
theorem dX4_set_26 : decode cX4_set 26 = .ok (.goto 5, 3) := by decide +kernel
theorem dX4_set_29 : decode cX4_set 29 = .ok (.bipush 20, 2) := by decide +kernel
theorem dX4_set_31 : decode cX4_set 31 = .ok (.istore 4, 2) := by decide +kernel
theorem dX4_set_33 : decode cX4_set 33 = .ok (.iload_n 1, 1) := by decide +kernel
theorem dX4_set_34 : decode cX4_set 34 = .ok (.iconst 0, 1) := by decide +kernel
theorem dX4_set_35 : decode cX4_set 35 = .ok (.iconst 2, 1) := by decide +kernel
theorem dX4_set_36 : decode cX4_set 36 = .ok (.invokestatic 44, 3) := by decide +kernel
theorem dX4_set_39 : decode cX4_set 39 = .ok (.ifCond .eq 13, 3) := by decide +kernel
theorem dX4_set_42 : decode cX4_set 42 = .ok (.iload_n 2, 1) := by decide +kernel
theorem dX4_set_43 : decode cX4_set 43 = .ok (.iload_n 3, 1) := by decide +kernel
theorem dX4_set_44 : decode cX4_set 44 = .ok (.iload 4, 2) := by decide +kernel
theorem dX4_set_46 : decode cX4_set 46 = .ok (.invokestatic 44, 3) := by decide +kernel
theorem dX4_set_49 : decode cX4_set 49 = .ok (.ifCond .ne 6, 3) := by decide +kernel
theorem dX4_set_52 : decode cX4_set 52 = .ok (.bipush (-2), 2) := by decide +kernel
theorem dX4_set_54 : decode cX4_set 54 = .ok (.ireturn, 1) := by decide +kernel
theorem dX4_set_55 : decode cX4_set 55 = .ok (.aload_n 0, 1) := by decide +kernel
theorem dX4_set_56 : decode cX4_set 56 = .ok (.invokevirtual 78, 3) := by decide +kernel
theorem dX4_set_59 : decode cX4_set 59 = .ok (.aload_n 0, 1) := by decide +kernel
theorem dX4_set_60 : decode cX4_set 60 = .ok (.getfield 7, 3) := by decide +kernel
theorem dX4_set_63 : decode cX4_set 63 = .ok (.iconst 0, 1) := by decide +kernel
theorem dX4_set_64 : decode cX4_set 64 = .ok (.iload_n 1, 1) := by decide +kernel
theorem dX4_set_65 : decode cX4_set 65 = .ok (.iadd, 1) := by decide +kernel
theorem dX4_set_66 : decode cX4_set 66 = .ok (.iaload, 1) := by decide +kernel
theorem dX4_set_67 : decode cX4_set 67 = .ok (.istore 5, 2) := by decide +kernel
theorem dX4_set_69 : decode cX4_set 69 = .ok (.aload_n 0, 1) := by decide +kernel
theorem dX4_set_70 : decode cX4_set 70 = .ok (.getfield 7, 3) := by decide +kernel
theorem dX4_set_73 : decode cX4_set 73 = .ok (.iconst 0, 1) := by decide +kernel
theorem dX4_set_74 : decode cX4_set 74 = .ok (.iload_n 1, 1) := by decide +kernel
theorem dX4_set_75 : decode cX4_set 75 = .ok (.iadd, 1) := by decide +kernel
theorem dX4_set_76 : decode cX4_set 76 = .ok (.iload_n 2, 1) := by decide +kernel
theorem dX4_set_77 : decode cX4_set 77 = .ok (.iastore, 1) := by decide +kernel
theorem dX4_set_78 : decode cX4_set 78 = .ok (.iload 5, 2) := by decide +kernel
theorem dX4_set_80 : decode cX4_set 80 = .ok (.ireturn, 1) := by decide +kernel
set_option maxRecDepth 20000 in
theorem ggX4_heat_X4_isWord : GoodIn wsX4_heat wsX4_isWord := goodIn_r _ [5, 6, 7, 8, 9, 4, 10, 11, 12, 13, 44, 45, 46, 47, 48, 49, 50, 51, 52, 53, 54, 55, 56, 57, 58, 59, 60, 61, 62, 63, 64] (by decide +kernel) (by decide +kernel)
set_option maxRecDepth 20000 in
theorem gX4_heat_X4_isWord : GoodIn wsX4_heat (wsV RX4 81 RX4 yX4_isWord wsX4_isWord) := goodIn_app (goodIn_of _ (by decide +kernel)) ggX4_heat_X4_isWord
set_option maxRecDepth 20000 in
theorem ggX4_heat_X4_in : GoodIn wsX4_heat wsX4_in := goodIn_r _ [13] (by decide +kernel) (by decide +kernel)
set_option maxRecDepth 20000 in
theorem gX4_heat_X4_in : GoodIn wsX4_heat (va_wsS RX4 44 yX4_in wsX4_in) := goodIn_app (goodIn_of _ (by decide +kernel)) ggX4_heat_X4_in
set_option maxRecDepth 20000 in
theorem ggX4_heat_X4_know : GoodIn wsX4_heat wsX4_know := goodIn_r _ [17, 18, 19, 6, 44, 45, 46, 47, 48, 49, 50, 51, 52, 53, 54, 55, 56, 57, 58, 59, 60, 61, 62, 63, 64] (by decide +kernel) (by decide +kernel)
set_option maxRecDepth 20000 in
theorem gX4_heat_X4_know : GoodIn wsX4_heat (wsV RX4 78 RX4 yX4_know wsX4_know) := goodIn_app (goodIn_of _ (by decide +kernel)) ggX4_heat_X4_know
set_option maxRecDepth 20000 in
theorem ggX4_heat_X4_first : GoodIn wsX4_heat wsX4_first := goodIn_r _ [23, 6, 44, 45, 46, 47, 48, 49, 50, 51, 52, 53, 54, 55, 56, 57, 58, 59, 60, 61, 62, 63, 64] (by decide +kernel) (by decide +kernel)
set_option maxRecDepth 20000 in
theorem gX4_heat_X4_first : GoodIn wsX4_heat (wsV RX4 60 RX4 yX4_first wsX4_first) := goodIn_app (goodIn_of _ (by decide +kernel)) ggX4_heat_X4_first
set_option maxRecDepth 20000 in
theorem ggX4_heat_X4_warm : GoodIn wsX4_heat wsX4_warm := goodIn_r _ [27, 6, 44, 45, 46, 47, 48, 49, 50, 51, 52, 53, 54, 55, 56, 57, 58, 59, 60, 61, 62, 63, 64] (by decide +kernel) (by decide +kernel)
set_option maxRecDepth 20000 in
theorem gX4_heat_X4_warm : GoodIn wsX4_heat (wsV RX4 67 RX4 yX4_warm wsX4_warm) := goodIn_app (goodIn_of _ (by decide +kernel)) ggX4_heat_X4_warm
set_option maxRecDepth 20000 in
theorem ggX4_heat_X4_react : GoodIn wsX4_heat wsX4_react := goodIn_r _ [31, 6, 32, 33, 34, 4, 35, 36, 37, 38, 39, 20, 21, 22, 23, 40, 41, 42, 43, 24, 25, 26, 27, 44, 45, 46, 47, 48, 49, 50, 51, 52, 53, 54, 55, 56, 57, 58, 59, 60, 61, 62, 63, 64] (by decide +kernel) (by decide +kernel)
set_option maxRecDepth 20000 in
theorem gX4_heat_X4_react : GoodIn wsX4_heat (wsV RX4 85 RX4 yX4_react wsX4_react) := goodIn_app (goodIn_of _ (by decide +kernel)) ggX4_heat_X4_react
theorem dX4_heat_0 : decode cX4_heat 0 = .ok (.aload_n 0, 1) := by decide +kernel
theorem dX4_heat_1 : decode cX4_heat 1 = .ok (.iload_n 1, 1) := by decide +kernel
theorem dX4_heat_2 : decode cX4_heat 2 = .ok (.iload_n 2, 1) := by decide +kernel
theorem dX4_heat_3 : decode cX4_heat 3 = .ok (.invokevirtual 81, 3) := by decide +kernel
theorem dX4_heat_6 : decode cX4_heat 6 = .ok (.ifCond .ne 5, 3) := by decide +kernel
theorem dX4_heat_9 : decode cX4_heat 9 = .ok (.iconst (-1), 1) := by decide +kernel
theorem dX4_heat_10 : decode cX4_heat 10 = .ok (.ireturn, 1) := by decide +kernel
theorem dX4_heat_11 : decode cX4_heat 11 = .ok (.iload_n 3, 1) := by decide +kernel
theorem dX4_heat_12 : decode cX4_heat 12 = .ok (.iconst 1, 1) := by decide +kernel
theorem dX4_heat_13 : decode cX4_heat 13 = .ok (.sipush 500, 3) := by decide +kernel
theorem dX4_heat_16 : decode cX4_heat 16 = .ok (.invokestatic 44, 3) := by decide +kernel
theorem dX4_heat_19 : decode cX4_heat 19 = .ok (.ifCond .ne 6, 3) := by decide +kernel
theorem dX4_heat_22 : decode cX4_heat 22 = .ok (.bipush (-2), 2) := by decide +kernel
theorem dX4_heat_24 : decode cX4_heat 24 = .ok (.ireturn, 1) := by decide +kernel
theorem dX4_heat_25 : decode cX4_heat 25 = .ok (.aload_n 0, 1) := by decide +kernel
theorem dX4_heat_26 : decode cX4_heat 26 = .ok (.invokevirtual 78, 3) := by decide +kernel
theorem dX4_heat_29 : decode cX4_heat 29 = .ok (.aload_n 0, 1) := by decide +kernel
theorem dX4_heat_30 : decode cX4_heat 30 = .ok (.aload_n 0, 1) := by decide +kernel
theorem dX4_heat_31 : decode cX4_heat 31 = .ok (.iload_n 1, 1) := by decide +kernel
theorem dX4_heat_32 : decode cX4_heat 32 = .ok (.invokevirtual 60, 3) := by decide +kernel
theorem dX4_heat_35 : decode cX4_heat 35 = .ok (.iload_n 2, 1) := by decide +kernel
theorem dX4_heat_36 : decode cX4_heat 36 = .ok (.iadd, 1) := by decide +kernel
theorem dX4_heat_37 : decode cX4_heat 37 = .ok (.iload_n 3, 1) := by decide +kernel
theorem dX4_heat_38 : decode cX4_heat 38 = .ok (.invokevirtual 67, 3) := by decide +kernel
theorem dX4_heat_41 : decode cX4_heat 41 = .ok (.aload_n 0, 1) := by decide +kernel
theorem dX4_heat_42 : decode cX4_heat 42 = .ok (.invokevirtual 85, 3) := by decide +kernel
theorem dX4_heat_45 : decode cX4_heat 45 = .ok (.ireturn, 1) := by decide +kernel
set_option maxRecDepth 20000 in
theorem ggX4_read_X4_isStory : GoodIn wsX4_read wsX4_isStory := goodIn_r _ [6, 1, 7, 8, 5, 9, 40, 41, 42, 43, 44, 45, 46, 47, 48, 49, 50, 51, 52, 53, 54, 55, 56, 57, 58, 59, 60] (by decide +kernel) (by decide +kernel)
set_option maxRecDepth 20000 in
theorem gX4_read_X4_isStory : GoodIn wsX4_read (wsV RX4 48 RX4 yX4_isStory wsX4_isStory) := goodIn_app (goodIn_of _ (by decide +kernel)) ggX4_read_X4_isStory
set_option maxRecDepth 20000 in
theorem ggX4_read_X4_in : GoodIn wsX4_read wsX4_in := goodIn_r _ [9] (by decide +kernel) (by decide +kernel)
set_option maxRecDepth 20000 in
theorem gX4_read_X4_in : GoodIn wsX4_read (va_wsS RX4 44 yX4_in wsX4_in) := goodIn_app (goodIn_of _ (by decide +kernel)) ggX4_read_X4_in
set_option maxRecDepth 20000 in
theorem ggX4_read_X4_know : GoodIn wsX4_read wsX4_know := goodIn_r _ [13, 14, 15, 1, 40, 41, 42, 43, 44, 45, 46, 47, 48, 49, 50, 51, 52, 53, 54, 55, 56, 57, 58, 59, 60] (by decide +kernel) (by decide +kernel)
set_option maxRecDepth 20000 in
theorem gX4_read_X4_know : GoodIn wsX4_read (wsV RX4 78 RX4 yX4_know wsX4_know) := goodIn_app (goodIn_of _ (by decide +kernel)) ggX4_read_X4_know
set_option maxRecDepth 20000 in
theorem ggX4_read_X4_first : GoodIn wsX4_read wsX4_first := goodIn_r _ [19, 1, 40, 41, 42, 43, 44, 45, 46, 47, 48, 49, 50, 51, 52, 53, 54, 55, 56, 57, 58, 59, 60] (by decide +kernel) (by decide +kernel)
set_option maxRecDepth 20000 in
theorem gX4_read_X4_first : GoodIn wsX4_read (wsV RX4 60 RX4 yX4_first wsX4_first) := goodIn_app (goodIn_of _ (by decide +kernel)) ggX4_read_X4_first
set_option maxRecDepth 20000 in
theorem ggX4_read_X4_warm : GoodIn wsX4_read wsX4_warm := goodIn_r _ [23, 1, 40, 41, 42, 43, 44, 45, 46, 47, 48, 49, 50, 51, 52, 53, 54, 55, 56, 57, 58, 59, 60] (by decide +kernel) (by decide +kernel)
set_option maxRecDepth 20000 in
theorem gX4_read_X4_warm : GoodIn wsX4_read (wsV RX4 67 RX4 yX4_warm wsX4_warm) := goodIn_app (goodIn_of _ (by decide +kernel)) ggX4_read_X4_warm
set_option maxRecDepth 20000 in
theorem ggX4_read_X4_react : GoodIn wsX4_read wsX4_react := goodIn_r _ [27, 1, 28, 29, 30, 5, 31, 32, 33, 34, 35, 16, 17, 18, 19, 36, 37, 38, 39, 20, 21, 22, 23, 40, 41, 42, 43, 44, 45, 46, 47, 48, 49, 50, 51, 52, 53, 54, 55, 56, 57, 58, 59, 60] (by decide +kernel) (by decide +kernel)
set_option maxRecDepth 20000 in
theorem gX4_read_X4_react : GoodIn wsX4_read (wsV RX4 85 RX4 yX4_react wsX4_react) := goodIn_app (goodIn_of _ (by decide +kernel)) ggX4_read_X4_react
theorem dX4_read_0 : decode cX4_read 0 = .ok (.aload_n 0, 1) := by decide +kernel
theorem dX4_read_1 : decode cX4_read 1 = .ok (.iload_n 1, 1) := by decide +kernel
theorem dX4_read_2 : decode cX4_read 2 = .ok (.invokevirtual 48, 3) := by decide +kernel
theorem dX4_read_5 : decode cX4_read 5 = .ok (.ifCond .ne 5, 3) := by decide +kernel
theorem dX4_read_8 : decode cX4_read 8 = .ok (.iconst (-1), 1) := by decide +kernel
theorem dX4_read_9 : decode cX4_read 9 = .ok (.ireturn, 1) := by decide +kernel
theorem dX4_read_10 : decode cX4_read 10 = .ok (.iload_n 2, 1) := by decide +kernel
theorem dX4_read_11 : decode cX4_read 11 = .ok (.iconst 1, 1) := by decide +kernel
theorem dX4_read_12 : decode cX4_read 12 = .ok (.bipush 50, 2) := by decide +kernel
theorem dX4_read_14 : decode cX4_read 14 = .ok (.invokestatic 44, 3) := by decide +kernel
theorem dX4_read_17 : decode cX4_read 17 = .ok (.ifCond .ne 6, 3) := by decide +kernel
theorem dX4_read_20 : decode cX4_read 20 = .ok (.bipush (-2), 2) := by decide +kernel
theorem dX4_read_22 : decode cX4_read 22 = .ok (.ireturn, 1) := by decide +kernel
theorem dX4_read_23 : decode cX4_read 23 = .ok (.aload_n 0, 1) := by decide +kernel
theorem dX4_read_24 : decode cX4_read 24 = .ok (.invokevirtual 78, 3) := by decide +kernel
theorem dX4_read_27 : decode cX4_read 27 = .ok (.iconst 0, 1) := by decide +kernel
theorem dX4_read_28 : decode cX4_read 28 = .ok (.istore_n 3, 1) := by decide +kernel
theorem dX4_read_29 : decode cX4_read 29 = .ok (.iload_n 3, 1) := by decide +kernel
theorem dX4_read_30 : decode cX4_read 30 = .ok (.aload_n 0, 1) := by decide +kernel
theorem dX4_read_31 : decode cX4_read 31 = .ok (.getfield 7, 3) := by decide +kernel
theorem dX4_read_34 : decode cX4_read 34 = .ok (.bipush 9, 2) := by decide +kernel
theorem dX4_read_36 : decode cX4_read 36 = .ok (.iload_n 1, 1) := by decide +kernel
theorem dX4_read_37 : decode cX4_read 37 = .ok (.iadd, 1) := by decide +kernel
theorem dX4_read_38 : decode cX4_read 38 = .ok (.iaload, 1) := by decide +kernel
theorem dX4_read_39 : decode cX4_read 39 = .ok (.if_icmp .ge 21, 3) := by decide +kernel
theorem dX4_read_42 : decode cX4_read 42 = .ok (.aload_n 0, 1) := by decide +kernel
theorem dX4_read_43 : decode cX4_read 43 = .ok (.aload_n 0, 1) := by decide +kernel
theorem dX4_read_44 : decode cX4_read 44 = .ok (.iload_n 1, 1) := by decide +kernel
theorem dX4_read_45 : decode cX4_read 45 = .ok (.invokevirtual 60, 3) := by decide +kernel
theorem dX4_read_48 : decode cX4_read 48 = .ok (.iload_n 3, 1) := by decide +kernel
theorem dX4_read_49 : decode cX4_read 49 = .ok (.iadd, 1) := by decide +kernel
theorem dX4_read_50 : decode cX4_read 50 = .ok (.iload_n 2, 1) := by decide +kernel
theorem dX4_read_51 : decode cX4_read 51 = .ok (.invokevirtual 67, 3) := by decide +kernel
theorem dX4_read_54 : decode cX4_read 54 = .ok (.iinc 3 1, 3) := by decide +kernel
theorem dX4_read_57 : decode cX4_read 57 = .ok (.goto (-28), 3) := by decide +kernel
theorem dX4_read_60 : decode cX4_read 60 = .ok (.aload_n 0, 1) := by decide +kernel
theorem dX4_read_61 : decode cX4_read 61 = .ok (.invokevirtual 85, 3) := by decide +kernel
theorem dX4_read_64 : decode cX4_read 64 = .ok (.ireturn, 1) := by decide +kernel
set_option maxRecDepth 20000 in
theorem ggX4_fuse_X4_isStory : GoodIn wsX4_fuse wsX4_isStory := goodIn_r _ [8, 1, 9, 10, 7, 11, 58, 59, 60, 61, 62, 63, 64, 65, 66, 67, 68, 69, 70, 71, 72, 73, 74, 75, 76, 77, 78] (by decide +kernel) (by decide +kernel)
set_option maxRecDepth 20000 in
theorem gX4_fuse_X4_isStory : GoodIn wsX4_fuse (wsV RX4 48 RX4 yX4_isStory wsX4_isStory) := goodIn_app (goodIn_of _ (by decide +kernel)) ggX4_fuse_X4_isStory
set_option maxRecDepth 20000 in
theorem ggX4_fuse_X4_theme : GoodIn wsX4_fuse wsX4_theme := goodIn_r _ [15, 16, 17, 18, 7, 19, 1, 20, 21, 22, 23, 58, 59, 60, 61, 62, 63, 64, 65, 66, 67, 68, 69, 70, 71, 72, 73, 74, 75, 76, 77, 78] (by decide +kernel) (by decide +kernel)
set_option maxRecDepth 20000 in
theorem gX4_fuse_X4_theme : GoodIn wsX4_fuse (wsV RX4 89 RX4 yX4_theme wsX4_theme) := goodIn_app (goodIn_of _ (by decide +kernel)) ggX4_fuse_X4_theme
set_option maxRecDepth 20000 in
theorem ggX4_fuse_X4_know : GoodIn wsX4_fuse wsX4_know := goodIn_r _ [27, 28, 29, 1, 58, 59, 60, 61, 62, 63, 64, 65, 66, 67, 68, 69, 70, 71, 72, 73, 74, 75, 76, 77, 78] (by decide +kernel) (by decide +kernel)
set_option maxRecDepth 20000 in
theorem gX4_fuse_X4_know : GoodIn wsX4_fuse (wsV RX4 78 RX4 yX4_know wsX4_know) := goodIn_app (goodIn_of _ (by decide +kernel)) ggX4_fuse_X4_know
set_option maxRecDepth 20000 in
theorem ggX4_fuse_X4_first : GoodIn wsX4_fuse wsX4_first := goodIn_r _ [23, 1, 58, 59, 60, 61, 62, 63, 64, 65, 66, 67, 68, 69, 70, 71, 72, 73, 74, 75, 76, 77, 78] (by decide +kernel) (by decide +kernel)
set_option maxRecDepth 20000 in
theorem gX4_fuse_X4_first : GoodIn wsX4_fuse (wsV RX4 60 RX4 yX4_first wsX4_first) := goodIn_app (goodIn_of _ (by decide +kernel)) ggX4_fuse_X4_first
set_option maxRecDepth 20000 in
theorem ggX4_fuse_X4_removeWords : GoodIn wsX4_fuse wsX4_removeWords := goodIn_r _ [33, 1, 58, 59, 60, 61, 62, 63, 64, 65, 66, 67, 68, 69, 70, 71, 72, 73, 74, 75, 76, 77, 78] (by decide +kernel) (by decide +kernel)
set_option maxRecDepth 20000 in
theorem gX4_fuse_X4_removeWords : GoodIn wsX4_fuse (wsV RX4 92 RX4 yX4_removeWords wsX4_removeWords) := goodIn_app (goodIn_of _ (by decide +kernel)) ggX4_fuse_X4_removeWords
set_option maxRecDepth 20000 in
theorem ggX4_fuse_X4_removeStory : GoodIn wsX4_fuse wsX4_removeStory := goodIn_r _ [37, 1, 58, 59, 60, 61, 62, 63, 64, 65, 66, 67, 68, 69, 70, 71, 72, 73, 74, 75, 76, 77, 78] (by decide +kernel) (by decide +kernel)
set_option maxRecDepth 20000 in
theorem gX4_fuse_X4_removeStory : GoodIn wsX4_fuse (wsV RX4 95 RX4 yX4_removeStory wsX4_removeStory) := goodIn_app (goodIn_of _ (by decide +kernel)) ggX4_fuse_X4_removeStory
set_option maxRecDepth 20000 in
theorem ggX4_fuse_X4_warm : GoodIn wsX4_fuse wsX4_warm := goodIn_r _ [41, 1, 58, 59, 60, 61, 62, 63, 64, 65, 66, 67, 68, 69, 70, 71, 72, 73, 74, 75, 76, 77, 78] (by decide +kernel) (by decide +kernel)
set_option maxRecDepth 20000 in
theorem gX4_fuse_X4_warm : GoodIn wsX4_fuse (wsV RX4 67 RX4 yX4_warm wsX4_warm) := goodIn_app (goodIn_of _ (by decide +kernel)) ggX4_fuse_X4_warm
set_option maxRecDepth 20000 in
theorem ggX4_fuse_X4_react : GoodIn wsX4_fuse wsX4_react := goodIn_r _ [45, 1, 46, 47, 48, 7, 49, 50, 51, 52, 53, 20, 21, 22, 23, 54, 55, 56, 57, 38, 39, 40, 41, 58, 59, 60, 61, 62, 63, 64, 65, 66, 67, 68, 69, 70, 71, 72, 73, 74, 75, 76, 77, 78] (by decide +kernel) (by decide +kernel)
set_option maxRecDepth 20000 in
theorem gX4_fuse_X4_react : GoodIn wsX4_fuse (wsV RX4 85 RX4 yX4_react wsX4_react) := goodIn_app (goodIn_of _ (by decide +kernel)) ggX4_fuse_X4_react
theorem dX4_fuse_0 : decode cX4_fuse 0 = .ok (.aload_n 0, 1) := by decide +kernel
theorem dX4_fuse_1 : decode cX4_fuse 1 = .ok (.iload_n 1, 1) := by decide +kernel
theorem dX4_fuse_2 : decode cX4_fuse 2 = .ok (.invokevirtual 48, 3) := by decide +kernel
theorem dX4_fuse_5 : decode cX4_fuse 5 = .ok (.ifCond .eq 11, 3) := by decide +kernel
theorem dX4_fuse_8 : decode cX4_fuse 8 = .ok (.aload_n 0, 1) := by decide +kernel
theorem dX4_fuse_9 : decode cX4_fuse 9 = .ok (.iload_n 2, 1) := by decide +kernel
theorem dX4_fuse_10 : decode cX4_fuse 10 = .ok (.invokevirtual 48, 3) := by decide +kernel
theorem dX4_fuse_13 : decode cX4_fuse 13 = .ok (.ifCond .ne 5, 3) := by decide +kernel
theorem dX4_fuse_16 : decode cX4_fuse 16 = .ok (.iconst (-1), 1) := by decide +kernel
theorem dX4_fuse_17 : decode cX4_fuse 17 = .ok (.ireturn, 1) := by decide +kernel
theorem dX4_fuse_18 : decode cX4_fuse 18 = .ok (.iload_n 1, 1) := by decide +kernel
theorem dX4_fuse_19 : decode cX4_fuse 19 = .ok (.iload_n 2, 1) := by decide +kernel
theorem dX4_fuse_20 : decode cX4_fuse 20 = .ok (.if_icmp .ne 6, 3) := by decide +kernel
theorem dX4_fuse_23 : decode cX4_fuse 23 = .ok (.bipush (-2), 2) := by decide +kernel
theorem dX4_fuse_25 : decode cX4_fuse 25 = .ok (.ireturn, 1) := by decide +kernel
theorem dX4_fuse_26 : decode cX4_fuse 26 = .ok (.aload_n 0, 1) := by decide +kernel
theorem dX4_fuse_27 : decode cX4_fuse 27 = .ok (.iload_n 1, 1) := by decide +kernel
theorem dX4_fuse_28 : decode cX4_fuse 28 = .ok (.invokevirtual 89, 3) := by decide +kernel
theorem dX4_fuse_31 : decode cX4_fuse 31 = .ok (.aload_n 0, 1) := by decide +kernel
theorem dX4_fuse_32 : decode cX4_fuse 32 = .ok (.iload_n 2, 1) := by decide +kernel
theorem dX4_fuse_33 : decode cX4_fuse 33 = .ok (.invokevirtual 89, 3) := by decide +kernel
theorem dX4_fuse_36 : decode cX4_fuse 36 = .ok (.if_icmp .eq 6, 3) := by decide +kernel
theorem dX4_fuse_39 : decode cX4_fuse 39 = .ok (.bipush (-5), 2) := by decide +kernel
theorem dX4_fuse_41 : decode cX4_fuse 41 = .ok (.ireturn, 1) := by decide +kernel
theorem dX4_fuse_42 : decode cX4_fuse 42 = .ok (.aload_n 0, 1) := by decide +kernel
theorem dX4_fuse_43 : decode cX4_fuse 43 = .ok (.invokevirtual 78, 3) := by decide +kernel
theorem dX4_fuse_46 : decode cX4_fuse 46 = .ok (.aload_n 0, 1) := by decide +kernel
theorem dX4_fuse_47 : decode cX4_fuse 47 = .ok (.getfield 7, 3) := by decide +kernel
theorem dX4_fuse_50 : decode cX4_fuse 50 = .ok (.bipush 9, 2) := by decide +kernel
theorem dX4_fuse_52 : decode cX4_fuse 52 = .ok (.iload_n 2, 1) := by decide +kernel
theorem dX4_fuse_53 : decode cX4_fuse 53 = .ok (.iadd, 1) := by decide +kernel
theorem dX4_fuse_54 : decode cX4_fuse 54 = .ok (.iaload, 1) := by decide +kernel
theorem dX4_fuse_55 : decode cX4_fuse 55 = .ok (.istore_n 3, 1) := by decide +kernel
theorem dX4_fuse_56 : decode cX4_fuse 56 = .ok (.iconst 0, 1) := by decide +kernel
theorem dX4_fuse_57 : decode cX4_fuse 57 = .ok (.istore 4, 2) := by decide +kernel
theorem dX4_fuse_59 : decode cX4_fuse 59 = .ok (.iload 4, 2) := by decide +kernel
theorem dX4_fuse_61 : decode cX4_fuse 61 = .ok (.iload_n 3, 1) := by decide +kernel
theorem dX4_fuse_62 : decode cX4_fuse 62 = .ok (.if_icmp .ge 56, 3) := by decide +kernel
theorem dX4_fuse_65 : decode cX4_fuse 65 = .ok (.aload_n 0, 1) := by decide +kernel
theorem dX4_fuse_66 : decode cX4_fuse 66 = .ok (.getfield 29, 3) := by decide +kernel
theorem dX4_fuse_69 : decode cX4_fuse 69 = .ok (.iload 4, 2) := by decide +kernel
theorem dX4_fuse_71 : decode cX4_fuse 71 = .ok (.aload_n 0, 1) := by decide +kernel
theorem dX4_fuse_72 : decode cX4_fuse 72 = .ok (.getfield 7, 3) := by decide +kernel
theorem dX4_fuse_75 : decode cX4_fuse 75 = .ok (.bipush 45, 2) := by decide +kernel
theorem dX4_fuse_77 : decode cX4_fuse 77 = .ok (.aload_n 0, 1) := by decide +kernel
theorem dX4_fuse_78 : decode cX4_fuse 78 = .ok (.iload_n 2, 1) := by decide +kernel
theorem dX4_fuse_79 : decode cX4_fuse 79 = .ok (.invokevirtual 60, 3) := by decide +kernel
theorem dX4_fuse_82 : decode cX4_fuse 82 = .ok (.iadd, 1) := by decide +kernel
theorem dX4_fuse_83 : decode cX4_fuse 83 = .ok (.iload 4, 2) := by decide +kernel
theorem dX4_fuse_85 : decode cX4_fuse 85 = .ok (.iadd, 1) := by decide +kernel
theorem dX4_fuse_86 : decode cX4_fuse 86 = .ok (.iaload, 1) := by decide +kernel
theorem dX4_fuse_87 : decode cX4_fuse 87 = .ok (.iastore, 1) := by decide +kernel
theorem dX4_fuse_88 : decode cX4_fuse 88 = .ok (.aload_n 0, 1) := by decide +kernel
theorem dX4_fuse_89 : decode cX4_fuse 89 = .ok (.getfield 32, 3) := by decide +kernel
theorem dX4_fuse_92 : decode cX4_fuse 92 = .ok (.iload 4, 2) := by decide +kernel
theorem dX4_fuse_94 : decode cX4_fuse 94 = .ok (.aload_n 0, 1) := by decide +kernel
theorem dX4_fuse_95 : decode cX4_fuse 95 = .ok (.getfield 7, 3) := by decide +kernel
theorem dX4_fuse_98 : decode cX4_fuse 98 = .ok (.sipush 195, 3) := by decide +kernel
theorem dX4_fuse_101 : decode cX4_fuse 101 = .ok (.aload_n 0, 1) := by decide +kernel
theorem dX4_fuse_102 : decode cX4_fuse 102 = .ok (.iload_n 2, 1) := by decide +kernel
theorem dX4_fuse_103 : decode cX4_fuse 103 = .ok (.invokevirtual 60, 3) := by decide +kernel
theorem dX4_fuse_106 : decode cX4_fuse 106 = .ok (.iadd, 1) := by decide +kernel
theorem dX4_fuse_107 : decode cX4_fuse 107 = .ok (.iload 4, 2) := by decide +kernel
theorem dX4_fuse_109 : decode cX4_fuse 109 = .ok (.iadd, 1) := by decide +kernel
theorem dX4_fuse_110 : decode cX4_fuse 110 = .ok (.iaload, 1) := by decide +kernel
theorem dX4_fuse_111 : decode cX4_fuse 111 = .ok (.iastore, 1) := by decide +kernel
theorem dX4_fuse_112 : decode cX4_fuse 112 = .ok (.iinc 4 1, 3) := by decide +kernel
theorem dX4_fuse_115 : decode cX4_fuse 115 = .ok (.goto (-56), 3) := by decide +kernel
theorem dX4_fuse_118 : decode cX4_fuse 118 = .ok (.aload_n 0, 1) := by decide +kernel
theorem dX4_fuse_119 : decode cX4_fuse 119 = .ok (.getfield 7, 3) := by decide +kernel
theorem dX4_fuse_122 : decode cX4_fuse 122 = .ok (.bipush 33, 2) := by decide +kernel
theorem dX4_fuse_124 : decode cX4_fuse 124 = .ok (.iload_n 1, 1) := by decide +kernel
theorem dX4_fuse_125 : decode cX4_fuse 125 = .ok (.iadd, 1) := by decide +kernel
theorem dX4_fuse_126 : decode cX4_fuse 126 = .ok (.iaload, 1) := by decide +kernel
theorem dX4_fuse_127 : decode cX4_fuse 127 = .ok (.aload_n 0, 1) := by decide +kernel
theorem dX4_fuse_128 : decode cX4_fuse 128 = .ok (.getfield 7, 3) := by decide +kernel
theorem dX4_fuse_131 : decode cX4_fuse 131 = .ok (.bipush 33, 2) := by decide +kernel
theorem dX4_fuse_133 : decode cX4_fuse 133 = .ok (.iload_n 2, 1) := by decide +kernel
theorem dX4_fuse_134 : decode cX4_fuse 134 = .ok (.iadd, 1) := by decide +kernel
theorem dX4_fuse_135 : decode cX4_fuse 135 = .ok (.iaload, 1) := by decide +kernel
theorem dX4_fuse_136 : decode cX4_fuse 136 = .ok (.if_icmp .le 15, 3) := by decide +kernel
theorem dX4_fuse_139 : decode cX4_fuse 139 = .ok (.aload_n 0, 1) := by decide +kernel
theorem dX4_fuse_140 : decode cX4_fuse 140 = .ok (.getfield 7, 3) := by decide +kernel
theorem dX4_fuse_143 : decode cX4_fuse 143 = .ok (.bipush 33, 2) := by decide +kernel
theorem dX4_fuse_145 : decode cX4_fuse 145 = .ok (.iload_n 1, 1) := by decide +kernel
theorem dX4_fuse_146 : decode cX4_fuse 146 = .ok (.iadd, 1) := by decide +kernel
theorem dX4_fuse_147 : decode cX4_fuse 147 = .ok (.iaload, 1) := by decide +kernel
theorem dX4_fuse_148 : decode cX4_fuse 148 = .ok (.goto 12, 3) := by decide +kernel
theorem dX4_fuse_151 : decode cX4_fuse 151 = .ok (.aload_n 0, 1) := by decide +kernel
theorem dX4_fuse_152 : decode cX4_fuse 152 = .ok (.getfield 7, 3) := by decide +kernel
theorem dX4_fuse_155 : decode cX4_fuse 155 = .ok (.bipush 33, 2) := by decide +kernel
theorem dX4_fuse_157 : decode cX4_fuse 157 = .ok (.iload_n 2, 1) := by decide +kernel
theorem dX4_fuse_158 : decode cX4_fuse 158 = .ok (.iadd, 1) := by decide +kernel
theorem dX4_fuse_159 : decode cX4_fuse 159 = .ok (.iaload, 1) := by decide +kernel
theorem dX4_fuse_160 : decode cX4_fuse 160 = .ok (.istore 4, 2) := by decide +kernel
theorem dX4_fuse_162 : decode cX4_fuse 162 = .ok (.aload_n 0, 1) := by decide +kernel
theorem dX4_fuse_163 : decode cX4_fuse 163 = .ok (.aload_n 0, 1) := by decide +kernel
theorem dX4_fuse_164 : decode cX4_fuse 164 = .ok (.iload_n 2, 1) := by decide +kernel
theorem dX4_fuse_165 : decode cX4_fuse 165 = .ok (.invokevirtual 60, 3) := by decide +kernel
theorem dX4_fuse_168 : decode cX4_fuse 168 = .ok (.iload_n 3, 1) := by decide +kernel
theorem dX4_fuse_169 : decode cX4_fuse 169 = .ok (.invokevirtual 92, 3) := by decide +kernel
theorem dX4_fuse_172 : decode cX4_fuse 172 = .ok (.aload_n 0, 1) := by decide +kernel
theorem dX4_fuse_173 : decode cX4_fuse 173 = .ok (.iload_n 2, 1) := by decide +kernel
theorem dX4_fuse_174 : decode cX4_fuse 174 = .ok (.invokevirtual 95, 3) := by decide +kernel
theorem dX4_fuse_177 : decode cX4_fuse 177 = .ok (.iload_n 2, 1) := by decide +kernel
theorem dX4_fuse_178 : decode cX4_fuse 178 = .ok (.iload_n 1, 1) := by decide +kernel
theorem dX4_fuse_179 : decode cX4_fuse 179 = .ok (.if_icmp .ge 9, 3) := by decide +kernel
theorem dX4_fuse_182 : decode cX4_fuse 182 = .ok (.iload_n 1, 1) := by decide +kernel
theorem dX4_fuse_183 : decode cX4_fuse 183 = .ok (.iconst 1, 1) := by decide +kernel
theorem dX4_fuse_184 : decode cX4_fuse 184 = .ok (.isub, 1) := by decide +kernel
theorem dX4_fuse_185 : decode cX4_fuse 185 = .ok (.goto 4, 3) := by decide +kernel
theorem dX4_fuse_188 : decode cX4_fuse 188 = .ok (.iload_n 1, 1) := by decide +kernel
theorem dX4_fuse_189 : decode cX4_fuse 189 = .ok (.istore 5, 2) := by decide +kernel
theorem dX4_fuse_191 : decode cX4_fuse 191 = .ok (.aload_n 0, 1) := by decide +kernel
theorem dX4_fuse_192 : decode cX4_fuse 192 = .ok (.iload 5, 2) := by decide +kernel
theorem dX4_fuse_194 : decode cX4_fuse 194 = .ok (.invokevirtual 60, 3) := by decide +kernel
theorem dX4_fuse_197 : decode cX4_fuse 197 = .ok (.aload_n 0, 1) := by decide +kernel
theorem dX4_fuse_198 : decode cX4_fuse 198 = .ok (.getfield 7, 3) := by decide +kernel
theorem dX4_fuse_201 : decode cX4_fuse 201 = .ok (.bipush 9, 2) := by decide +kernel
theorem dX4_fuse_203 : decode cX4_fuse 203 = .ok (.iload 5, 2) := by decide +kernel
theorem dX4_fuse_205 : decode cX4_fuse 205 = .ok (.iadd, 1) := by decide +kernel
theorem dX4_fuse_206 : decode cX4_fuse 206 = .ok (.iaload, 1) := by decide +kernel
theorem dX4_fuse_207 : decode cX4_fuse 207 = .ok (.iadd, 1) := by decide +kernel
theorem dX4_fuse_208 : decode cX4_fuse 208 = .ok (.istore 6, 2) := by decide +kernel
theorem dX4_fuse_210 : decode cX4_fuse 210 = .ok (.aload_n 0, 1) := by decide +kernel
theorem dX4_fuse_211 : decode cX4_fuse 211 = .ok (.getfield 7, 3) := by decide +kernel
theorem dX4_fuse_214 : decode cX4_fuse 214 = .ok (.iconst 4, 1) := by decide +kernel
theorem dX4_fuse_215 : decode cX4_fuse 215 = .ok (.iaload, 1) := by decide +kernel
theorem dX4_fuse_216 : decode cX4_fuse 216 = .ok (.iconst 1, 1) := by decide +kernel
theorem dX4_fuse_217 : decode cX4_fuse 217 = .ok (.isub, 1) := by decide +kernel
theorem dX4_fuse_218 : decode cX4_fuse 218 = .ok (.istore 7, 2) := by decide +kernel
theorem dX4_fuse_220 : decode cX4_fuse 220 = .ok (.iload 7, 2) := by decide +kernel
theorem dX4_fuse_222 : decode cX4_fuse 222 = .ok (.iload 6, 2) := by decide +kernel
theorem dX4_fuse_224 : decode cX4_fuse 224 = .ok (.if_icmp .lt 55, 3) := by decide +kernel
theorem dX4_fuse_227 : decode cX4_fuse 227 = .ok (.aload_n 0, 1) := by decide +kernel
theorem dX4_fuse_228 : decode cX4_fuse 228 = .ok (.getfield 7, 3) := by decide +kernel
theorem dX4_fuse_231 : decode cX4_fuse 231 = .ok (.bipush 45, 2) := by decide +kernel
theorem dX4_fuse_233 : decode cX4_fuse 233 = .ok (.iload 7, 2) := by decide +kernel
theorem dX4_fuse_235 : decode cX4_fuse 235 = .ok (.iadd, 1) := by decide +kernel
theorem dX4_fuse_236 : decode cX4_fuse 236 = .ok (.iload_n 3, 1) := by decide +kernel
theorem dX4_fuse_237 : decode cX4_fuse 237 = .ok (.iadd, 1) := by decide +kernel
theorem dX4_fuse_238 : decode cX4_fuse 238 = .ok (.aload_n 0, 1) := by decide +kernel
theorem dX4_fuse_239 : decode cX4_fuse 239 = .ok (.getfield 7, 3) := by decide +kernel
theorem dX4_fuse_242 : decode cX4_fuse 242 = .ok (.bipush 45, 2) := by decide +kernel
theorem dX4_fuse_244 : decode cX4_fuse 244 = .ok (.iload 7, 2) := by decide +kernel
theorem dX4_fuse_246 : decode cX4_fuse 246 = .ok (.iadd, 1) := by decide +kernel
theorem dX4_fuse_247 : decode cX4_fuse 247 = .ok (.iaload, 1) := by decide +kernel
theorem dX4_fuse_248 : decode cX4_fuse 248 = .ok (.iastore, 1) := by decide +kernel
theorem dX4_fuse_249 : decode cX4_fuse 249 = .ok (.aload_n 0, 1) := by decide +kernel
theorem dX4_fuse_250 : decode cX4_fuse 250 = .ok (.getfield 7, 3) := by decide +kernel
theorem dX4_fuse_253 : decode cX4_fuse 253 = .ok (.sipush 195, 3) := by decide +kernel
theorem dX4_fuse_256 : decode cX4_fuse 256 = .ok (.iload 7, 2) := by decide +kernel
theorem dX4_fuse_258 : decode cX4_fuse 258 = .ok (.iadd, 1) := by decide +kernel
theorem dX4_fuse_259 : decode cX4_fuse 259 = .ok (.iload_n 3, 1) := by decide +kernel
theorem dX4_fuse_260 : decode cX4_fuse 260 = .ok (.iadd, 1) := by decide +kernel
theorem dX4_fuse_261 : decode cX4_fuse 261 = .ok (.aload_n 0, 1) := by decide +kernel
theorem dX4_fuse_262 : decode cX4_fuse 262 = .ok (.getfield 7, 3) := by decide +kernel
theorem dX4_fuse_265 : decode cX4_fuse 265 = .ok (.sipush 195, 3) := by decide +kernel
theorem dX4_fuse_268 : decode cX4_fuse 268 = .ok (.iload 7, 2) := by decide +kernel
theorem dX4_fuse_270 : decode cX4_fuse 270 = .ok (.iadd, 1) := by decide +kernel
theorem dX4_fuse_271 : decode cX4_fuse 271 = .ok (.iaload, 1) := by decide +kernel
theorem dX4_fuse_272 : decode cX4_fuse 272 = .ok (.iastore, 1) := by decide +kernel
theorem dX4_fuse_273 : decode cX4_fuse 273 = .ok (.iinc 7 (-1), 3) := by decide +kernel
theorem dX4_fuse_276 : decode cX4_fuse 276 = .ok (.goto (-56), 3) := by decide +kernel
theorem dX4_fuse_279 : decode cX4_fuse 279 = .ok (.iconst 0, 1) := by decide +kernel
theorem dX4_fuse_280 : decode cX4_fuse 280 = .ok (.istore 7, 2) := by decide +kernel
theorem dX4_fuse_282 : decode cX4_fuse 282 = .ok (.iload 7, 2) := by decide +kernel
theorem dX4_fuse_284 : decode cX4_fuse 284 = .ok (.iload_n 3, 1) := by decide +kernel
theorem dX4_fuse_285 : decode cX4_fuse 285 = .ok (.if_icmp .ge 50, 3) := by decide +kernel
theorem dX4_fuse_288 : decode cX4_fuse 288 = .ok (.aload_n 0, 1) := by decide +kernel
theorem dX4_fuse_289 : decode cX4_fuse 289 = .ok (.getfield 7, 3) := by decide +kernel
theorem dX4_fuse_292 : decode cX4_fuse 292 = .ok (.bipush 45, 2) := by decide +kernel
theorem dX4_fuse_294 : decode cX4_fuse 294 = .ok (.iload 6, 2) := by decide +kernel
theorem dX4_fuse_296 : decode cX4_fuse 296 = .ok (.iadd, 1) := by decide +kernel
theorem dX4_fuse_297 : decode cX4_fuse 297 = .ok (.iload 7, 2) := by decide +kernel
theorem dX4_fuse_299 : decode cX4_fuse 299 = .ok (.iadd, 1) := by decide +kernel
theorem dX4_fuse_300 : decode cX4_fuse 300 = .ok (.aload_n 0, 1) := by decide +kernel
theorem dX4_fuse_301 : decode cX4_fuse 301 = .ok (.getfield 29, 3) := by decide +kernel
theorem dX4_fuse_304 : decode cX4_fuse 304 = .ok (.iload 7, 2) := by decide +kernel
theorem dX4_fuse_306 : decode cX4_fuse 306 = .ok (.iaload, 1) := by decide +kernel
theorem dX4_fuse_307 : decode cX4_fuse 307 = .ok (.iastore, 1) := by decide +kernel
theorem dX4_fuse_308 : decode cX4_fuse 308 = .ok (.aload_n 0, 1) := by decide +kernel
theorem dX4_fuse_309 : decode cX4_fuse 309 = .ok (.getfield 7, 3) := by decide +kernel
theorem dX4_fuse_312 : decode cX4_fuse 312 = .ok (.sipush 195, 3) := by decide +kernel
theorem dX4_fuse_315 : decode cX4_fuse 315 = .ok (.iload 6, 2) := by decide +kernel
theorem dX4_fuse_317 : decode cX4_fuse 317 = .ok (.iadd, 1) := by decide +kernel
theorem dX4_fuse_318 : decode cX4_fuse 318 = .ok (.iload 7, 2) := by decide +kernel
theorem dX4_fuse_320 : decode cX4_fuse 320 = .ok (.iadd, 1) := by decide +kernel
theorem dX4_fuse_321 : decode cX4_fuse 321 = .ok (.aload_n 0, 1) := by decide +kernel
theorem dX4_fuse_322 : decode cX4_fuse 322 = .ok (.getfield 32, 3) := by decide +kernel
theorem dX4_fuse_325 : decode cX4_fuse 325 = .ok (.iload 7, 2) := by decide +kernel
theorem dX4_fuse_327 : decode cX4_fuse 327 = .ok (.iaload, 1) := by decide +kernel
theorem dX4_fuse_328 : decode cX4_fuse 328 = .ok (.iastore, 1) := by decide +kernel
theorem dX4_fuse_329 : decode cX4_fuse 329 = .ok (.iinc 7 1, 3) := by decide +kernel
theorem dX4_fuse_332 : decode cX4_fuse 332 = .ok (.goto (-50), 3) := by decide +kernel
theorem dX4_fuse_335 : decode cX4_fuse 335 = .ok (.aload_n 0, 1) := by decide +kernel
theorem dX4_fuse_336 : decode cX4_fuse 336 = .ok (.getfield 7, 3) := by decide +kernel
theorem dX4_fuse_339 : decode cX4_fuse 339 = .ok (.iconst 4, 1) := by decide +kernel
theorem dX4_fuse_340 : decode cX4_fuse 340 = .ok (.dup2, 1) := by decide +kernel
theorem dX4_fuse_341 : decode cX4_fuse 341 = .ok (.iaload, 1) := by decide +kernel
theorem dX4_fuse_342 : decode cX4_fuse 342 = .ok (.iload_n 3, 1) := by decide +kernel
theorem dX4_fuse_343 : decode cX4_fuse 343 = .ok (.iadd, 1) := by decide +kernel
theorem dX4_fuse_344 : decode cX4_fuse 344 = .ok (.iastore, 1) := by decide +kernel
theorem dX4_fuse_345 : decode cX4_fuse 345 = .ok (.aload_n 0, 1) := by decide +kernel
theorem dX4_fuse_346 : decode cX4_fuse 346 = .ok (.getfield 7, 3) := by decide +kernel
theorem dX4_fuse_349 : decode cX4_fuse 349 = .ok (.bipush 9, 2) := by decide +kernel
theorem dX4_fuse_351 : decode cX4_fuse 351 = .ok (.iload 5, 2) := by decide +kernel
theorem dX4_fuse_353 : decode cX4_fuse 353 = .ok (.iadd, 1) := by decide +kernel
theorem dX4_fuse_354 : decode cX4_fuse 354 = .ok (.dup2, 1) := by decide +kernel
theorem dX4_fuse_355 : decode cX4_fuse 355 = .ok (.iaload, 1) := by decide +kernel
theorem dX4_fuse_356 : decode cX4_fuse 356 = .ok (.iload_n 3, 1) := by decide +kernel
theorem dX4_fuse_357 : decode cX4_fuse 357 = .ok (.iadd, 1) := by decide +kernel
theorem dX4_fuse_358 : decode cX4_fuse 358 = .ok (.iastore, 1) := by decide +kernel
theorem dX4_fuse_359 : decode cX4_fuse 359 = .ok (.aload_n 0, 1) := by decide +kernel
theorem dX4_fuse_360 : decode cX4_fuse 360 = .ok (.getfield 7, 3) := by decide +kernel
theorem dX4_fuse_363 : decode cX4_fuse 363 = .ok (.bipush 33, 2) := by decide +kernel
theorem dX4_fuse_365 : decode cX4_fuse 365 = .ok (.iload 5, 2) := by decide +kernel
theorem dX4_fuse_367 : decode cX4_fuse 367 = .ok (.iadd, 1) := by decide +kernel
theorem dX4_fuse_368 : decode cX4_fuse 368 = .ok (.iload 4, 2) := by decide +kernel
theorem dX4_fuse_370 : decode cX4_fuse 370 = .ok (.iconst 1, 1) := by decide +kernel
theorem dX4_fuse_371 : decode cX4_fuse 371 = .ok (.iadd, 1) := by decide +kernel
theorem dX4_fuse_372 : decode cX4_fuse 372 = .ok (.iastore, 1) := by decide +kernel
theorem dX4_fuse_373 : decode cX4_fuse 373 = .ok (.aload_n 0, 1) := by decide +kernel
theorem dX4_fuse_374 : decode cX4_fuse 374 = .ok (.iload 6, 2) := by decide +kernel
theorem dX4_fuse_376 : decode cX4_fuse 376 = .ok (.iconst 1, 1) := by decide +kernel
theorem dX4_fuse_377 : decode cX4_fuse 377 = .ok (.isub, 1) := by decide +kernel
theorem dX4_fuse_378 : decode cX4_fuse 378 = .ok (.aload_n 0, 1) := by decide +kernel
theorem dX4_fuse_379 : decode cX4_fuse 379 = .ok (.getfield 7, 3) := by decide +kernel
theorem dX4_fuse_382 : decode cX4_fuse 382 = .ok (.iconst 1, 1) := by decide +kernel
theorem dX4_fuse_383 : decode cX4_fuse 383 = .ok (.iaload, 1) := by decide +kernel
theorem dX4_fuse_384 : decode cX4_fuse 384 = .ok (.invokevirtual 67, 3) := by decide +kernel
theorem dX4_fuse_387 : decode cX4_fuse 387 = .ok (.aload_n 0, 1) := by decide +kernel
theorem dX4_fuse_388 : decode cX4_fuse 388 = .ok (.iload 6, 2) := by decide +kernel
theorem dX4_fuse_390 : decode cX4_fuse 390 = .ok (.aload_n 0, 1) := by decide +kernel
theorem dX4_fuse_391 : decode cX4_fuse 391 = .ok (.getfield 7, 3) := by decide +kernel
theorem dX4_fuse_394 : decode cX4_fuse 394 = .ok (.iconst 1, 1) := by decide +kernel
theorem dX4_fuse_395 : decode cX4_fuse 395 = .ok (.iaload, 1) := by decide +kernel
theorem dX4_fuse_396 : decode cX4_fuse 396 = .ok (.invokevirtual 67, 3) := by decide +kernel
theorem dX4_fuse_399 : decode cX4_fuse 399 = .ok (.aload_n 0, 1) := by decide +kernel
theorem dX4_fuse_400 : decode cX4_fuse 400 = .ok (.invokevirtual 85, 3) := by decide +kernel
theorem dX4_fuse_403 : decode cX4_fuse 403 = .ok (.ireturn, 1) := by decide +kernel
set_option maxRecDepth 20000 in
theorem ggX4_pass_X4_in : GoodIn wsX4_pass wsX4_in := goodIn_r _ [5] (by decide +kernel) (by decide +kernel)
set_option maxRecDepth 20000 in
theorem gX4_pass_X4_in : GoodIn wsX4_pass (va_wsS RX4 44 yX4_in wsX4_in) := goodIn_app (goodIn_of _ (by decide +kernel)) ggX4_pass_X4_in
set_option maxRecDepth 20000 in
theorem ggX4_pass_X4_know : GoodIn wsX4_pass wsX4_know := goodIn_r _ [9, 10, 11, 1, 16, 17, 18, 19, 20, 21, 22, 23, 24, 25, 26, 27, 28, 29, 30, 31, 32, 33, 34, 35, 36] (by decide +kernel) (by decide +kernel)
set_option maxRecDepth 20000 in
theorem gX4_pass_X4_know : GoodIn wsX4_pass (wsV RX4 78 RX4 yX4_know wsX4_know) := goodIn_app (goodIn_of _ (by decide +kernel)) ggX4_pass_X4_know
set_option maxRecDepth 20000 in
theorem ggX4_pass_X4_allHeat : GoodIn wsX4_pass wsX4_allHeat := goodIn_r _ [15, 1, 16, 17, 18, 19, 20, 21, 22, 23, 24, 25, 26, 27, 28, 29, 30, 31, 32, 33, 34, 35, 36] (by decide +kernel) (by decide +kernel)
set_option maxRecDepth 20000 in
theorem gX4_pass_X4_allHeat : GoodIn wsX4_pass (wsV RX4 98 RX4 yX4_allHeat wsX4_allHeat) := goodIn_app (goodIn_of _ (by decide +kernel)) ggX4_pass_X4_allHeat
theorem dX4_pass_0 : decode cX4_pass 0 = .ok (.iload_n 1, 1) := by decide +kernel
theorem dX4_pass_1 : decode cX4_pass 1 = .ok (.iconst 1, 1) := by decide +kernel
theorem dX4_pass_2 : decode cX4_pass 2 = .ok (.bipush 30, 2) := by decide +kernel
theorem dX4_pass_4 : decode cX4_pass 4 = .ok (.invokestatic 44, 3) := by decide +kernel
theorem dX4_pass_7 : decode cX4_pass 7 = .ok (.ifCond .ne 6, 3) := by decide +kernel
theorem dX4_pass_10 : decode cX4_pass 10 = .ok (.bipush (-2), 2) := by decide +kernel
theorem dX4_pass_12 : decode cX4_pass 12 = .ok (.ireturn, 1) := by decide +kernel
theorem dX4_pass_13 : decode cX4_pass 13 = .ok (.aload_n 0, 1) := by decide +kernel
theorem dX4_pass_14 : decode cX4_pass 14 = .ok (.invokevirtual 78, 3) := by decide +kernel
theorem dX4_pass_17 : decode cX4_pass 17 = .ok (.iload_n 1, 1) := by decide +kernel
theorem dX4_pass_18 : decode cX4_pass 18 = .ok (.aload_n 0, 1) := by decide +kernel
theorem dX4_pass_19 : decode cX4_pass 19 = .ok (.getfield 7, 3) := by decide +kernel
theorem dX4_pass_22 : decode cX4_pass 22 = .ok (.iconst 2, 1) := by decide +kernel
theorem dX4_pass_23 : decode cX4_pass 23 = .ok (.iaload, 1) := by decide +kernel
theorem dX4_pass_24 : decode cX4_pass 24 = .ok (.imul, 1) := by decide +kernel
theorem dX4_pass_25 : decode cX4_pass 25 = .ok (.istore_n 2, 1) := by decide +kernel
theorem dX4_pass_26 : decode cX4_pass 26 = .ok (.iconst 0, 1) := by decide +kernel
theorem dX4_pass_27 : decode cX4_pass 27 = .ok (.istore_n 3, 1) := by decide +kernel
theorem dX4_pass_28 : decode cX4_pass 28 = .ok (.iload_n 3, 1) := by decide +kernel
theorem dX4_pass_29 : decode cX4_pass 29 = .ok (.aload_n 0, 1) := by decide +kernel
theorem dX4_pass_30 : decode cX4_pass 30 = .ok (.getfield 7, 3) := by decide +kernel
theorem dX4_pass_33 : decode cX4_pass 33 = .ok (.iconst 4, 1) := by decide +kernel
theorem dX4_pass_34 : decode cX4_pass 34 = .ok (.iaload, 1) := by decide +kernel
theorem dX4_pass_35 : decode cX4_pass 35 = .ok (.if_icmp .ge 50, 3) := by decide +kernel
theorem dX4_pass_38 : decode cX4_pass 38 = .ok (.aload_n 0, 1) := by decide +kernel
theorem dX4_pass_39 : decode cX4_pass 39 = .ok (.getfield 7, 3) := by decide +kernel
theorem dX4_pass_42 : decode cX4_pass 42 = .ok (.sipush 195, 3) := by decide +kernel
theorem dX4_pass_45 : decode cX4_pass 45 = .ok (.iload_n 3, 1) := by decide +kernel
theorem dX4_pass_46 : decode cX4_pass 46 = .ok (.iadd, 1) := by decide +kernel
theorem dX4_pass_47 : decode cX4_pass 47 = .ok (.dup2, 1) := by decide +kernel
theorem dX4_pass_48 : decode cX4_pass 48 = .ok (.iaload, 1) := by decide +kernel
theorem dX4_pass_49 : decode cX4_pass 49 = .ok (.iload_n 2, 1) := by decide +kernel
theorem dX4_pass_50 : decode cX4_pass 50 = .ok (.aload_n 0, 1) := by decide +kernel
theorem dX4_pass_51 : decode cX4_pass 51 = .ok (.getfield 7, 3) := by decide +kernel
theorem dX4_pass_54 : decode cX4_pass 54 = .ok (.sipush 195, 3) := by decide +kernel
theorem dX4_pass_57 : decode cX4_pass 57 = .ok (.iload_n 3, 1) := by decide +kernel
theorem dX4_pass_58 : decode cX4_pass 58 = .ok (.iadd, 1) := by decide +kernel
theorem dX4_pass_59 : decode cX4_pass 59 = .ok (.iaload, 1) := by decide +kernel
theorem dX4_pass_60 : decode cX4_pass 60 = .ok (.if_icmp .ge 7, 3) := by decide +kernel
theorem dX4_pass_63 : decode cX4_pass 63 = .ok (.iload_n 2, 1) := by decide +kernel
theorem dX4_pass_64 : decode cX4_pass 64 = .ok (.goto 13, 3) := by decide +kernel
theorem dX4_pass_67 : decode cX4_pass 67 = .ok (.aload_n 0, 1) := by decide +kernel
theorem dX4_pass_68 : decode cX4_pass 68 = .ok (.getfield 7, 3) := by decide +kernel
theorem dX4_pass_71 : decode cX4_pass 71 = .ok (.sipush 195, 3) := by decide +kernel
theorem dX4_pass_74 : decode cX4_pass 74 = .ok (.iload_n 3, 1) := by decide +kernel
theorem dX4_pass_75 : decode cX4_pass 75 = .ok (.iadd, 1) := by decide +kernel
theorem dX4_pass_76 : decode cX4_pass 76 = .ok (.iaload, 1) := by decide +kernel
theorem dX4_pass_77 : decode cX4_pass 77 = .ok (.isub, 1) := by decide +kernel
theorem dX4_pass_78 : decode cX4_pass 78 = .ok (.iastore, 1) := by decide +kernel
theorem dX4_pass_79 : decode cX4_pass 79 = .ok (.iinc 3 1, 3) := by decide +kernel
theorem dX4_pass_82 : decode cX4_pass 82 = .ok (.goto (-54), 3) := by decide +kernel
theorem dX4_pass_85 : decode cX4_pass 85 = .ok (.aload_n 0, 1) := by decide +kernel
theorem dX4_pass_86 : decode cX4_pass 86 = .ok (.invokevirtual 98, 3) := by decide +kernel
theorem dX4_pass_89 : decode cX4_pass 89 = .ok (.ireturn, 1) := by decide +kernel
set_option maxRecDepth 20000 in
theorem ggX4_burn_X4_isStory : GoodIn wsX4_burn wsX4_isStory := goodIn_r _ [6, 1, 7, 8, 5, 9, 28, 29, 30, 31, 32, 33, 34, 35, 36, 37, 38, 39, 40, 41, 42, 43, 44, 45, 46, 47, 48] (by decide +kernel) (by decide +kernel)
set_option maxRecDepth 20000 in
theorem gX4_burn_X4_isStory : GoodIn wsX4_burn (wsV RX4 48 RX4 yX4_isStory wsX4_isStory) := goodIn_app (goodIn_of _ (by decide +kernel)) ggX4_burn_X4_isStory
set_option maxRecDepth 20000 in
theorem ggX4_burn_X4_know : GoodIn wsX4_burn wsX4_know := goodIn_r _ [13, 14, 15, 1, 28, 29, 30, 31, 32, 33, 34, 35, 36, 37, 38, 39, 40, 41, 42, 43, 44, 45, 46, 47, 48] (by decide +kernel) (by decide +kernel)
set_option maxRecDepth 20000 in
theorem gX4_burn_X4_know : GoodIn wsX4_burn (wsV RX4 78 RX4 yX4_know wsX4_know) := goodIn_app (goodIn_of _ (by decide +kernel)) ggX4_burn_X4_know
set_option maxRecDepth 20000 in
theorem ggX4_burn_X4_first : GoodIn wsX4_burn wsX4_first := goodIn_r _ [19, 1, 28, 29, 30, 31, 32, 33, 34, 35, 36, 37, 38, 39, 40, 41, 42, 43, 44, 45, 46, 47, 48] (by decide +kernel) (by decide +kernel)
set_option maxRecDepth 20000 in
theorem gX4_burn_X4_first : GoodIn wsX4_burn (wsV RX4 60 RX4 yX4_first wsX4_first) := goodIn_app (goodIn_of _ (by decide +kernel)) ggX4_burn_X4_first
set_option maxRecDepth 20000 in
theorem ggX4_burn_X4_removeWords : GoodIn wsX4_burn wsX4_removeWords := goodIn_r _ [23, 1, 28, 29, 30, 31, 32, 33, 34, 35, 36, 37, 38, 39, 40, 41, 42, 43, 44, 45, 46, 47, 48] (by decide +kernel) (by decide +kernel)
set_option maxRecDepth 20000 in
theorem gX4_burn_X4_removeWords : GoodIn wsX4_burn (wsV RX4 92 RX4 yX4_removeWords wsX4_removeWords) := goodIn_app (goodIn_of _ (by decide +kernel)) ggX4_burn_X4_removeWords
set_option maxRecDepth 20000 in
theorem ggX4_burn_X4_removeStory : GoodIn wsX4_burn wsX4_removeStory := goodIn_r _ [27, 1, 28, 29, 30, 31, 32, 33, 34, 35, 36, 37, 38, 39, 40, 41, 42, 43, 44, 45, 46, 47, 48] (by decide +kernel) (by decide +kernel)
set_option maxRecDepth 20000 in
theorem gX4_burn_X4_removeStory : GoodIn wsX4_burn (wsV RX4 95 RX4 yX4_removeStory wsX4_removeStory) := goodIn_app (goodIn_of _ (by decide +kernel)) ggX4_burn_X4_removeStory
theorem dX4_burn_0 : decode cX4_burn 0 = .ok (.aload_n 0, 1) := by decide +kernel
theorem dX4_burn_1 : decode cX4_burn 1 = .ok (.iload_n 1, 1) := by decide +kernel
theorem dX4_burn_2 : decode cX4_burn 2 = .ok (.invokevirtual 48, 3) := by decide +kernel
theorem dX4_burn_5 : decode cX4_burn 5 = .ok (.ifCond .ne 5, 3) := by decide +kernel
theorem dX4_burn_8 : decode cX4_burn 8 = .ok (.iconst (-1), 1) := by decide +kernel
theorem dX4_burn_9 : decode cX4_burn 9 = .ok (.ireturn, 1) := by decide +kernel
theorem dX4_burn_10 : decode cX4_burn 10 = .ok (.aload_n 0, 1) := by decide +kernel
theorem dX4_burn_11 : decode cX4_burn 11 = .ok (.invokevirtual 78, 3) := by decide +kernel
theorem dX4_burn_14 : decode cX4_burn 14 = .ok (.aload_n 0, 1) := by decide +kernel
theorem dX4_burn_15 : decode cX4_burn 15 = .ok (.getfield 7, 3) := by decide +kernel
theorem dX4_burn_18 : decode cX4_burn 18 = .ok (.bipush 9, 2) := by decide +kernel
theorem dX4_burn_20 : decode cX4_burn 20 = .ok (.iload_n 1, 1) := by decide +kernel
theorem dX4_burn_21 : decode cX4_burn 21 = .ok (.iadd, 1) := by decide +kernel
theorem dX4_burn_22 : decode cX4_burn 22 = .ok (.iaload, 1) := by decide +kernel
theorem dX4_burn_23 : decode cX4_burn 23 = .ok (.istore_n 2, 1) := by decide +kernel
theorem dX4_burn_24 : decode cX4_burn 24 = .ok (.aload_n 0, 1) := by decide +kernel
theorem dX4_burn_25 : decode cX4_burn 25 = .ok (.aload_n 0, 1) := by decide +kernel
theorem dX4_burn_26 : decode cX4_burn 26 = .ok (.iload_n 1, 1) := by decide +kernel
theorem dX4_burn_27 : decode cX4_burn 27 = .ok (.invokevirtual 60, 3) := by decide +kernel
theorem dX4_burn_30 : decode cX4_burn 30 = .ok (.iload_n 2, 1) := by decide +kernel
theorem dX4_burn_31 : decode cX4_burn 31 = .ok (.invokevirtual 92, 3) := by decide +kernel
theorem dX4_burn_34 : decode cX4_burn 34 = .ok (.aload_n 0, 1) := by decide +kernel
theorem dX4_burn_35 : decode cX4_burn 35 = .ok (.iload_n 1, 1) := by decide +kernel
theorem dX4_burn_36 : decode cX4_burn 36 = .ok (.invokevirtual 95, 3) := by decide +kernel
theorem dX4_burn_39 : decode cX4_burn 39 = .ok (.iload_n 2, 1) := by decide +kernel
theorem dX4_burn_40 : decode cX4_burn 40 = .ok (.ireturn, 1) := by decide +kernel
set_option maxRecDepth 20000 in
theorem ggX4_word_X4_isWord : GoodIn wsX4_word wsX4_isWord := goodIn_r _ [6, 1, 7, 8, 9, 5, 10, 11, 12, 13, 22, 23, 24, 25, 26, 27, 28, 29, 30, 31, 32, 33, 34, 35, 36, 37, 38, 39, 40, 41, 42] (by decide +kernel) (by decide +kernel)
set_option maxRecDepth 20000 in
theorem gX4_word_X4_isWord : GoodIn wsX4_word (wsV RX4 81 RX4 yX4_isWord wsX4_isWord) := goodIn_app (goodIn_of _ (by decide +kernel)) ggX4_word_X4_isWord
set_option maxRecDepth 20000 in
theorem ggX4_word_X4_first : GoodIn wsX4_word wsX4_first := goodIn_r _ [17, 1, 22, 23, 24, 25, 26, 27, 28, 29, 30, 31, 32, 33, 34, 35, 36, 37, 38, 39, 40, 41, 42] (by decide +kernel) (by decide +kernel)
set_option maxRecDepth 20000 in
theorem gX4_word_X4_first : GoodIn wsX4_word (wsV RX4 60 RX4 yX4_first wsX4_first) := goodIn_app (goodIn_of _ (by decide +kernel)) ggX4_word_X4_first
set_option maxRecDepth 20000 in
theorem ggX4_word_X4_times : GoodIn wsX4_word wsX4_times := goodIn_r _ [21, 1, 14, 15, 16, 5, 17, 22, 23, 24, 25, 26, 27, 28, 29, 30, 31, 32, 33, 34, 35, 36, 37, 38, 39, 40, 41, 42] (by decide +kernel) (by decide +kernel)
set_option maxRecDepth 20000 in
theorem gX4_word_X4_times : GoodIn wsX4_word (wsV RX4 74 RX4 yX4_times wsX4_times) := goodIn_app (goodIn_of _ (by decide +kernel)) ggX4_word_X4_times
theorem dX4_word_0 : decode cX4_word 0 = .ok (.aload_n 0, 1) := by decide +kernel
theorem dX4_word_1 : decode cX4_word 1 = .ok (.iload_n 1, 1) := by decide +kernel
theorem dX4_word_2 : decode cX4_word 2 = .ok (.iload_n 2, 1) := by decide +kernel
theorem dX4_word_3 : decode cX4_word 3 = .ok (.invokevirtual 81, 3) := by decide +kernel
theorem dX4_word_6 : decode cX4_word 6 = .ok (.ifCond .ne 5, 3) := by decide +kernel
theorem dX4_word_9 : decode cX4_word 9 = .ok (.iconst (-1), 1) := by decide +kernel
theorem dX4_word_10 : decode cX4_word 10 = .ok (.ireturn, 1) := by decide +kernel
theorem dX4_word_11 : decode cX4_word 11 = .ok (.aload_n 0, 1) := by decide +kernel
theorem dX4_word_12 : decode cX4_word 12 = .ok (.iload_n 1, 1) := by decide +kernel
theorem dX4_word_13 : decode cX4_word 13 = .ok (.invokevirtual 60, 3) := by decide +kernel
theorem dX4_word_16 : decode cX4_word 16 = .ok (.iload_n 2, 1) := by decide +kernel
theorem dX4_word_17 : decode cX4_word 17 = .ok (.iadd, 1) := by decide +kernel
theorem dX4_word_18 : decode cX4_word 18 = .ok (.istore 4, 2) := by decide +kernel
theorem dX4_word_20 : decode cX4_word 20 = .ok (.iload_n 3, 1) := by decide +kernel
theorem dX4_word_21 : decode cX4_word 21 = .ok (.ifCond .ne 16, 3) := by decide +kernel
theorem dX4_word_24 : decode cX4_word 24 = .ok (.aload_n 0, 1) := by decide +kernel
theorem dX4_word_25 : decode cX4_word 25 = .ok (.getfield 7, 3) := by decide +kernel
theorem dX4_word_28 : decode cX4_word 28 = .ok (.bipush 45, 2) := by decide +kernel
theorem dX4_word_30 : decode cX4_word 30 = .ok (.iload 4, 2) := by decide +kernel
theorem dX4_word_32 : decode cX4_word 32 = .ok (.iadd, 1) := by decide +kernel
theorem dX4_word_33 : decode cX4_word 33 = .ok (.iaload, 1) := by decide +kernel
theorem dX4_word_34 : decode cX4_word 34 = .ok (.goto 47, 3) := by decide +kernel
theorem dX4_word_37 : decode cX4_word 37 = .ok (.iload_n 3, 1) := by decide +kernel
theorem dX4_word_38 : decode cX4_word 38 = .ok (.iconst 1, 1) := by decide +kernel
theorem dX4_word_39 : decode cX4_word 39 = .ok (.if_icmp .ne 17, 3) := by decide +kernel
theorem dX4_word_42 : decode cX4_word 42 = .ok (.aload_n 0, 1) := by decide +kernel
theorem dX4_word_43 : decode cX4_word 43 = .ok (.getfield 7, 3) := by decide +kernel
theorem dX4_word_46 : decode cX4_word 46 = .ok (.sipush 195, 3) := by decide +kernel
theorem dX4_word_49 : decode cX4_word 49 = .ok (.iload 4, 2) := by decide +kernel
theorem dX4_word_51 : decode cX4_word 51 = .ok (.iadd, 1) := by decide +kernel
theorem dX4_word_52 : decode cX4_word 52 = .ok (.iaload, 1) := by decide +kernel
theorem dX4_word_53 : decode cX4_word 53 = .ok (.goto 28, 3) := by decide +kernel
theorem dX4_word_56 : decode cX4_word 56 = .ok (.iload_n 3, 1) := by decide +kernel
theorem dX4_word_57 : decode cX4_word 57 = .ok (.iconst 2, 1) := by decide +kernel
theorem dX4_word_58 : decode cX4_word 58 = .ok (.if_icmp .ne 21, 3) := by decide +kernel
theorem dX4_word_61 : decode cX4_word 61 = .ok (.aload_n 0, 1) := by decide +kernel
theorem dX4_word_62 : decode cX4_word 62 = .ok (.iload_n 1, 1) := by decide +kernel
theorem dX4_word_63 : decode cX4_word 63 = .ok (.aload_n 0, 1) := by decide +kernel
theorem dX4_word_64 : decode cX4_word 64 = .ok (.getfield 7, 3) := by decide +kernel
theorem dX4_word_67 : decode cX4_word 67 = .ok (.bipush 45, 2) := by decide +kernel
theorem dX4_word_69 : decode cX4_word 69 = .ok (.iload 4, 2) := by decide +kernel
theorem dX4_word_71 : decode cX4_word 71 = .ok (.iadd, 1) := by decide +kernel
theorem dX4_word_72 : decode cX4_word 72 = .ok (.iaload, 1) := by decide +kernel
theorem dX4_word_73 : decode cX4_word 73 = .ok (.invokevirtual 74, 3) := by decide +kernel
theorem dX4_word_76 : decode cX4_word 76 = .ok (.goto 5, 3) := by decide +kernel
theorem dX4_word_79 : decode cX4_word 79 = .ok (.bipush (-2), 2) := by decide +kernel
theorem dX4_word_81 : decode cX4_word 81 = .ok (.ireturn, 1) := by decide +kernel
set_option maxRecDepth 20000 in
theorem ggX4_hottest_X4_first : GoodIn wsX4_hottest wsX4_first := goodIn_r _ [6, 1, 7, 8, 9, 10, 11, 12, 13, 14, 15, 16, 17, 18, 19, 20, 21, 22, 23, 24, 25, 26, 27] (by decide +kernel) (by decide +kernel)
set_option maxRecDepth 20000 in
theorem gX4_hottest_X4_first : GoodIn wsX4_hottest (wsV RX4 60 RX4 yX4_first wsX4_first) := goodIn_app (goodIn_of _ (by decide +kernel)) ggX4_hottest_X4_first
theorem dX4_hottest_0 : decode cX4_hottest 0 = .ok (.iconst 0, 1) := by decide +kernel
theorem dX4_hottest_1 : decode cX4_hottest 1 = .ok (.istore_n 2, 1) := by decide +kernel
theorem dX4_hottest_2 : decode cX4_hottest 2 = .ok (.iconst 1, 1) := by decide +kernel
theorem dX4_hottest_3 : decode cX4_hottest 3 = .ok (.istore_n 3, 1) := by decide +kernel
theorem dX4_hottest_4 : decode cX4_hottest 4 = .ok (.iload_n 3, 1) := by decide +kernel
theorem dX4_hottest_5 : decode cX4_hottest 5 = .ok (.aload_n 0, 1) := by decide +kernel
theorem dX4_hottest_6 : decode cX4_hottest 6 = .ok (.getfield 7, 3) := by decide +kernel
theorem dX4_hottest_9 : decode cX4_hottest 9 = .ok (.bipush 9, 2) := by decide +kernel
theorem dX4_hottest_11 : decode cX4_hottest 11 = .ok (.iload_n 1, 1) := by decide +kernel
theorem dX4_hottest_12 : decode cX4_hottest 12 = .ok (.iadd, 1) := by decide +kernel
theorem dX4_hottest_13 : decode cX4_hottest 13 = .ok (.iaload, 1) := by decide +kernel
theorem dX4_hottest_14 : decode cX4_hottest 14 = .ok (.if_icmp .ge 50, 3) := by decide +kernel
theorem dX4_hottest_17 : decode cX4_hottest 17 = .ok (.aload_n 0, 1) := by decide +kernel
theorem dX4_hottest_18 : decode cX4_hottest 18 = .ok (.getfield 7, 3) := by decide +kernel
theorem dX4_hottest_21 : decode cX4_hottest 21 = .ok (.sipush 195, 3) := by decide +kernel
theorem dX4_hottest_24 : decode cX4_hottest 24 = .ok (.aload_n 0, 1) := by decide +kernel
theorem dX4_hottest_25 : decode cX4_hottest 25 = .ok (.iload_n 1, 1) := by decide +kernel
theorem dX4_hottest_26 : decode cX4_hottest 26 = .ok (.invokevirtual 60, 3) := by decide +kernel
theorem dX4_hottest_29 : decode cX4_hottest 29 = .ok (.iadd, 1) := by decide +kernel
theorem dX4_hottest_30 : decode cX4_hottest 30 = .ok (.iload_n 3, 1) := by decide +kernel
theorem dX4_hottest_31 : decode cX4_hottest 31 = .ok (.iadd, 1) := by decide +kernel
theorem dX4_hottest_32 : decode cX4_hottest 32 = .ok (.iaload, 1) := by decide +kernel
theorem dX4_hottest_33 : decode cX4_hottest 33 = .ok (.aload_n 0, 1) := by decide +kernel
theorem dX4_hottest_34 : decode cX4_hottest 34 = .ok (.getfield 7, 3) := by decide +kernel
theorem dX4_hottest_37 : decode cX4_hottest 37 = .ok (.sipush 195, 3) := by decide +kernel
theorem dX4_hottest_40 : decode cX4_hottest 40 = .ok (.aload_n 0, 1) := by decide +kernel
theorem dX4_hottest_41 : decode cX4_hottest 41 = .ok (.iload_n 1, 1) := by decide +kernel
theorem dX4_hottest_42 : decode cX4_hottest 42 = .ok (.invokevirtual 60, 3) := by decide +kernel
theorem dX4_hottest_45 : decode cX4_hottest 45 = .ok (.iadd, 1) := by decide +kernel
theorem dX4_hottest_46 : decode cX4_hottest 46 = .ok (.iload_n 2, 1) := by decide +kernel
theorem dX4_hottest_47 : decode cX4_hottest 47 = .ok (.iadd, 1) := by decide +kernel
theorem dX4_hottest_48 : decode cX4_hottest 48 = .ok (.iaload, 1) := by decide +kernel
theorem dX4_hottest_49 : decode cX4_hottest 49 = .ok (.if_icmp .le 7, 3) := by decide +kernel
theorem dX4_hottest_52 : decode cX4_hottest 52 = .ok (.iload_n 3, 1) := by decide +kernel
theorem dX4_hottest_53 : decode cX4_hottest 53 = .ok (.goto 4, 3) := by decide +kernel
theorem dX4_hottest_56 : decode cX4_hottest 56 = .ok (.iload_n 2, 1) := by decide +kernel
theorem dX4_hottest_57 : decode cX4_hottest 57 = .ok (.istore_n 2, 1) := by decide +kernel
theorem dX4_hottest_58 : decode cX4_hottest 58 = .ok (.iinc 3 1, 3) := by decide +kernel
theorem dX4_hottest_61 : decode cX4_hottest 61 = .ok (.goto (-57), 3) := by decide +kernel
theorem dX4_hottest_64 : decode cX4_hottest 64 = .ok (.iload_n 2, 1) := by decide +kernel
theorem dX4_hottest_65 : decode cX4_hottest 65 = .ok (.ireturn, 1) := by decide +kernel
set_option maxRecDepth 20000 in
theorem ggX4_unlike_X4_times : GoodIn wsX4_unlike wsX4_times := goodIn_r _ [5, 6, 7, 8, 9, 4, 10, 11, 12, 13, 14, 15, 16, 17, 18, 19, 20, 21, 22, 23, 24, 25, 26, 27, 28, 29, 30, 31] (by decide +kernel) (by decide +kernel)
set_option maxRecDepth 20000 in
theorem gX4_unlike_X4_times : GoodIn wsX4_unlike (wsV RX4 74 RX4 yX4_times wsX4_times) := goodIn_app (goodIn_of _ (by decide +kernel)) ggX4_unlike_X4_times
theorem dX4_unlike_0 : decode cX4_unlike 0 = .ok (.iconst 0, 1) := by decide +kernel
theorem dX4_unlike_1 : decode cX4_unlike 1 = .ok (.istore_n 2, 1) := by decide +kernel
theorem dX4_unlike_2 : decode cX4_unlike 2 = .ok (.iconst 0, 1) := by decide +kernel
theorem dX4_unlike_3 : decode cX4_unlike 3 = .ok (.istore_n 3, 1) := by decide +kernel
theorem dX4_unlike_4 : decode cX4_unlike 4 = .ok (.iload_n 3, 1) := by decide +kernel
theorem dX4_unlike_5 : decode cX4_unlike 5 = .ok (.bipush 26, 2) := by decide +kernel
theorem dX4_unlike_7 : decode cX4_unlike 7 = .ok (.if_icmp .ge 26, 3) := by decide +kernel
theorem dX4_unlike_10 : decode cX4_unlike 10 = .ok (.iload_n 2, 1) := by decide +kernel
theorem dX4_unlike_11 : decode cX4_unlike 11 = .ok (.aload_n 0, 1) := by decide +kernel
theorem dX4_unlike_12 : decode cX4_unlike 12 = .ok (.iload_n 1, 1) := by decide +kernel
theorem dX4_unlike_13 : decode cX4_unlike 13 = .ok (.iload_n 3, 1) := by decide +kernel
theorem dX4_unlike_14 : decode cX4_unlike 14 = .ok (.invokevirtual 74, 3) := by decide +kernel
theorem dX4_unlike_17 : decode cX4_unlike 17 = .ok (.ifCond .le 7, 3) := by decide +kernel
theorem dX4_unlike_20 : decode cX4_unlike 20 = .ok (.iconst 1, 1) := by decide +kernel
theorem dX4_unlike_21 : decode cX4_unlike 21 = .ok (.goto 4, 3) := by decide +kernel
theorem dX4_unlike_24 : decode cX4_unlike 24 = .ok (.iconst 0, 1) := by decide +kernel
theorem dX4_unlike_25 : decode cX4_unlike 25 = .ok (.iadd, 1) := by decide +kernel
theorem dX4_unlike_26 : decode cX4_unlike 26 = .ok (.istore_n 2, 1) := by decide +kernel
theorem dX4_unlike_27 : decode cX4_unlike 27 = .ok (.iinc 3 1, 3) := by decide +kernel
theorem dX4_unlike_30 : decode cX4_unlike 30 = .ok (.goto (-26), 3) := by decide +kernel
theorem dX4_unlike_33 : decode cX4_unlike 33 = .ok (.iload_n 2, 1) := by decide +kernel
theorem dX4_unlike_34 : decode cX4_unlike 34 = .ok (.ireturn, 1) := by decide +kernel
set_option maxRecDepth 20000 in
theorem ggX4_isSameBackwards_X4_first : GoodIn wsX4_isSameBackwards wsX4_first := goodIn_r _ [6, 1, 7, 8, 9, 10, 11, 12, 13, 14, 15, 16, 17, 18, 19, 20, 21, 22, 23, 24, 25, 26, 27] (by decide +kernel) (by decide +kernel)
set_option maxRecDepth 20000 in
theorem gX4_isSameBackwards_X4_first : GoodIn wsX4_isSameBackwards (wsV RX4 60 RX4 yX4_first wsX4_first) := goodIn_app (goodIn_of _ (by decide +kernel)) ggX4_isSameBackwards_X4_first
theorem dX4_isSameBackwards_0 : decode cX4_isSameBackwards 0 = .ok (.aload_n 0, 1) := by decide +kernel
theorem dX4_isSameBackwards_1 : decode cX4_isSameBackwards 1 = .ok (.iload_n 1, 1) := by decide +kernel
theorem dX4_isSameBackwards_2 : decode cX4_isSameBackwards 2 = .ok (.invokevirtual 60, 3) := by decide +kernel
theorem dX4_isSameBackwards_5 : decode cX4_isSameBackwards 5 = .ok (.istore_n 2, 1) := by decide +kernel
theorem dX4_isSameBackwards_6 : decode cX4_isSameBackwards 6 = .ok (.iload_n 2, 1) := by decide +kernel
theorem dX4_isSameBackwards_7 : decode cX4_isSameBackwards 7 = .ok (.aload_n 0, 1) := by decide +kernel
theorem dX4_isSameBackwards_8 : decode cX4_isSameBackwards 8 = .ok (.getfield 7, 3) := by decide +kernel
theorem dX4_isSameBackwards_11 : decode cX4_isSameBackwards 11 = .ok (.bipush 9, 2) := by decide +kernel
theorem dX4_isSameBackwards_13 : decode cX4_isSameBackwards 13 = .ok (.iload_n 1, 1) := by decide +kernel
theorem dX4_isSameBackwards_14 : decode cX4_isSameBackwards 14 = .ok (.iadd, 1) := by decide +kernel
theorem dX4_isSameBackwards_15 : decode cX4_isSameBackwards 15 = .ok (.iaload, 1) := by decide +kernel
theorem dX4_isSameBackwards_16 : decode cX4_isSameBackwards 16 = .ok (.iadd, 1) := by decide +kernel
theorem dX4_isSameBackwards_17 : decode cX4_isSameBackwards 17 = .ok (.iconst 1, 1) := by decide +kernel
theorem dX4_isSameBackwards_18 : decode cX4_isSameBackwards 18 = .ok (.isub, 1) := by decide +kernel
theorem dX4_isSameBackwards_19 : decode cX4_isSameBackwards 19 = .ok (.istore_n 3, 1) := by decide +kernel
theorem dX4_isSameBackwards_20 : decode cX4_isSameBackwards 20 = .ok (.iconst 1, 1) := by decide +kernel
theorem dX4_isSameBackwards_21 : decode cX4_isSameBackwards 21 = .ok (.istore 4, 2) := by decide +kernel
theorem dX4_isSameBackwards_23 : decode cX4_isSameBackwards 23 = .ok (.iconst 0, 1) := by decide +kernel
theorem dX4_isSameBackwards_24 : decode cX4_isSameBackwards 24 = .ok (.istore 5, 2) := by decide +kernel
theorem dX4_isSameBackwards_26 : decode cX4_isSameBackwards 26 = .ok (.iload 5, 2) := by decide +kernel
theorem dX4_isSameBackwards_28 : decode cX4_isSameBackwards 28 = .ok (.aload_n 0, 1) := by decide +kernel
theorem dX4_isSameBackwards_29 : decode cX4_isSameBackwards 29 = .ok (.getfield 7, 3) := by decide +kernel
theorem dX4_isSameBackwards_32 : decode cX4_isSameBackwards 32 = .ok (.bipush 9, 2) := by decide +kernel
theorem dX4_isSameBackwards_34 : decode cX4_isSameBackwards 34 = .ok (.iload_n 1, 1) := by decide +kernel
theorem dX4_isSameBackwards_35 : decode cX4_isSameBackwards 35 = .ok (.iadd, 1) := by decide +kernel
theorem dX4_isSameBackwards_36 : decode cX4_isSameBackwards 36 = .ok (.iaload, 1) := by decide +kernel
theorem dX4_isSameBackwards_37 : decode cX4_isSameBackwards 37 = .ok (.if_icmp .ge 48, 3) := by decide +kernel
theorem dX4_isSameBackwards_40 : decode cX4_isSameBackwards 40 = .ok (.iload 4, 2) := by decide +kernel
theorem dX4_isSameBackwards_42 : decode cX4_isSameBackwards 42 = .ok (.ifCond .eq 34, 3) := by decide +kernel
theorem dX4_isSameBackwards_45 : decode cX4_isSameBackwards 45 = .ok (.aload_n 0, 1) := by decide +kernel
theorem dX4_isSameBackwards_46 : decode cX4_isSameBackwards 46 = .ok (.getfield 7, 3) := by decide +kernel
theorem dX4_isSameBackwards_49 : decode cX4_isSameBackwards 49 = .ok (.bipush 45, 2) := by decide +kernel
theorem dX4_isSameBackwards_51 : decode cX4_isSameBackwards 51 = .ok (.iload_n 2, 1) := by decide +kernel
theorem dX4_isSameBackwards_52 : decode cX4_isSameBackwards 52 = .ok (.iadd, 1) := by decide +kernel
theorem dX4_isSameBackwards_53 : decode cX4_isSameBackwards 53 = .ok (.iload 5, 2) := by decide +kernel
theorem dX4_isSameBackwards_55 : decode cX4_isSameBackwards 55 = .ok (.iadd, 1) := by decide +kernel
theorem dX4_isSameBackwards_56 : decode cX4_isSameBackwards 56 = .ok (.iaload, 1) := by decide +kernel
theorem dX4_isSameBackwards_57 : decode cX4_isSameBackwards 57 = .ok (.aload_n 0, 1) := by decide +kernel
theorem dX4_isSameBackwards_58 : decode cX4_isSameBackwards 58 = .ok (.getfield 7, 3) := by decide +kernel
theorem dX4_isSameBackwards_61 : decode cX4_isSameBackwards 61 = .ok (.bipush 45, 2) := by decide +kernel
theorem dX4_isSameBackwards_63 : decode cX4_isSameBackwards 63 = .ok (.iload_n 3, 1) := by decide +kernel
theorem dX4_isSameBackwards_64 : decode cX4_isSameBackwards 64 = .ok (.iadd, 1) := by decide +kernel
theorem dX4_isSameBackwards_65 : decode cX4_isSameBackwards 65 = .ok (.iload 5, 2) := by decide +kernel
theorem dX4_isSameBackwards_67 : decode cX4_isSameBackwards 67 = .ok (.isub, 1) := by decide +kernel
theorem dX4_isSameBackwards_68 : decode cX4_isSameBackwards 68 = .ok (.iaload, 1) := by decide +kernel
theorem dX4_isSameBackwards_69 : decode cX4_isSameBackwards 69 = .ok (.if_icmp .ne 7, 3) := by decide +kernel
theorem dX4_isSameBackwards_72 : decode cX4_isSameBackwards 72 = .ok (.iconst 1, 1) := by decide +kernel
theorem dX4_isSameBackwards_73 : decode cX4_isSameBackwards 73 = .ok (.goto 4, 3) := by decide +kernel
theorem dX4_isSameBackwards_76 : decode cX4_isSameBackwards 76 = .ok (.iconst 0, 1) := by decide +kernel
theorem dX4_isSameBackwards_77 : decode cX4_isSameBackwards 77 = .ok (.istore 4, 2) := by decide +kernel
theorem dX4_isSameBackwards_79 : decode cX4_isSameBackwards 79 = .ok (.iinc 5 1, 3) := by decide +kernel
theorem dX4_isSameBackwards_82 : decode cX4_isSameBackwards 82 = .ok (.goto (-56), 3) := by decide +kernel
theorem dX4_isSameBackwards_85 : decode cX4_isSameBackwards 85 = .ok (.iload 4, 2) := by decide +kernel
theorem dX4_isSameBackwards_87 : decode cX4_isSameBackwards 87 = .ok (.ifCond .eq 7, 3) := by decide +kernel
theorem dX4_isSameBackwards_90 : decode cX4_isSameBackwards 90 = .ok (.iconst 1, 1) := by decide +kernel
theorem dX4_isSameBackwards_91 : decode cX4_isSameBackwards 91 = .ok (.goto 4, 3) := by decide +kernel
theorem dX4_isSameBackwards_94 : decode cX4_isSameBackwards 94 = .ok (.iconst 0, 1) := by decide +kernel
theorem dX4_isSameBackwards_95 : decode cX4_isSameBackwards 95 = .ok (.ireturn, 1) := by decide +kernel
set_option maxRecDepth 20000 in
theorem ggX4_story_X4_isStory : GoodIn wsX4_story wsX4_isStory := goodIn_r _ [6, 1, 7, 8, 5, 9, 38, 39, 40, 41, 42, 43, 44, 45, 46, 47, 48, 49, 50, 51, 52, 53, 54, 55, 56, 57, 58] (by decide +kernel) (by decide +kernel)
set_option maxRecDepth 20000 in
theorem gX4_story_X4_isStory : GoodIn wsX4_story (wsV RX4 48 RX4 yX4_isStory wsX4_isStory) := goodIn_app (goodIn_of _ (by decide +kernel)) ggX4_story_X4_isStory
set_option maxRecDepth 20000 in
theorem ggX4_story_X4_heatOf : GoodIn wsX4_story wsX4_heatOf := goodIn_r _ [13, 1, 14, 15, 16, 5, 17, 38, 39, 40, 41, 42, 43, 44, 45, 46, 47, 48, 49, 50, 51, 52, 53, 54, 55, 56, 57, 58] (by decide +kernel) (by decide +kernel)
set_option maxRecDepth 20000 in
theorem gX4_story_X4_heatOf : GoodIn wsX4_story (wsV RX4 101 RX4 yX4_heatOf wsX4_heatOf) := goodIn_app (goodIn_of _ (by decide +kernel)) ggX4_story_X4_heatOf
set_option maxRecDepth 20000 in
theorem ggX4_story_X4_theme : GoodIn wsX4_story wsX4_theme := goodIn_r _ [21, 22, 23, 24, 5, 25, 1, 14, 15, 16, 17, 38, 39, 40, 41, 42, 43, 44, 45, 46, 47, 48, 49, 50, 51, 52, 53, 54, 55, 56, 57, 58] (by decide +kernel) (by decide +kernel)
set_option maxRecDepth 20000 in
theorem gX4_story_X4_theme : GoodIn wsX4_story (wsV RX4 89 RX4 yX4_theme wsX4_theme) := goodIn_app (goodIn_of _ (by decide +kernel)) ggX4_story_X4_theme
set_option maxRecDepth 20000 in
theorem ggX4_story_X4_hottest : GoodIn wsX4_story wsX4_hottest := goodIn_r _ [29, 1, 14, 15, 16, 5, 17, 38, 39, 40, 41, 42, 43, 44, 45, 46, 47, 48, 49, 50, 51, 52, 53, 54, 55, 56, 57, 58] (by decide +kernel) (by decide +kernel)
set_option maxRecDepth 20000 in
theorem gX4_story_X4_hottest : GoodIn wsX4_story (wsV RX4 104 RX4 yX4_hottest wsX4_hottest) := goodIn_app (goodIn_of _ (by decide +kernel)) ggX4_story_X4_hottest
set_option maxRecDepth 20000 in
theorem ggX4_story_X4_unlike : GoodIn wsX4_story wsX4_unlike := goodIn_r _ [33, 22, 23, 24, 5, 25, 1, 14, 15, 16, 17, 38, 39, 40, 41, 42, 43, 44, 45, 46, 47, 48, 49, 50, 51, 52, 53, 54, 55, 56, 57, 58] (by decide +kernel) (by decide +kernel)
set_option maxRecDepth 20000 in
theorem gX4_story_X4_unlike : GoodIn wsX4_story (wsV RX4 107 RX4 yX4_unlike wsX4_unlike) := goodIn_app (goodIn_of _ (by decide +kernel)) ggX4_story_X4_unlike
set_option maxRecDepth 20000 in
theorem ggX4_story_X4_isSameBackwards : GoodIn wsX4_story wsX4_isSameBackwards := goodIn_r _ [37, 1, 14, 15, 16, 5, 17, 38, 39, 40, 41, 42, 43, 44, 45, 46, 47, 48, 49, 50, 51, 52, 53, 54, 55, 56, 57, 58] (by decide +kernel) (by decide +kernel)
set_option maxRecDepth 20000 in
theorem gX4_story_X4_isSameBackwards : GoodIn wsX4_story (wsV RX4 110 RX4 yX4_isSameBackwards wsX4_isSameBackwards) := goodIn_app (goodIn_of _ (by decide +kernel)) ggX4_story_X4_isSameBackwards
theorem dX4_story_0 : decode cX4_story 0 = .ok (.aload_n 0, 1) := by decide +kernel
theorem dX4_story_1 : decode cX4_story 1 = .ok (.iload_n 1, 1) := by decide +kernel
theorem dX4_story_2 : decode cX4_story 2 = .ok (.invokevirtual 48, 3) := by decide +kernel
theorem dX4_story_5 : decode cX4_story 5 = .ok (.ifCond .ne 5, 3) := by decide +kernel
theorem dX4_story_8 : decode cX4_story 8 = .ok (.iconst (-1), 1) := by decide +kernel
theorem dX4_story_9 : decode cX4_story 9 = .ok (.ireturn, 1) := by decide +kernel
theorem dX4_story_10 : decode cX4_story 10 = .ok (.iload_n 2, 1) := by decide +kernel
theorem dX4_story_11 : decode cX4_story 11 = .ok (.tableswitch 105 0 7 #[45, 55, 61, 67, 77, 87, 93, 99], 45) := by decide +kernel
theorem dX4_story_56 : decode cX4_story 56 = .ok (.aload_n 0, 1) := by decide +kernel
theorem dX4_story_57 : decode cX4_story 57 = .ok (.getfield 7, 3) := by decide +kernel
theorem dX4_story_60 : decode cX4_story 60 = .ok (.bipush 9, 2) := by decide +kernel
theorem dX4_story_62 : decode cX4_story 62 = .ok (.iload_n 1, 1) := by decide +kernel
theorem dX4_story_63 : decode cX4_story 63 = .ok (.iadd, 1) := by decide +kernel
theorem dX4_story_64 : decode cX4_story 64 = .ok (.iaload, 1) := by decide +kernel
theorem dX4_story_65 : decode cX4_story 65 = .ok (.ireturn, 1) := by decide +kernel
theorem dX4_story_66 : decode cX4_story 66 = .ok (.aload_n 0, 1) := by decide +kernel
theorem dX4_story_67 : decode cX4_story 67 = .ok (.iload_n 1, 1) := by decide +kernel
theorem dX4_story_68 : decode cX4_story 68 = .ok (.invokevirtual 101, 3) := by decide +kernel
theorem dX4_story_71 : decode cX4_story 71 = .ok (.ireturn, 1) := by decide +kernel
theorem dX4_story_72 : decode cX4_story 72 = .ok (.aload_n 0, 1) := by decide +kernel
theorem dX4_story_73 : decode cX4_story 73 = .ok (.iload_n 1, 1) := by decide +kernel
theorem dX4_story_74 : decode cX4_story 74 = .ok (.invokevirtual 89, 3) := by decide +kernel
theorem dX4_story_77 : decode cX4_story 77 = .ok (.ireturn, 1) := by decide +kernel
theorem dX4_story_78 : decode cX4_story 78 = .ok (.aload_n 0, 1) := by decide +kernel
theorem dX4_story_79 : decode cX4_story 79 = .ok (.getfield 7, 3) := by decide +kernel
theorem dX4_story_82 : decode cX4_story 82 = .ok (.bipush 21, 2) := by decide +kernel
theorem dX4_story_84 : decode cX4_story 84 = .ok (.iload_n 1, 1) := by decide +kernel
theorem dX4_story_85 : decode cX4_story 85 = .ok (.iadd, 1) := by decide +kernel
theorem dX4_story_86 : decode cX4_story 86 = .ok (.iaload, 1) := by decide +kernel
theorem dX4_story_87 : decode cX4_story 87 = .ok (.ireturn, 1) := by decide +kernel
theorem dX4_story_88 : decode cX4_story 88 = .ok (.aload_n 0, 1) := by decide +kernel
theorem dX4_story_89 : decode cX4_story 89 = .ok (.getfield 7, 3) := by decide +kernel
theorem dX4_story_92 : decode cX4_story 92 = .ok (.bipush 33, 2) := by decide +kernel
theorem dX4_story_94 : decode cX4_story 94 = .ok (.iload_n 1, 1) := by decide +kernel
theorem dX4_story_95 : decode cX4_story 95 = .ok (.iadd, 1) := by decide +kernel
theorem dX4_story_96 : decode cX4_story 96 = .ok (.iaload, 1) := by decide +kernel
theorem dX4_story_97 : decode cX4_story 97 = .ok (.ireturn, 1) := by decide +kernel
theorem dX4_story_98 : decode cX4_story 98 = .ok (.aload_n 0, 1) := by decide +kernel
theorem dX4_story_99 : decode cX4_story 99 = .ok (.iload_n 1, 1) := by decide +kernel
theorem dX4_story_100 : decode cX4_story 100 = .ok (.invokevirtual 104, 3) := by decide +kernel
theorem dX4_story_103 : decode cX4_story 103 = .ok (.ireturn, 1) := by decide +kernel
theorem dX4_story_104 : decode cX4_story 104 = .ok (.aload_n 0, 1) := by decide +kernel
theorem dX4_story_105 : decode cX4_story 105 = .ok (.iload_n 1, 1) := by decide +kernel
theorem dX4_story_106 : decode cX4_story 106 = .ok (.invokevirtual 107, 3) := by decide +kernel
theorem dX4_story_109 : decode cX4_story 109 = .ok (.ireturn, 1) := by decide +kernel
theorem dX4_story_110 : decode cX4_story 110 = .ok (.aload_n 0, 1) := by decide +kernel
theorem dX4_story_111 : decode cX4_story 111 = .ok (.iload_n 1, 1) := by decide +kernel
theorem dX4_story_112 : decode cX4_story 112 = .ok (.invokevirtual 110, 3) := by decide +kernel
theorem dX4_story_115 : decode cX4_story 115 = .ok (.ireturn, 1) := by decide +kernel
theorem dX4_story_116 : decode cX4_story 116 = .ok (.bipush (-2), 2) := by decide +kernel
theorem dX4_story_118 : decode cX4_story 118 = .ok (.ireturn, 1) := by decide +kernel
theorem dX4_families_0 : decode cX4_families 0 = .ok (.iconst 0, 1) := by decide +kernel
theorem dX4_families_1 : decode cX4_families 1 = .ok (.istore_n 1, 1) := by decide +kernel
theorem dX4_families_2 : decode cX4_families 2 = .ok (.iconst 0, 1) := by decide +kernel
theorem dX4_families_3 : decode cX4_families 3 = .ok (.istore_n 2, 1) := by decide +kernel
theorem dX4_families_4 : decode cX4_families 4 = .ok (.iload_n 2, 1) := by decide +kernel
theorem dX4_families_5 : decode cX4_families 5 = .ok (.aload_n 0, 1) := by decide +kernel
theorem dX4_families_6 : decode cX4_families 6 = .ok (.getfield 7, 3) := by decide +kernel
theorem dX4_families_9 : decode cX4_families 9 = .ok (.iconst 3, 1) := by decide +kernel
theorem dX4_families_10 : decode cX4_families 10 = .ok (.iaload, 1) := by decide +kernel
theorem dX4_families_11 : decode cX4_families 11 = .ok (.if_icmp .ge 70, 3) := by decide +kernel
theorem dX4_families_14 : decode cX4_families 14 = .ok (.iconst 1, 1) := by decide +kernel
theorem dX4_families_15 : decode cX4_families 15 = .ok (.istore_n 3, 1) := by decide +kernel
theorem dX4_families_16 : decode cX4_families 16 = .ok (.iconst 0, 1) := by decide +kernel
theorem dX4_families_17 : decode cX4_families 17 = .ok (.istore 4, 2) := by decide +kernel
theorem dX4_families_19 : decode cX4_families 19 = .ok (.iload 4, 2) := by decide +kernel
theorem dX4_families_21 : decode cX4_families 21 = .ok (.iload_n 2, 1) := by decide +kernel
theorem dX4_families_22 : decode cX4_families 22 = .ok (.if_icmp .ge 41, 3) := by decide +kernel
theorem dX4_families_25 : decode cX4_families 25 = .ok (.iload_n 3, 1) := by decide +kernel
theorem dX4_families_26 : decode cX4_families 26 = .ok (.ifCond .eq 29, 3) := by decide +kernel
theorem dX4_families_29 : decode cX4_families 29 = .ok (.aload_n 0, 1) := by decide +kernel
theorem dX4_families_30 : decode cX4_families 30 = .ok (.getfield 7, 3) := by decide +kernel
theorem dX4_families_33 : decode cX4_families 33 = .ok (.bipush 21, 2) := by decide +kernel
theorem dX4_families_35 : decode cX4_families 35 = .ok (.iload 4, 2) := by decide +kernel
theorem dX4_families_37 : decode cX4_families 37 = .ok (.iadd, 1) := by decide +kernel
theorem dX4_families_38 : decode cX4_families 38 = .ok (.iaload, 1) := by decide +kernel
theorem dX4_families_39 : decode cX4_families 39 = .ok (.aload_n 0, 1) := by decide +kernel
theorem dX4_families_40 : decode cX4_families 40 = .ok (.getfield 7, 3) := by decide +kernel
theorem dX4_families_43 : decode cX4_families 43 = .ok (.bipush 21, 2) := by decide +kernel
theorem dX4_families_45 : decode cX4_families 45 = .ok (.iload_n 2, 1) := by decide +kernel
theorem dX4_families_46 : decode cX4_families 46 = .ok (.iadd, 1) := by decide +kernel
theorem dX4_families_47 : decode cX4_families 47 = .ok (.iaload, 1) := by decide +kernel
theorem dX4_families_48 : decode cX4_families 48 = .ok (.if_icmp .eq 7, 3) := by decide +kernel
theorem dX4_families_51 : decode cX4_families 51 = .ok (.iconst 1, 1) := by decide +kernel
theorem dX4_families_52 : decode cX4_families 52 = .ok (.goto 4, 3) := by decide +kernel
theorem dX4_families_55 : decode cX4_families 55 = .ok (.iconst 0, 1) := by decide +kernel
theorem dX4_families_56 : decode cX4_families 56 = .ok (.istore_n 3, 1) := by decide +kernel
theorem dX4_families_57 : decode cX4_families 57 = .ok (.iinc 4 1, 3) := by decide +kernel
theorem dX4_families_60 : decode cX4_families 60 = .ok (.goto (-41), 3) := by decide +kernel
theorem dX4_families_63 : decode cX4_families 63 = .ok (.iload_n 1, 1) := by decide +kernel
theorem dX4_families_64 : decode cX4_families 64 = .ok (.iload_n 3, 1) := by decide +kernel
theorem dX4_families_65 : decode cX4_families 65 = .ok (.ifCond .eq 7, 3) := by decide +kernel
theorem dX4_families_68 : decode cX4_families 68 = .ok (.iconst 1, 1) := by decide +kernel
theorem dX4_families_69 : decode cX4_families 69 = .ok (.goto 4, 3) := by decide +kernel
theorem dX4_families_72 : decode cX4_families 72 = .ok (.iconst 0, 1) := by decide +kernel
theorem dX4_families_73 : decode cX4_families 73 = .ok (.iadd, 1) := by decide +kernel
theorem dX4_families_74 : decode cX4_families 74 = .ok (.istore_n 1, 1) := by decide +kernel
theorem dX4_families_75 : decode cX4_families 75 = .ok (.iinc 2 1, 3) := by decide +kernel
theorem dX4_families_78 : decode cX4_families 78 = .ok (.goto (-74), 3) := by decide +kernel
theorem dX4_families_81 : decode cX4_families 81 = .ok (.iload_n 1, 1) := by decide +kernel
theorem dX4_families_82 : decode cX4_families 82 = .ok (.ireturn, 1) := by decide +kernel
theorem dX4_greatest_0 : decode cX4_greatest 0 = .ok (.bipush (-6), 2) := by decide +kernel
theorem dX4_greatest_2 : decode cX4_greatest 2 = .ok (.istore_n 1, 1) := by decide +kernel
theorem dX4_greatest_3 : decode cX4_greatest 3 = .ok (.iconst 0, 1) := by decide +kernel
theorem dX4_greatest_4 : decode cX4_greatest 4 = .ok (.istore_n 2, 1) := by decide +kernel
theorem dX4_greatest_5 : decode cX4_greatest 5 = .ok (.iload_n 2, 1) := by decide +kernel
theorem dX4_greatest_6 : decode cX4_greatest 6 = .ok (.aload_n 0, 1) := by decide +kernel
theorem dX4_greatest_7 : decode cX4_greatest 7 = .ok (.getfield 7, 3) := by decide +kernel
theorem dX4_greatest_10 : decode cX4_greatest 10 = .ok (.iconst 3, 1) := by decide +kernel
theorem dX4_greatest_11 : decode cX4_greatest 11 = .ok (.iaload, 1) := by decide +kernel
theorem dX4_greatest_12 : decode cX4_greatest 12 = .ok (.if_icmp .ge 36, 3) := by decide +kernel
theorem dX4_greatest_15 : decode cX4_greatest 15 = .ok (.aload_n 0, 1) := by decide +kernel
theorem dX4_greatest_16 : decode cX4_greatest 16 = .ok (.getfield 7, 3) := by decide +kernel
theorem dX4_greatest_19 : decode cX4_greatest 19 = .ok (.bipush 33, 2) := by decide +kernel
theorem dX4_greatest_21 : decode cX4_greatest 21 = .ok (.iload_n 2, 1) := by decide +kernel
theorem dX4_greatest_22 : decode cX4_greatest 22 = .ok (.iadd, 1) := by decide +kernel
theorem dX4_greatest_23 : decode cX4_greatest 23 = .ok (.iaload, 1) := by decide +kernel
theorem dX4_greatest_24 : decode cX4_greatest 24 = .ok (.iload_n 1, 1) := by decide +kernel
theorem dX4_greatest_25 : decode cX4_greatest 25 = .ok (.if_icmp .le 15, 3) := by decide +kernel
theorem dX4_greatest_28 : decode cX4_greatest 28 = .ok (.aload_n 0, 1) := by decide +kernel
theorem dX4_greatest_29 : decode cX4_greatest 29 = .ok (.getfield 7, 3) := by decide +kernel
theorem dX4_greatest_32 : decode cX4_greatest 32 = .ok (.bipush 33, 2) := by decide +kernel
theorem dX4_greatest_34 : decode cX4_greatest 34 = .ok (.iload_n 2, 1) := by decide +kernel
theorem dX4_greatest_35 : decode cX4_greatest 35 = .ok (.iadd, 1) := by decide +kernel
theorem dX4_greatest_36 : decode cX4_greatest 36 = .ok (.iaload, 1) := by decide +kernel
theorem dX4_greatest_37 : decode cX4_greatest 37 = .ok (.goto 4, 3) := by decide +kernel
theorem dX4_greatest_40 : decode cX4_greatest 40 = .ok (.iload_n 1, 1) := by decide +kernel
theorem dX4_greatest_41 : decode cX4_greatest 41 = .ok (.istore_n 1, 1) := by decide +kernel
theorem dX4_greatest_42 : decode cX4_greatest 42 = .ok (.iinc 2 1, 3) := by decide +kernel
theorem dX4_greatest_45 : decode cX4_greatest 45 = .ok (.goto (-40), 3) := by decide +kernel
theorem dX4_greatest_48 : decode cX4_greatest 48 = .ok (.iload_n 1, 1) := by decide +kernel
theorem dX4_greatest_49 : decode cX4_greatest 49 = .ok (.ireturn, 1) := by decide +kernel
set_option maxRecDepth 20000 in
theorem ggX4_count_X4_allHeat : GoodIn wsX4_count wsX4_allHeat := goodIn_r _ [8, 1, 17, 18, 19, 20, 21, 22, 23, 24, 25, 26, 27, 28, 29, 30, 31, 32, 33, 34, 35, 36, 37] (by decide +kernel) (by decide +kernel)
set_option maxRecDepth 20000 in
theorem gX4_count_X4_allHeat : GoodIn wsX4_count (wsV RX4 98 RX4 yX4_allHeat wsX4_allHeat) := goodIn_app (goodIn_of _ (by decide +kernel)) ggX4_count_X4_allHeat
set_option maxRecDepth 20000 in
theorem ggX4_count_X4_families : GoodIn wsX4_count wsX4_families := goodIn_r _ [12, 1, 17, 18, 19, 20, 21, 22, 23, 24, 25, 26, 27, 28, 29, 30, 31, 32, 33, 34, 35, 36, 37] (by decide +kernel) (by decide +kernel)
set_option maxRecDepth 20000 in
theorem gX4_count_X4_families : GoodIn wsX4_count (wsV RX4 113 RX4 yX4_families wsX4_families) := goodIn_app (goodIn_of _ (by decide +kernel)) ggX4_count_X4_families
set_option maxRecDepth 20000 in
theorem ggX4_count_X4_greatest : GoodIn wsX4_count wsX4_greatest := goodIn_r _ [16, 1, 17, 18, 19, 20, 21, 22, 23, 24, 25, 26, 27, 28, 29, 30, 31, 32, 33, 34, 35, 36, 37] (by decide +kernel) (by decide +kernel)
set_option maxRecDepth 20000 in
theorem gX4_count_X4_greatest : GoodIn wsX4_count (wsV RX4 116 RX4 yX4_greatest wsX4_greatest) := goodIn_app (goodIn_of _ (by decide +kernel)) ggX4_count_X4_greatest
theorem dX4_count_0 : decode cX4_count 0 = .ok (.iload_n 1, 1) := by decide +kernel
theorem dX4_count_1 : decode cX4_count 1 = .ok (.tableswitch 130 0 12 #[67, 74, 81, 86, 91, 91, 91, 103, 108, 108, 108, 120, 125], 67) := by decide +kernel
theorem dX4_count_68 : decode cX4_count 68 = .ok (.aload_n 0, 1) := by decide +kernel
theorem dX4_count_69 : decode cX4_count 69 = .ok (.getfield 7, 3) := by decide +kernel
theorem dX4_count_72 : decode cX4_count 72 = .ok (.iconst 3, 1) := by decide +kernel
theorem dX4_count_73 : decode cX4_count 73 = .ok (.iaload, 1) := by decide +kernel
theorem dX4_count_74 : decode cX4_count 74 = .ok (.ireturn, 1) := by decide +kernel
theorem dX4_count_75 : decode cX4_count 75 = .ok (.aload_n 0, 1) := by decide +kernel
theorem dX4_count_76 : decode cX4_count 76 = .ok (.getfield 7, 3) := by decide +kernel
theorem dX4_count_79 : decode cX4_count 79 = .ok (.iconst 4, 1) := by decide +kernel
theorem dX4_count_80 : decode cX4_count 80 = .ok (.iaload, 1) := by decide +kernel
theorem dX4_count_81 : decode cX4_count 81 = .ok (.ireturn, 1) := by decide +kernel
theorem dX4_count_82 : decode cX4_count 82 = .ok (.aload_n 0, 1) := by decide +kernel
theorem dX4_count_83 : decode cX4_count 83 = .ok (.invokevirtual 98, 3) := by decide +kernel
theorem dX4_count_86 : decode cX4_count 86 = .ok (.ireturn, 1) := by decide +kernel
theorem dX4_count_87 : decode cX4_count 87 = .ok (.aload_n 0, 1) := by decide +kernel
theorem dX4_count_88 : decode cX4_count 88 = .ok (.invokevirtual 113, 3) := by decide +kernel
theorem dX4_count_91 : decode cX4_count 91 = .ok (.ireturn, 1) := by decide +kernel
theorem dX4_count_92 : decode cX4_count 92 = .ok (.aload_n 0, 1) := by decide +kernel
theorem dX4_count_93 : decode cX4_count 93 = .ok (.getfield 7, 3) := by decide +kernel
theorem dX4_count_96 : decode cX4_count 96 = .ok (.bipush 6, 2) := by decide +kernel
theorem dX4_count_98 : decode cX4_count 98 = .ok (.iload_n 1, 1) := by decide +kernel
theorem dX4_count_99 : decode cX4_count 99 = .ok (.iadd, 1) := by decide +kernel
theorem dX4_count_100 : decode cX4_count 100 = .ok (.iconst 4, 1) := by decide +kernel
theorem dX4_count_101 : decode cX4_count 101 = .ok (.isub, 1) := by decide +kernel
theorem dX4_count_102 : decode cX4_count 102 = .ok (.iaload, 1) := by decide +kernel
theorem dX4_count_103 : decode cX4_count 103 = .ok (.ireturn, 1) := by decide +kernel
theorem dX4_count_104 : decode cX4_count 104 = .ok (.aload_n 0, 1) := by decide +kernel
theorem dX4_count_105 : decode cX4_count 105 = .ok (.invokevirtual 116, 3) := by decide +kernel
theorem dX4_count_108 : decode cX4_count 108 = .ok (.ireturn, 1) := by decide +kernel
theorem dX4_count_109 : decode cX4_count 109 = .ok (.aload_n 0, 1) := by decide +kernel
theorem dX4_count_110 : decode cX4_count 110 = .ok (.getfield 7, 3) := by decide +kernel
theorem dX4_count_113 : decode cX4_count 113 = .ok (.iconst 0, 1) := by decide +kernel
theorem dX4_count_114 : decode cX4_count 114 = .ok (.iload_n 1, 1) := by decide +kernel
theorem dX4_count_115 : decode cX4_count 115 = .ok (.iadd, 1) := by decide +kernel
theorem dX4_count_116 : decode cX4_count 116 = .ok (.bipush 8, 2) := by decide +kernel
theorem dX4_count_118 : decode cX4_count 118 = .ok (.isub, 1) := by decide +kernel
theorem dX4_count_119 : decode cX4_count 119 = .ok (.iaload, 1) := by decide +kernel
theorem dX4_count_120 : decode cX4_count 120 = .ok (.ireturn, 1) := by decide +kernel
theorem dX4_count_121 : decode cX4_count 121 = .ok (.aload_n 0, 1) := by decide +kernel
theorem dX4_count_122 : decode cX4_count 122 = .ok (.getfield 119, 3) := by decide +kernel
theorem dX4_count_125 : decode cX4_count 125 = .ok (.ireturn, 1) := by decide +kernel
theorem dX4_count_126 : decode cX4_count 126 = .ok (.aload_n 0, 1) := by decide +kernel
theorem dX4_count_127 : decode cX4_count 127 = .ok (.getfield 52, 3) := by decide +kernel
theorem dX4_count_130 : decode cX4_count 130 = .ok (.ireturn, 1) := by decide +kernel
theorem dX4_count_131 : decode cX4_count 131 = .ok (.bipush (-2), 2) := by decide +kernel
theorem dX4_count_133 : decode cX4_count 133 = .ok (.ireturn, 1) := by decide +kernel
set_option maxRecDepth 20000 in
theorem ggX4_letter_X4_in : GoodIn wsX4_letter wsX4_in := goodIn_r _ [5] (by decide +kernel) (by decide +kernel)
set_option maxRecDepth 20000 in
theorem gX4_letter_X4_in : GoodIn wsX4_letter (va_wsS RX4 44 yX4_in wsX4_in) := goodIn_app (goodIn_of _ (by decide +kernel)) ggX4_letter_X4_in
set_option maxRecDepth 20000 in
theorem ggX4_letter_X4_times : GoodIn wsX4_letter wsX4_times := goodIn_r _ [9, 1, 10, 11, 12, 4, 13, 18, 19, 20, 21, 22, 23, 24, 25, 26, 27, 28, 29, 30, 31, 32, 33, 34, 35, 36, 37, 38] (by decide +kernel) (by decide +kernel)
set_option maxRecDepth 20000 in
theorem gX4_letter_X4_times : GoodIn wsX4_letter (wsV RX4 74 RX4 yX4_times wsX4_times) := goodIn_app (goodIn_of _ (by decide +kernel)) ggX4_letter_X4_times
set_option maxRecDepth 20000 in
theorem ggX4_letter_X4_theme : GoodIn wsX4_letter wsX4_theme := goodIn_r _ [17, 6, 7, 8, 4, 9, 1, 10, 11, 12, 13, 18, 19, 20, 21, 22, 23, 24, 25, 26, 27, 28, 29, 30, 31, 32, 33, 34, 35, 36, 37, 38] (by decide +kernel) (by decide +kernel)
set_option maxRecDepth 20000 in
theorem gX4_letter_X4_theme : GoodIn wsX4_letter (wsV RX4 89 RX4 yX4_theme wsX4_theme) := goodIn_app (goodIn_of _ (by decide +kernel)) ggX4_letter_X4_theme
theorem dX4_letter_0 : decode cX4_letter 0 = .ok (.iload_n 1, 1) := by decide +kernel
theorem dX4_letter_1 : decode cX4_letter 1 = .ok (.iconst 0, 1) := by decide +kernel
theorem dX4_letter_2 : decode cX4_letter 2 = .ok (.bipush 25, 2) := by decide +kernel
theorem dX4_letter_4 : decode cX4_letter 4 = .ok (.invokestatic 44, 3) := by decide +kernel
theorem dX4_letter_7 : decode cX4_letter 7 = .ok (.ifCond .eq 12, 3) := by decide +kernel
theorem dX4_letter_10 : decode cX4_letter 10 = .ok (.iload_n 2, 1) := by decide +kernel
theorem dX4_letter_11 : decode cX4_letter 11 = .ok (.iconst 0, 1) := by decide +kernel
theorem dX4_letter_12 : decode cX4_letter 12 = .ok (.iconst 3, 1) := by decide +kernel
theorem dX4_letter_13 : decode cX4_letter 13 = .ok (.invokestatic 44, 3) := by decide +kernel
theorem dX4_letter_16 : decode cX4_letter 16 = .ok (.ifCond .ne 6, 3) := by decide +kernel
theorem dX4_letter_19 : decode cX4_letter 19 = .ok (.bipush (-2), 2) := by decide +kernel
theorem dX4_letter_21 : decode cX4_letter 21 = .ok (.ireturn, 1) := by decide +kernel
theorem dX4_letter_22 : decode cX4_letter 22 = .ok (.iconst 0, 1) := by decide +kernel
theorem dX4_letter_23 : decode cX4_letter 23 = .ok (.istore_n 3, 1) := by decide +kernel
theorem dX4_letter_24 : decode cX4_letter 24 = .ok (.iconst 0, 1) := by decide +kernel
theorem dX4_letter_25 : decode cX4_letter 25 = .ok (.istore 4, 2) := by decide +kernel
theorem dX4_letter_27 : decode cX4_letter 27 = .ok (.iload 4, 2) := by decide +kernel
theorem dX4_letter_29 : decode cX4_letter 29 = .ok (.aload_n 0, 1) := by decide +kernel
theorem dX4_letter_30 : decode cX4_letter 30 = .ok (.getfield 7, 3) := by decide +kernel
theorem dX4_letter_33 : decode cX4_letter 33 = .ok (.iconst 4, 1) := by decide +kernel
theorem dX4_letter_34 : decode cX4_letter 34 = .ok (.iaload, 1) := by decide +kernel
theorem dX4_letter_35 : decode cX4_letter 35 = .ok (.if_icmp .ge 58, 3) := by decide +kernel
theorem dX4_letter_38 : decode cX4_letter 38 = .ok (.iload_n 2, 1) := by decide +kernel
theorem dX4_letter_39 : decode cX4_letter 39 = .ok (.ifCond .eq 8, 3) := by decide +kernel
theorem dX4_letter_42 : decode cX4_letter 42 = .ok (.iload_n 2, 1) := by decide +kernel
theorem dX4_letter_43 : decode cX4_letter 43 = .ok (.iconst 3, 1) := by decide +kernel
theorem dX4_letter_44 : decode cX4_letter 44 = .ok (.if_icmp .ne 49, 3) := by decide +kernel
theorem dX4_letter_47 : decode cX4_letter 47 = .ok (.iload_n 3, 1) := by decide +kernel
theorem dX4_letter_48 : decode cX4_letter 48 = .ok (.aload_n 0, 1) := by decide +kernel
theorem dX4_letter_49 : decode cX4_letter 49 = .ok (.getfield 7, 3) := by decide +kernel
theorem dX4_letter_52 : decode cX4_letter 52 = .ok (.bipush 45, 2) := by decide +kernel
theorem dX4_letter_54 : decode cX4_letter 54 = .ok (.iload 4, 2) := by decide +kernel
theorem dX4_letter_56 : decode cX4_letter 56 = .ok (.iadd, 1) := by decide +kernel
theorem dX4_letter_57 : decode cX4_letter 57 = .ok (.iaload, 1) := by decide +kernel
theorem dX4_letter_58 : decode cX4_letter 58 = .ok (.iload_n 1, 1) := by decide +kernel
theorem dX4_letter_59 : decode cX4_letter 59 = .ok (.if_icmp .eq 7, 3) := by decide +kernel
theorem dX4_letter_62 : decode cX4_letter 62 = .ok (.iconst 0, 1) := by decide +kernel
theorem dX4_letter_63 : decode cX4_letter 63 = .ok (.goto 22, 3) := by decide +kernel
theorem dX4_letter_66 : decode cX4_letter 66 = .ok (.iload_n 2, 1) := by decide +kernel
theorem dX4_letter_67 : decode cX4_letter 67 = .ok (.ifCond .ne 7, 3) := by decide +kernel
theorem dX4_letter_70 : decode cX4_letter 70 = .ok (.iconst 1, 1) := by decide +kernel
theorem dX4_letter_71 : decode cX4_letter 71 = .ok (.goto 14, 3) := by decide +kernel
theorem dX4_letter_74 : decode cX4_letter 74 = .ok (.aload_n 0, 1) := by decide +kernel
theorem dX4_letter_75 : decode cX4_letter 75 = .ok (.getfield 7, 3) := by decide +kernel
theorem dX4_letter_78 : decode cX4_letter 78 = .ok (.sipush 195, 3) := by decide +kernel
theorem dX4_letter_81 : decode cX4_letter 81 = .ok (.iload 4, 2) := by decide +kernel
theorem dX4_letter_83 : decode cX4_letter 83 = .ok (.iadd, 1) := by decide +kernel
theorem dX4_letter_84 : decode cX4_letter 84 = .ok (.iaload, 1) := by decide +kernel
theorem dX4_letter_85 : decode cX4_letter 85 = .ok (.iadd, 1) := by decide +kernel
theorem dX4_letter_86 : decode cX4_letter 86 = .ok (.istore_n 3, 1) := by decide +kernel
theorem dX4_letter_87 : decode cX4_letter 87 = .ok (.iinc 4 1, 3) := by decide +kernel
theorem dX4_letter_90 : decode cX4_letter 90 = .ok (.goto (-63), 3) := by decide +kernel
theorem dX4_letter_93 : decode cX4_letter 93 = .ok (.iconst 0, 1) := by decide +kernel
theorem dX4_letter_94 : decode cX4_letter 94 = .ok (.istore 4, 2) := by decide +kernel
theorem dX4_letter_96 : decode cX4_letter 96 = .ok (.iload 4, 2) := by decide +kernel
theorem dX4_letter_98 : decode cX4_letter 98 = .ok (.aload_n 0, 1) := by decide +kernel
theorem dX4_letter_99 : decode cX4_letter 99 = .ok (.getfield 7, 3) := by decide +kernel
theorem dX4_letter_102 : decode cX4_letter 102 = .ok (.iconst 3, 1) := by decide +kernel
theorem dX4_letter_103 : decode cX4_letter 103 = .ok (.iaload, 1) := by decide +kernel
theorem dX4_letter_104 : decode cX4_letter 104 = .ok (.if_icmp .ge 55, 3) := by decide +kernel
theorem dX4_letter_107 : decode cX4_letter 107 = .ok (.iload_n 2, 1) := by decide +kernel
theorem dX4_letter_108 : decode cX4_letter 108 = .ok (.iconst 1, 1) := by decide +kernel
theorem dX4_letter_109 : decode cX4_letter 109 = .ok (.if_icmp .eq 8, 3) := by decide +kernel
theorem dX4_letter_112 : decode cX4_letter 112 = .ok (.iload_n 2, 1) := by decide +kernel
theorem dX4_letter_113 : decode cX4_letter 113 = .ok (.iconst 2, 1) := by decide +kernel
theorem dX4_letter_114 : decode cX4_letter 114 = .ok (.if_icmp .ne 45, 3) := by decide +kernel
theorem dX4_letter_117 : decode cX4_letter 117 = .ok (.iload_n 3, 1) := by decide +kernel
theorem dX4_letter_118 : decode cX4_letter 118 = .ok (.iload_n 2, 1) := by decide +kernel
theorem dX4_letter_119 : decode cX4_letter 119 = .ok (.iconst 1, 1) := by decide +kernel
theorem dX4_letter_120 : decode cX4_letter 120 = .ok (.if_icmp .ne 16, 3) := by decide +kernel
theorem dX4_letter_123 : decode cX4_letter 123 = .ok (.aload_n 0, 1) := by decide +kernel
theorem dX4_letter_124 : decode cX4_letter 124 = .ok (.iload 4, 2) := by decide +kernel
theorem dX4_letter_126 : decode cX4_letter 126 = .ok (.iload_n 1, 1) := by decide +kernel
theorem dX4_letter_127 : decode cX4_letter 127 = .ok (.invokevirtual 74, 3) := by decide +kernel
theorem dX4_letter_130 : decode cX4_letter 130 = .ok (.ifCond .le 20, 3) := by decide +kernel
theorem dX4_letter_133 : decode cX4_letter 133 = .ok (.goto 13, 3) := by decide +kernel
theorem dX4_letter_136 : decode cX4_letter 136 = .ok (.aload_n 0, 1) := by decide +kernel
theorem dX4_letter_137 : decode cX4_letter 137 = .ok (.iload 4, 2) := by decide +kernel
theorem dX4_letter_139 : decode cX4_letter 139 = .ok (.invokevirtual 89, 3) := by decide +kernel
theorem dX4_letter_142 : decode cX4_letter 142 = .ok (.iload_n 1, 1) := by decide +kernel
theorem dX4_letter_143 : decode cX4_letter 143 = .ok (.if_icmp .ne 7, 3) := by decide +kernel
theorem dX4_letter_146 : decode cX4_letter 146 = .ok (.iconst 1, 1) := by decide +kernel
theorem dX4_letter_147 : decode cX4_letter 147 = .ok (.goto 4, 3) := by decide +kernel
theorem dX4_letter_150 : decode cX4_letter 150 = .ok (.iconst 0, 1) := by decide +kernel
theorem dX4_letter_151 : decode cX4_letter 151 = .ok (.iadd, 1) := by decide +kernel
theorem dX4_letter_152 : decode cX4_letter 152 = .ok (.istore_n 3, 1) := by decide +kernel
theorem dX4_letter_153 : decode cX4_letter 153 = .ok (.iinc 4 1, 3) := by decide +kernel
theorem dX4_letter_156 : decode cX4_letter 156 = .ok (.goto (-60), 3) := by decide +kernel
theorem dX4_letter_159 : decode cX4_letter 159 = .ok (.iload_n 3, 1) := by decide +kernel
theorem dX4_letter_160 : decode cX4_letter 160 = .ok (.ireturn, 1) := by decide +kernel
set_option maxRecDepth 20000 in
theorem ggX4_sideBySide_X4_in : GoodIn wsX4_sideBySide wsX4_in := goodIn_r _ [5] (by decide +kernel) (by decide +kernel)
set_option maxRecDepth 20000 in
theorem gX4_sideBySide_X4_in : GoodIn wsX4_sideBySide (va_wsS RX4 44 yX4_in wsX4_in) := goodIn_app (goodIn_of _ (by decide +kernel)) ggX4_sideBySide_X4_in
set_option maxRecDepth 20000 in
theorem ggX4_sideBySide_X4_first : GoodIn wsX4_sideBySide wsX4_first := goodIn_r _ [9, 1, 10, 11, 12, 13, 14, 15, 16, 17, 18, 19, 20, 21, 22, 23, 24, 25, 26, 27, 28, 29, 30] (by decide +kernel) (by decide +kernel)
set_option maxRecDepth 20000 in
theorem gX4_sideBySide_X4_first : GoodIn wsX4_sideBySide (wsV RX4 60 RX4 yX4_first wsX4_first) := goodIn_app (goodIn_of _ (by decide +kernel)) ggX4_sideBySide_X4_first
theorem dX4_sideBySide_0 : decode cX4_sideBySide 0 = .ok (.iload_n 1, 1) := by decide +kernel
theorem dX4_sideBySide_1 : decode cX4_sideBySide 1 = .ok (.iconst 0, 1) := by decide +kernel
theorem dX4_sideBySide_2 : decode cX4_sideBySide 2 = .ok (.bipush 25, 2) := by decide +kernel
theorem dX4_sideBySide_4 : decode cX4_sideBySide 4 = .ok (.invokestatic 44, 3) := by decide +kernel
theorem dX4_sideBySide_7 : decode cX4_sideBySide 7 = .ok (.ifCond .eq 22, 3) := by decide +kernel
theorem dX4_sideBySide_10 : decode cX4_sideBySide 10 = .ok (.iload_n 2, 1) := by decide +kernel
theorem dX4_sideBySide_11 : decode cX4_sideBySide 11 = .ok (.iconst 0, 1) := by decide +kernel
theorem dX4_sideBySide_12 : decode cX4_sideBySide 12 = .ok (.bipush 25, 2) := by decide +kernel
theorem dX4_sideBySide_14 : decode cX4_sideBySide 14 = .ok (.invokestatic 44, 3) := by decide +kernel
theorem dX4_sideBySide_17 : decode cX4_sideBySide 17 = .ok (.ifCond .eq 12, 3) := by decide +kernel
theorem dX4_sideBySide_20 : decode cX4_sideBySide 20 = .ok (.iload_n 3, 1) := by decide +kernel
theorem dX4_sideBySide_21 : decode cX4_sideBySide 21 = .ok (.iconst 0, 1) := by decide +kernel
theorem dX4_sideBySide_22 : decode cX4_sideBySide 22 = .ok (.iconst 2, 1) := by decide +kernel
theorem dX4_sideBySide_23 : decode cX4_sideBySide 23 = .ok (.invokestatic 44, 3) := by decide +kernel
theorem dX4_sideBySide_26 : decode cX4_sideBySide 26 = .ok (.ifCond .ne 6, 3) := by decide +kernel
theorem dX4_sideBySide_29 : decode cX4_sideBySide 29 = .ok (.bipush (-2), 2) := by decide +kernel
theorem dX4_sideBySide_31 : decode cX4_sideBySide 31 = .ok (.ireturn, 1) := by decide +kernel
theorem dX4_sideBySide_32 : decode cX4_sideBySide 32 = .ok (.iconst 0, 1) := by decide +kernel
theorem dX4_sideBySide_33 : decode cX4_sideBySide 33 = .ok (.istore 4, 2) := by decide +kernel
theorem dX4_sideBySide_35 : decode cX4_sideBySide 35 = .ok (.bipush (-6), 2) := by decide +kernel
theorem dX4_sideBySide_37 : decode cX4_sideBySide 37 = .ok (.istore 5, 2) := by decide +kernel
theorem dX4_sideBySide_39 : decode cX4_sideBySide 39 = .ok (.bipush (-6), 2) := by decide +kernel
theorem dX4_sideBySide_41 : decode cX4_sideBySide 41 = .ok (.istore 6, 2) := by decide +kernel
theorem dX4_sideBySide_43 : decode cX4_sideBySide 43 = .ok (.iconst 0, 1) := by decide +kernel
theorem dX4_sideBySide_44 : decode cX4_sideBySide 44 = .ok (.istore 7, 2) := by decide +kernel
theorem dX4_sideBySide_46 : decode cX4_sideBySide 46 = .ok (.iload 7, 2) := by decide +kernel
theorem dX4_sideBySide_48 : decode cX4_sideBySide 48 = .ok (.aload_n 0, 1) := by decide +kernel
theorem dX4_sideBySide_49 : decode cX4_sideBySide 49 = .ok (.getfield 7, 3) := by decide +kernel
theorem dX4_sideBySide_52 : decode cX4_sideBySide 52 = .ok (.iconst 3, 1) := by decide +kernel
theorem dX4_sideBySide_53 : decode cX4_sideBySide 53 = .ok (.iaload, 1) := by decide +kernel
theorem dX4_sideBySide_54 : decode cX4_sideBySide 54 = .ok (.if_icmp .ge 133, 3) := by decide +kernel
theorem dX4_sideBySide_57 : decode cX4_sideBySide 57 = .ok (.iconst 0, 1) := by decide +kernel
theorem dX4_sideBySide_58 : decode cX4_sideBySide 58 = .ok (.istore 8, 2) := by decide +kernel
theorem dX4_sideBySide_60 : decode cX4_sideBySide 60 = .ok (.iload 8, 2) := by decide +kernel
theorem dX4_sideBySide_62 : decode cX4_sideBySide 62 = .ok (.aload_n 0, 1) := by decide +kernel
theorem dX4_sideBySide_63 : decode cX4_sideBySide 63 = .ok (.getfield 7, 3) := by decide +kernel
theorem dX4_sideBySide_66 : decode cX4_sideBySide 66 = .ok (.bipush 9, 2) := by decide +kernel
theorem dX4_sideBySide_68 : decode cX4_sideBySide 68 = .ok (.iload 7, 2) := by decide +kernel
theorem dX4_sideBySide_70 : decode cX4_sideBySide 70 = .ok (.iadd, 1) := by decide +kernel
theorem dX4_sideBySide_71 : decode cX4_sideBySide 71 = .ok (.iaload, 1) := by decide +kernel
theorem dX4_sideBySide_72 : decode cX4_sideBySide 72 = .ok (.iconst 1, 1) := by decide +kernel
theorem dX4_sideBySide_73 : decode cX4_sideBySide 73 = .ok (.isub, 1) := by decide +kernel
theorem dX4_sideBySide_74 : decode cX4_sideBySide 74 = .ok (.if_icmp .ge 107, 3) := by decide +kernel
theorem dX4_sideBySide_77 : decode cX4_sideBySide 77 = .ok (.bipush 45, 2) := by decide +kernel
theorem dX4_sideBySide_79 : decode cX4_sideBySide 79 = .ok (.aload_n 0, 1) := by decide +kernel
theorem dX4_sideBySide_80 : decode cX4_sideBySide 80 = .ok (.iload 7, 2) := by decide +kernel
theorem dX4_sideBySide_82 : decode cX4_sideBySide 82 = .ok (.invokevirtual 60, 3) := by decide +kernel
theorem dX4_sideBySide_85 : decode cX4_sideBySide 85 = .ok (.iadd, 1) := by decide +kernel
theorem dX4_sideBySide_86 : decode cX4_sideBySide 86 = .ok (.iload 8, 2) := by decide +kernel
theorem dX4_sideBySide_88 : decode cX4_sideBySide 88 = .ok (.iadd, 1) := by decide +kernel
theorem dX4_sideBySide_89 : decode cX4_sideBySide 89 = .ok (.istore 9, 2) := by decide +kernel
theorem dX4_sideBySide_91 : decode cX4_sideBySide 91 = .ok (.aload_n 0, 1) := by decide +kernel
theorem dX4_sideBySide_92 : decode cX4_sideBySide 92 = .ok (.getfield 7, 3) := by decide +kernel
theorem dX4_sideBySide_95 : decode cX4_sideBySide 95 = .ok (.iload 9, 2) := by decide +kernel
theorem dX4_sideBySide_97 : decode cX4_sideBySide 97 = .ok (.iaload, 1) := by decide +kernel
theorem dX4_sideBySide_98 : decode cX4_sideBySide 98 = .ok (.iload_n 1, 1) := by decide +kernel
theorem dX4_sideBySide_99 : decode cX4_sideBySide 99 = .ok (.if_icmp .ne 20, 3) := by decide +kernel
theorem dX4_sideBySide_102 : decode cX4_sideBySide 102 = .ok (.aload_n 0, 1) := by decide +kernel
theorem dX4_sideBySide_103 : decode cX4_sideBySide 103 = .ok (.getfield 7, 3) := by decide +kernel
theorem dX4_sideBySide_106 : decode cX4_sideBySide 106 = .ok (.iload 9, 2) := by decide +kernel
theorem dX4_sideBySide_108 : decode cX4_sideBySide 108 = .ok (.iconst 1, 1) := by decide +kernel
theorem dX4_sideBySide_109 : decode cX4_sideBySide 109 = .ok (.iadd, 1) := by decide +kernel
theorem dX4_sideBySide_110 : decode cX4_sideBySide 110 = .ok (.iaload, 1) := by decide +kernel
theorem dX4_sideBySide_111 : decode cX4_sideBySide 111 = .ok (.iload_n 2, 1) := by decide +kernel
theorem dX4_sideBySide_112 : decode cX4_sideBySide 112 = .ok (.if_icmp .ne 7, 3) := by decide +kernel
theorem dX4_sideBySide_115 : decode cX4_sideBySide 115 = .ok (.iconst 1, 1) := by decide +kernel
theorem dX4_sideBySide_116 : decode cX4_sideBySide 116 = .ok (.goto 4, 3) := by decide +kernel
theorem dX4_sideBySide_119 : decode cX4_sideBySide 119 = .ok (.iconst 0, 1) := by decide +kernel
theorem dX4_sideBySide_120 : decode cX4_sideBySide 120 = .ok (.istore 10, 2) := by decide +kernel
theorem dX4_sideBySide_122 : decode cX4_sideBySide 122 = .ok (.iload 10, 2) := by decide +kernel
theorem dX4_sideBySide_124 : decode cX4_sideBySide 124 = .ok (.ifCond .eq 13, 3) := by decide +kernel
theorem dX4_sideBySide_127 : decode cX4_sideBySide 127 = .ok (.iload 4, 2) := by decide +kernel
theorem dX4_sideBySide_129 : decode cX4_sideBySide 129 = .ok (.ifCond .ne 8, 3) := by decide +kernel
theorem dX4_sideBySide_132 : decode cX4_sideBySide 132 = .ok (.iload 8, 2) := by decide +kernel
theorem dX4_sideBySide_134 : decode cX4_sideBySide 134 = .ok (.goto 5, 3) := by decide +kernel
theorem dX4_sideBySide_137 : decode cX4_sideBySide 137 = .ok (.iload 6, 2) := by decide +kernel
theorem dX4_sideBySide_139 : decode cX4_sideBySide 139 = .ok (.istore 6, 2) := by decide +kernel
theorem dX4_sideBySide_141 : decode cX4_sideBySide 141 = .ok (.iload 10, 2) := by decide +kernel
theorem dX4_sideBySide_143 : decode cX4_sideBySide 143 = .ok (.ifCond .eq 13, 3) := by decide +kernel
theorem dX4_sideBySide_146 : decode cX4_sideBySide 146 = .ok (.iload 4, 2) := by decide +kernel
theorem dX4_sideBySide_148 : decode cX4_sideBySide 148 = .ok (.ifCond .ne 8, 3) := by decide +kernel
theorem dX4_sideBySide_151 : decode cX4_sideBySide 151 = .ok (.iload 7, 2) := by decide +kernel
theorem dX4_sideBySide_153 : decode cX4_sideBySide 153 = .ok (.goto 5, 3) := by decide +kernel
theorem dX4_sideBySide_156 : decode cX4_sideBySide 156 = .ok (.iload 5, 2) := by decide +kernel
theorem dX4_sideBySide_158 : decode cX4_sideBySide 158 = .ok (.istore 5, 2) := by decide +kernel
theorem dX4_sideBySide_160 : decode cX4_sideBySide 160 = .ok (.iload 4, 2) := by decide +kernel
theorem dX4_sideBySide_162 : decode cX4_sideBySide 162 = .ok (.iload 10, 2) := by decide +kernel
theorem dX4_sideBySide_164 : decode cX4_sideBySide 164 = .ok (.ifCond .eq 7, 3) := by decide +kernel
theorem dX4_sideBySide_167 : decode cX4_sideBySide 167 = .ok (.iconst 1, 1) := by decide +kernel
theorem dX4_sideBySide_168 : decode cX4_sideBySide 168 = .ok (.goto 4, 3) := by decide +kernel
theorem dX4_sideBySide_171 : decode cX4_sideBySide 171 = .ok (.iconst 0, 1) := by decide +kernel
theorem dX4_sideBySide_172 : decode cX4_sideBySide 172 = .ok (.iadd, 1) := by decide +kernel
theorem dX4_sideBySide_173 : decode cX4_sideBySide 173 = .ok (.istore 4, 2) := by decide +kernel
theorem dX4_sideBySide_175 : decode cX4_sideBySide 175 = .ok (.iinc 8 1, 3) := by decide +kernel
theorem dX4_sideBySide_178 : decode cX4_sideBySide 178 = .ok (.goto (-118), 3) := by decide +kernel
theorem dX4_sideBySide_181 : decode cX4_sideBySide 181 = .ok (.iinc 7 1, 3) := by decide +kernel
theorem dX4_sideBySide_184 : decode cX4_sideBySide 184 = .ok (.goto (-138), 3) := by decide +kernel
theorem dX4_sideBySide_187 : decode cX4_sideBySide 187 = .ok (.iload_n 3, 1) := by decide +kernel
theorem dX4_sideBySide_188 : decode cX4_sideBySide 188 = .ok (.ifCond .ne 8, 3) := by decide +kernel
theorem dX4_sideBySide_191 : decode cX4_sideBySide 191 = .ok (.iload 4, 2) := by decide +kernel
theorem dX4_sideBySide_193 : decode cX4_sideBySide 193 = .ok (.goto 15, 3) := by decide +kernel
theorem dX4_sideBySide_196 : decode cX4_sideBySide 196 = .ok (.iload_n 3, 1) := by decide +kernel
theorem dX4_sideBySide_197 : decode cX4_sideBySide 197 = .ok (.iconst 1, 1) := by decide +kernel
theorem dX4_sideBySide_198 : decode cX4_sideBySide 198 = .ok (.if_icmp .ne 8, 3) := by decide +kernel
theorem dX4_sideBySide_201 : decode cX4_sideBySide 201 = .ok (.iload 5, 2) := by decide +kernel
theorem dX4_sideBySide_203 : decode cX4_sideBySide 203 = .ok (.goto 5, 3) := by decide +kernel
theorem dX4_sideBySide_206 : decode cX4_sideBySide 206 = .ok (.iload 6, 2) := by decide +kernel
theorem dX4_sideBySide_208 : decode cX4_sideBySide 208 = .ok (.ireturn, 1) := by decide +kernel
set_option maxRecDepth 20000 in
theorem ggX4_common_X4_isStory : GoodIn wsX4_common wsX4_isStory := goodIn_r _ [6, 1, 7, 8, 5, 9, 14, 15, 16, 17, 18, 19, 20, 21, 22, 23, 24, 25, 26, 27, 28, 29, 30, 31, 32, 33, 34] (by decide +kernel) (by decide +kernel)
set_option maxRecDepth 20000 in
theorem gX4_common_X4_isStory : GoodIn wsX4_common (wsV RX4 48 RX4 yX4_isStory wsX4_isStory) := goodIn_app (goodIn_of _ (by decide +kernel)) ggX4_common_X4_isStory
set_option maxRecDepth 20000 in
theorem ggX4_common_X4_first : GoodIn wsX4_common wsX4_first := goodIn_r _ [13, 1, 14, 15, 16, 17, 18, 19, 20, 21, 22, 23, 24, 25, 26, 27, 28, 29, 30, 31, 32, 33, 34] (by decide +kernel) (by decide +kernel)
set_option maxRecDepth 20000 in
theorem gX4_common_X4_first : GoodIn wsX4_common (wsV RX4 60 RX4 yX4_first wsX4_first) := goodIn_app (goodIn_of _ (by decide +kernel)) ggX4_common_X4_first
theorem dX4_common_0 : decode cX4_common 0 = .ok (.aload_n 0, 1) := by decide +kernel
theorem dX4_common_1 : decode cX4_common 1 = .ok (.iload_n 1, 1) := by decide +kernel
theorem dX4_common_2 : decode cX4_common 2 = .ok (.invokevirtual 48, 3) := by decide +kernel
theorem dX4_common_5 : decode cX4_common 5 = .ok (.ifCond .eq 11, 3) := by decide +kernel
theorem dX4_common_8 : decode cX4_common 8 = .ok (.aload_n 0, 1) := by decide +kernel
theorem dX4_common_9 : decode cX4_common 9 = .ok (.iload_n 2, 1) := by decide +kernel
theorem dX4_common_10 : decode cX4_common 10 = .ok (.invokevirtual 48, 3) := by decide +kernel
theorem dX4_common_13 : decode cX4_common 13 = .ok (.ifCond .ne 5, 3) := by decide +kernel
theorem dX4_common_16 : decode cX4_common 16 = .ok (.iconst (-1), 1) := by decide +kernel
theorem dX4_common_17 : decode cX4_common 17 = .ok (.ireturn, 1) := by decide +kernel
theorem dX4_common_18 : decode cX4_common 18 = .ok (.iconst 0, 1) := by decide +kernel
theorem dX4_common_19 : decode cX4_common 19 = .ok (.istore_n 3, 1) := by decide +kernel
theorem dX4_common_20 : decode cX4_common 20 = .ok (.bipush 45, 2) := by decide +kernel
theorem dX4_common_22 : decode cX4_common 22 = .ok (.aload_n 0, 1) := by decide +kernel
theorem dX4_common_23 : decode cX4_common 23 = .ok (.iload_n 1, 1) := by decide +kernel
theorem dX4_common_24 : decode cX4_common 24 = .ok (.invokevirtual 60, 3) := by decide +kernel
theorem dX4_common_27 : decode cX4_common 27 = .ok (.iadd, 1) := by decide +kernel
theorem dX4_common_28 : decode cX4_common 28 = .ok (.istore 4, 2) := by decide +kernel
theorem dX4_common_30 : decode cX4_common 30 = .ok (.bipush 45, 2) := by decide +kernel
theorem dX4_common_32 : decode cX4_common 32 = .ok (.aload_n 0, 1) := by decide +kernel
theorem dX4_common_33 : decode cX4_common 33 = .ok (.iload_n 2, 1) := by decide +kernel
theorem dX4_common_34 : decode cX4_common 34 = .ok (.invokevirtual 60, 3) := by decide +kernel
theorem dX4_common_37 : decode cX4_common 37 = .ok (.iadd, 1) := by decide +kernel
theorem dX4_common_38 : decode cX4_common 38 = .ok (.istore 5, 2) := by decide +kernel
theorem dX4_common_40 : decode cX4_common 40 = .ok (.iconst 0, 1) := by decide +kernel
theorem dX4_common_41 : decode cX4_common 41 = .ok (.istore 6, 2) := by decide +kernel
theorem dX4_common_43 : decode cX4_common 43 = .ok (.iload 6, 2) := by decide +kernel
theorem dX4_common_45 : decode cX4_common 45 = .ok (.aload_n 0, 1) := by decide +kernel
theorem dX4_common_46 : decode cX4_common 46 = .ok (.getfield 7, 3) := by decide +kernel
theorem dX4_common_49 : decode cX4_common 49 = .ok (.bipush 9, 2) := by decide +kernel
theorem dX4_common_51 : decode cX4_common 51 = .ok (.iload_n 1, 1) := by decide +kernel
theorem dX4_common_52 : decode cX4_common 52 = .ok (.iadd, 1) := by decide +kernel
theorem dX4_common_53 : decode cX4_common 53 = .ok (.iaload, 1) := by decide +kernel
theorem dX4_common_54 : decode cX4_common 54 = .ok (.if_icmp .ge 117, 3) := by decide +kernel
theorem dX4_common_57 : decode cX4_common 57 = .ok (.iconst 0, 1) := by decide +kernel
theorem dX4_common_58 : decode cX4_common 58 = .ok (.istore 7, 2) := by decide +kernel
theorem dX4_common_60 : decode cX4_common 60 = .ok (.iload 7, 2) := by decide +kernel
theorem dX4_common_62 : decode cX4_common 62 = .ok (.aload_n 0, 1) := by decide +kernel
theorem dX4_common_63 : decode cX4_common 63 = .ok (.getfield 7, 3) := by decide +kernel
theorem dX4_common_66 : decode cX4_common 66 = .ok (.bipush 9, 2) := by decide +kernel
theorem dX4_common_68 : decode cX4_common 68 = .ok (.iload_n 2, 1) := by decide +kernel
theorem dX4_common_69 : decode cX4_common 69 = .ok (.iadd, 1) := by decide +kernel
theorem dX4_common_70 : decode cX4_common 70 = .ok (.iaload, 1) := by decide +kernel
theorem dX4_common_71 : decode cX4_common 71 = .ok (.if_icmp .ge 94, 3) := by decide +kernel
theorem dX4_common_74 : decode cX4_common 74 = .ok (.iconst 0, 1) := by decide +kernel
theorem dX4_common_75 : decode cX4_common 75 = .ok (.istore 8, 2) := by decide +kernel
theorem dX4_common_77 : decode cX4_common 77 = .ok (.iload 6, 2) := by decide +kernel
theorem dX4_common_79 : decode cX4_common 79 = .ok (.iload 8, 2) := by decide +kernel
theorem dX4_common_81 : decode cX4_common 81 = .ok (.iadd, 1) := by decide +kernel
theorem dX4_common_82 : decode cX4_common 82 = .ok (.aload_n 0, 1) := by decide +kernel
theorem dX4_common_83 : decode cX4_common 83 = .ok (.getfield 7, 3) := by decide +kernel
theorem dX4_common_86 : decode cX4_common 86 = .ok (.bipush 9, 2) := by decide +kernel
theorem dX4_common_88 : decode cX4_common 88 = .ok (.iload_n 1, 1) := by decide +kernel
theorem dX4_common_89 : decode cX4_common 89 = .ok (.iadd, 1) := by decide +kernel
theorem dX4_common_90 : decode cX4_common 90 = .ok (.iaload, 1) := by decide +kernel
theorem dX4_common_91 : decode cX4_common 91 = .ok (.if_icmp .ge 55, 3) := by decide +kernel
theorem dX4_common_94 : decode cX4_common 94 = .ok (.iload 7, 2) := by decide +kernel
theorem dX4_common_96 : decode cX4_common 96 = .ok (.iload 8, 2) := by decide +kernel
theorem dX4_common_98 : decode cX4_common 98 = .ok (.iadd, 1) := by decide +kernel
theorem dX4_common_99 : decode cX4_common 99 = .ok (.aload_n 0, 1) := by decide +kernel
theorem dX4_common_100 : decode cX4_common 100 = .ok (.getfield 7, 3) := by decide +kernel
theorem dX4_common_103 : decode cX4_common 103 = .ok (.bipush 9, 2) := by decide +kernel
theorem dX4_common_105 : decode cX4_common 105 = .ok (.iload_n 2, 1) := by decide +kernel
theorem dX4_common_106 : decode cX4_common 106 = .ok (.iadd, 1) := by decide +kernel
theorem dX4_common_107 : decode cX4_common 107 = .ok (.iaload, 1) := by decide +kernel
theorem dX4_common_108 : decode cX4_common 108 = .ok (.if_icmp .ge 38, 3) := by decide +kernel
theorem dX4_common_111 : decode cX4_common 111 = .ok (.aload_n 0, 1) := by decide +kernel
theorem dX4_common_112 : decode cX4_common 112 = .ok (.getfield 7, 3) := by decide +kernel
theorem dX4_common_115 : decode cX4_common 115 = .ok (.iload 4, 2) := by decide +kernel
theorem dX4_common_117 : decode cX4_common 117 = .ok (.iload 6, 2) := by decide +kernel
theorem dX4_common_119 : decode cX4_common 119 = .ok (.iadd, 1) := by decide +kernel
theorem dX4_common_120 : decode cX4_common 120 = .ok (.iload 8, 2) := by decide +kernel
theorem dX4_common_122 : decode cX4_common 122 = .ok (.iadd, 1) := by decide +kernel
theorem dX4_common_123 : decode cX4_common 123 = .ok (.iaload, 1) := by decide +kernel
theorem dX4_common_124 : decode cX4_common 124 = .ok (.aload_n 0, 1) := by decide +kernel
theorem dX4_common_125 : decode cX4_common 125 = .ok (.getfield 7, 3) := by decide +kernel
theorem dX4_common_128 : decode cX4_common 128 = .ok (.iload 5, 2) := by decide +kernel
theorem dX4_common_130 : decode cX4_common 130 = .ok (.iload 7, 2) := by decide +kernel
theorem dX4_common_132 : decode cX4_common 132 = .ok (.iadd, 1) := by decide +kernel
theorem dX4_common_133 : decode cX4_common 133 = .ok (.iload 8, 2) := by decide +kernel
theorem dX4_common_135 : decode cX4_common 135 = .ok (.iadd, 1) := by decide +kernel
theorem dX4_common_136 : decode cX4_common 136 = .ok (.iaload, 1) := by decide +kernel
theorem dX4_common_137 : decode cX4_common 137 = .ok (.if_icmp .ne 9, 3) := by decide +kernel
theorem dX4_common_140 : decode cX4_common 140 = .ok (.iinc 8 1, 3) := by decide +kernel
theorem dX4_common_143 : decode cX4_common 143 = .ok (.goto (-66), 3) := by decide +kernel
theorem dX4_common_146 : decode cX4_common 146 = .ok (.iload 8, 2) := by decide +kernel
theorem dX4_common_148 : decode cX4_common 148 = .ok (.iload_n 3, 1) := by decide +kernel
theorem dX4_common_149 : decode cX4_common 149 = .ok (.if_icmp .le 8, 3) := by decide +kernel
theorem dX4_common_152 : decode cX4_common 152 = .ok (.iload 8, 2) := by decide +kernel
theorem dX4_common_154 : decode cX4_common 154 = .ok (.goto 4, 3) := by decide +kernel
theorem dX4_common_157 : decode cX4_common 157 = .ok (.iload_n 3, 1) := by decide +kernel
theorem dX4_common_158 : decode cX4_common 158 = .ok (.istore_n 3, 1) := by decide +kernel
theorem dX4_common_159 : decode cX4_common 159 = .ok (.iinc 7 1, 3) := by decide +kernel
theorem dX4_common_162 : decode cX4_common 162 = .ok (.goto (-102), 3) := by decide +kernel
theorem dX4_common_165 : decode cX4_common 165 = .ok (.iinc 6 1, 3) := by decide +kernel
theorem dX4_common_168 : decode cX4_common 168 = .ok (.goto (-125), 3) := by decide +kernel
theorem dX4_common_171 : decode cX4_common 171 = .ok (.iload_n 3, 1) := by decide +kernel
theorem dX4_common_172 : decode cX4_common 172 = .ok (.ireturn, 1) := by decide +kernel
set_option maxRecDepth 20000 in
theorem ggX4_tryHeat_X4_putAside : GoodIn wsX4_tryHeat wsX4_putAside := goodIn_r _ [11, 3, 2, 44, 45, 46, 47, 48, 49, 50, 51, 52, 53, 54, 55, 56, 57, 58, 59, 60, 61, 62, 63, 64] (by decide +kernel) (by decide +kernel)
set_option maxRecDepth 20000 in
theorem gX4_tryHeat_X4_putAside : GoodIn wsX4_tryHeat (wsV RX4 122 RX4 yX4_putAside wsX4_putAside) := goodIn_app (goodIn_of _ (by decide +kernel)) ggX4_tryHeat_X4_putAside
set_option maxRecDepth 20000 in
theorem ggX4_tryHeat_X4_warm : GoodIn wsX4_tryHeat wsX4_warm := goodIn_r _ [15, 2, 44, 45, 46, 47, 48, 49, 50, 51, 52, 53, 54, 55, 56, 57, 58, 59, 60, 61, 62, 63, 64] (by decide +kernel) (by decide +kernel)
set_option maxRecDepth 20000 in
theorem gX4_tryHeat_X4_warm : GoodIn wsX4_tryHeat (wsV RX4 67 RX4 yX4_warm wsX4_warm) := goodIn_app (goodIn_of _ (by decide +kernel)) ggX4_tryHeat_X4_warm
set_option maxRecDepth 20000 in
theorem ggX4_tryHeat_X4_react : GoodIn wsX4_tryHeat wsX4_react := goodIn_r _ [19, 2, 20, 21, 22, 10, 23, 24, 25, 26, 27, 28, 29, 30, 31, 32, 33, 34, 35, 12, 13, 14, 15, 44, 45, 46, 47, 48, 49, 50, 51, 52, 53, 54, 55, 56, 57, 58, 59, 60, 61, 62, 63, 64] (by decide +kernel) (by decide +kernel)
set_option maxRecDepth 20000 in
theorem gX4_tryHeat_X4_react : GoodIn wsX4_tryHeat (wsV RX4 85 RX4 yX4_react wsX4_react) := goodIn_app (goodIn_of _ (by decide +kernel)) ggX4_tryHeat_X4_react
set_option maxRecDepth 20000 in
theorem ggX4_tryHeat_X4_allHeat : GoodIn wsX4_tryHeat wsX4_allHeat := goodIn_r _ [39, 2, 44, 45, 46, 47, 48, 49, 50, 51, 52, 53, 54, 55, 56, 57, 58, 59, 60, 61, 62, 63, 64] (by decide +kernel) (by decide +kernel)
set_option maxRecDepth 20000 in
theorem gX4_tryHeat_X4_allHeat : GoodIn wsX4_tryHeat (wsV RX4 98 RX4 yX4_allHeat wsX4_allHeat) := goodIn_app (goodIn_of _ (by decide +kernel)) ggX4_tryHeat_X4_allHeat
set_option maxRecDepth 20000 in
theorem ggX4_tryHeat_X4_putBack : GoodIn wsX4_tryHeat wsX4_putBack := goodIn_r _ [43, 2, 3, 44, 45, 46, 47, 48, 49, 50, 51, 52, 53, 54, 55, 56, 57, 58, 59, 60, 61, 62, 63, 64] (by decide +kernel) (by decide +kernel)
set_option maxRecDepth 20000 in
theorem gX4_tryHeat_X4_putBack : GoodIn wsX4_tryHeat (wsV RX4 137 RX4 yX4_putBack wsX4_putBack) := goodIn_app (goodIn_of _ (by decide +kernel)) ggX4_tryHeat_X4_putBack
theorem dX4_tryHeat_0 : decode cX4_tryHeat 0 = .ok (.aload_n 0, 1) := by decide +kernel
theorem dX4_tryHeat_1 : decode cX4_tryHeat 1 = .ok (.invokevirtual 122, 3) := by decide +kernel
theorem dX4_tryHeat_4 : decode cX4_tryHeat 4 = .ok (.aload_n 0, 1) := by decide +kernel
theorem dX4_tryHeat_5 : decode cX4_tryHeat 5 = .ok (.iload_n 1, 1) := by decide +kernel
theorem dX4_tryHeat_6 : decode cX4_tryHeat 6 = .ok (.iload_n 2, 1) := by decide +kernel
theorem dX4_tryHeat_7 : decode cX4_tryHeat 7 = .ok (.invokevirtual 67, 3) := by decide +kernel
theorem dX4_tryHeat_10 : decode cX4_tryHeat 10 = .ok (.aload_n 0, 1) := by decide +kernel
theorem dX4_tryHeat_11 : decode cX4_tryHeat 11 = .ok (.aload_n 0, 1) := by decide +kernel
theorem dX4_tryHeat_12 : decode cX4_tryHeat 12 = .ok (.invokevirtual 85, 3) := by decide +kernel
theorem dX4_tryHeat_15 : decode cX4_tryHeat 15 = .ok (.putfield 125, 3) := by decide +kernel
theorem dX4_tryHeat_18 : decode cX4_tryHeat 18 = .ok (.aload_n 0, 1) := by decide +kernel
theorem dX4_tryHeat_19 : decode cX4_tryHeat 19 = .ok (.aload_n 0, 1) := by decide +kernel
theorem dX4_tryHeat_20 : decode cX4_tryHeat 20 = .ok (.getfield 7, 3) := by decide +kernel
theorem dX4_tryHeat_23 : decode cX4_tryHeat 23 = .ok (.bipush 6, 2) := by decide +kernel
theorem dX4_tryHeat_25 : decode cX4_tryHeat 25 = .ok (.iaload, 1) := by decide +kernel
theorem dX4_tryHeat_26 : decode cX4_tryHeat 26 = .ok (.aload_n 0, 1) := by decide +kernel
theorem dX4_tryHeat_27 : decode cX4_tryHeat 27 = .ok (.getfield 13, 3) := by decide +kernel
theorem dX4_tryHeat_30 : decode cX4_tryHeat 30 = .ok (.bipush 6, 2) := by decide +kernel
theorem dX4_tryHeat_32 : decode cX4_tryHeat 32 = .ok (.iaload, 1) := by decide +kernel
theorem dX4_tryHeat_33 : decode cX4_tryHeat 33 = .ok (.isub, 1) := by decide +kernel
theorem dX4_tryHeat_34 : decode cX4_tryHeat 34 = .ok (.putfield 128, 3) := by decide +kernel
theorem dX4_tryHeat_37 : decode cX4_tryHeat 37 = .ok (.aload_n 0, 1) := by decide +kernel
theorem dX4_tryHeat_38 : decode cX4_tryHeat 38 = .ok (.aload_n 0, 1) := by decide +kernel
theorem dX4_tryHeat_39 : decode cX4_tryHeat 39 = .ok (.getfield 7, 3) := by decide +kernel
theorem dX4_tryHeat_42 : decode cX4_tryHeat 42 = .ok (.iconst 3, 1) := by decide +kernel
theorem dX4_tryHeat_43 : decode cX4_tryHeat 43 = .ok (.iaload, 1) := by decide +kernel
theorem dX4_tryHeat_44 : decode cX4_tryHeat 44 = .ok (.putfield 131, 3) := by decide +kernel
theorem dX4_tryHeat_47 : decode cX4_tryHeat 47 = .ok (.aload_n 0, 1) := by decide +kernel
theorem dX4_tryHeat_48 : decode cX4_tryHeat 48 = .ok (.aload_n 0, 1) := by decide +kernel
theorem dX4_tryHeat_49 : decode cX4_tryHeat 49 = .ok (.invokevirtual 98, 3) := by decide +kernel
theorem dX4_tryHeat_52 : decode cX4_tryHeat 52 = .ok (.putfield 134, 3) := by decide +kernel
theorem dX4_tryHeat_55 : decode cX4_tryHeat 55 = .ok (.aload_n 0, 1) := by decide +kernel
theorem dX4_tryHeat_56 : decode cX4_tryHeat 56 = .ok (.invokevirtual 137, 3) := by decide +kernel
theorem dX4_tryHeat_59 : decode cX4_tryHeat 59 = .ok (.return_, 1) := by decide +kernel
set_option maxRecDepth 20000 in
theorem ggX4_ifHeated_X4_isWord : GoodIn wsX4_ifHeated wsX4_isWord := goodIn_r _ [9, 10, 11, 12, 13, 8, 14, 15, 16, 17, 59, 60, 61, 62, 63, 64, 65, 66, 67, 68, 69, 70, 71, 72, 73, 74, 75, 76, 77, 78, 79] (by decide +kernel) (by decide +kernel)
set_option maxRecDepth 20000 in
theorem gX4_ifHeated_X4_isWord : GoodIn wsX4_ifHeated (wsV RX4 81 RX4 yX4_isWord wsX4_isWord) := goodIn_app (goodIn_of _ (by decide +kernel)) ggX4_ifHeated_X4_isWord
set_option maxRecDepth 20000 in
theorem ggX4_ifHeated_X4_in : GoodIn wsX4_ifHeated wsX4_in := goodIn_r _ [17] (by decide +kernel) (by decide +kernel)
set_option maxRecDepth 20000 in
theorem gX4_ifHeated_X4_in : GoodIn wsX4_ifHeated (va_wsS RX4 44 yX4_in wsX4_in) := goodIn_app (goodIn_of _ (by decide +kernel)) ggX4_ifHeated_X4_in
set_option maxRecDepth 20000 in
theorem ggX4_ifHeated_X4_first : GoodIn wsX4_ifHeated wsX4_first := goodIn_r _ [21, 10, 59, 60, 61, 62, 63, 64, 65, 66, 67, 68, 69, 70, 71, 72, 73, 74, 75, 76, 77, 78, 79] (by decide +kernel) (by decide +kernel)
set_option maxRecDepth 20000 in
theorem gX4_ifHeated_X4_first : GoodIn wsX4_ifHeated (wsV RX4 60 RX4 yX4_first wsX4_first) := goodIn_app (goodIn_of _ (by decide +kernel)) ggX4_ifHeated_X4_first
set_option maxRecDepth 20000 in
theorem ggX4_ifHeated_X4_tryHeat : GoodIn wsX4_ifHeated wsX4_tryHeat := goodIn_r _ [25, 1, 10, 26, 2, 3, 4, 27, 28, 29, 8, 30, 31, 32, 33, 34, 35, 36, 37, 38, 39, 40, 41, 42, 43, 44, 45, 46, 18, 19, 20, 21, 47, 48, 49, 50, 51, 52, 53, 54, 55, 56, 57, 58, 59, 60, 61, 62, 63, 64, 65, 66, 67, 68, 69, 70, 71, 72, 73, 74, 75, 76, 77, 78, 79] (by decide +kernel) (by decide +kernel)
set_option maxRecDepth 20000 in
theorem gX4_ifHeated_X4_tryHeat : GoodIn wsX4_ifHeated (wsV RX4 140 RX4 yX4_tryHeat wsX4_tryHeat) := goodIn_app (goodIn_of _ (by decide +kernel)) ggX4_ifHeated_X4_tryHeat
theorem dX4_ifHeated_0 : decode cX4_ifHeated 0 = .ok (.aload_n 0, 1) := by decide +kernel
theorem dX4_ifHeated_1 : decode cX4_ifHeated 1 = .ok (.iload_n 1, 1) := by decide +kernel
theorem dX4_ifHeated_2 : decode cX4_ifHeated 2 = .ok (.iload_n 2, 1) := by decide +kernel
theorem dX4_ifHeated_3 : decode cX4_ifHeated 3 = .ok (.invokevirtual 81, 3) := by decide +kernel
theorem dX4_ifHeated_6 : decode cX4_ifHeated 6 = .ok (.ifCond .ne 5, 3) := by decide +kernel
theorem dX4_ifHeated_9 : decode cX4_ifHeated 9 = .ok (.iconst (-1), 1) := by decide +kernel
theorem dX4_ifHeated_10 : decode cX4_ifHeated 10 = .ok (.ireturn, 1) := by decide +kernel
theorem dX4_ifHeated_11 : decode cX4_ifHeated 11 = .ok (.iload_n 3, 1) := by decide +kernel
theorem dX4_ifHeated_12 : decode cX4_ifHeated 12 = .ok (.iconst 1, 1) := by decide +kernel
theorem dX4_ifHeated_13 : decode cX4_ifHeated 13 = .ok (.sipush 500, 3) := by decide +kernel
theorem dX4_ifHeated_16 : decode cX4_ifHeated 16 = .ok (.invokestatic 44, 3) := by decide +kernel
theorem dX4_ifHeated_19 : decode cX4_ifHeated 19 = .ok (.ifCond .eq 13, 3) := by decide +kernel
theorem dX4_ifHeated_22 : decode cX4_ifHeated 22 = .ok (.iload 4, 2) := by decide +kernel
theorem dX4_ifHeated_24 : decode cX4_ifHeated 24 = .ok (.iconst 0, 1) := by decide +kernel
theorem dX4_ifHeated_25 : decode cX4_ifHeated 25 = .ok (.iconst 3, 1) := by decide +kernel
theorem dX4_ifHeated_26 : decode cX4_ifHeated 26 = .ok (.invokestatic 44, 3) := by decide +kernel
theorem dX4_ifHeated_29 : decode cX4_ifHeated 29 = .ok (.ifCond .ne 6, 3) := by decide +kernel
theorem dX4_ifHeated_32 : decode cX4_ifHeated 32 = .ok (.bipush (-2), 2) := by decide +kernel
theorem dX4_ifHeated_34 : decode cX4_ifHeated 34 = .ok (.ireturn, 1) := by decide +kernel
theorem dX4_ifHeated_35 : decode cX4_ifHeated 35 = .ok (.aload_n 0, 1) := by decide +kernel
theorem dX4_ifHeated_36 : decode cX4_ifHeated 36 = .ok (.aload_n 0, 1) := by decide +kernel
theorem dX4_ifHeated_37 : decode cX4_ifHeated 37 = .ok (.iload_n 1, 1) := by decide +kernel
theorem dX4_ifHeated_38 : decode cX4_ifHeated 38 = .ok (.invokevirtual 60, 3) := by decide +kernel
theorem dX4_ifHeated_41 : decode cX4_ifHeated 41 = .ok (.iload_n 2, 1) := by decide +kernel
theorem dX4_ifHeated_42 : decode cX4_ifHeated 42 = .ok (.iadd, 1) := by decide +kernel
theorem dX4_ifHeated_43 : decode cX4_ifHeated 43 = .ok (.iload_n 3, 1) := by decide +kernel
theorem dX4_ifHeated_44 : decode cX4_ifHeated 44 = .ok (.invokevirtual 140, 3) := by decide +kernel
theorem dX4_ifHeated_47 : decode cX4_ifHeated 47 = .ok (.iload 4, 2) := by decide +kernel
theorem dX4_ifHeated_49 : decode cX4_ifHeated 49 = .ok (.ifCond .ne 10, 3) := by decide +kernel
theorem dX4_ifHeated_52 : decode cX4_ifHeated 52 = .ok (.aload_n 0, 1) := by decide +kernel
theorem dX4_ifHeated_53 : decode cX4_ifHeated 53 = .ok (.getfield 125, 3) := by decide +kernel
theorem dX4_ifHeated_56 : decode cX4_ifHeated 56 = .ok (.goto 33, 3) := by decide +kernel
theorem dX4_ifHeated_59 : decode cX4_ifHeated 59 = .ok (.iload 4, 2) := by decide +kernel
theorem dX4_ifHeated_61 : decode cX4_ifHeated 61 = .ok (.iconst 1, 1) := by decide +kernel
theorem dX4_ifHeated_62 : decode cX4_ifHeated 62 = .ok (.if_icmp .ne 10, 3) := by decide +kernel
theorem dX4_ifHeated_65 : decode cX4_ifHeated 65 = .ok (.aload_n 0, 1) := by decide +kernel
theorem dX4_ifHeated_66 : decode cX4_ifHeated 66 = .ok (.getfield 128, 3) := by decide +kernel
theorem dX4_ifHeated_69 : decode cX4_ifHeated 69 = .ok (.goto 20, 3) := by decide +kernel
theorem dX4_ifHeated_72 : decode cX4_ifHeated 72 = .ok (.iload 4, 2) := by decide +kernel
theorem dX4_ifHeated_74 : decode cX4_ifHeated 74 = .ok (.iconst 2, 1) := by decide +kernel
theorem dX4_ifHeated_75 : decode cX4_ifHeated 75 = .ok (.if_icmp .ne 10, 3) := by decide +kernel
theorem dX4_ifHeated_78 : decode cX4_ifHeated 78 = .ok (.aload_n 0, 1) := by decide +kernel
theorem dX4_ifHeated_79 : decode cX4_ifHeated 79 = .ok (.getfield 131, 3) := by decide +kernel
theorem dX4_ifHeated_82 : decode cX4_ifHeated 82 = .ok (.goto 7, 3) := by decide +kernel
theorem dX4_ifHeated_85 : decode cX4_ifHeated 85 = .ok (.aload_n 0, 1) := by decide +kernel
theorem dX4_ifHeated_86 : decode cX4_ifHeated 86 = .ok (.getfield 134, 3) := by decide +kernel
theorem dX4_ifHeated_89 : decode cX4_ifHeated 89 = .ok (.ireturn, 1) := by decide +kernel
set_option maxRecDepth 20000 in
theorem ggX4_critical_X4_isWord : GoodIn wsX4_critical wsX4_isWord := goodIn_r _ [6, 7, 8, 9, 10, 5, 11, 12, 13, 14, 59, 60, 61, 62, 63, 64, 65, 66, 67, 68, 69, 70, 71, 72, 73, 74, 75, 76, 77, 78, 79] (by decide +kernel) (by decide +kernel)
set_option maxRecDepth 20000 in
theorem gX4_critical_X4_isWord : GoodIn wsX4_critical (wsV RX4 81 RX4 yX4_isWord wsX4_isWord) := goodIn_app (goodIn_of _ (by decide +kernel)) ggX4_critical_X4_isWord
set_option maxRecDepth 20000 in
theorem ggX4_critical_X4_first : GoodIn wsX4_critical wsX4_first := goodIn_r _ [18, 7, 59, 60, 61, 62, 63, 64, 65, 66, 67, 68, 69, 70, 71, 72, 73, 74, 75, 76, 77, 78, 79] (by decide +kernel) (by decide +kernel)
set_option maxRecDepth 20000 in
theorem gX4_critical_X4_first : GoodIn wsX4_critical (wsV RX4 60 RX4 yX4_first wsX4_first) := goodIn_app (goodIn_of _ (by decide +kernel)) ggX4_critical_X4_first
set_option maxRecDepth 20000 in
theorem ggX4_critical_X4_tryHeat : GoodIn wsX4_critical wsX4_tryHeat := goodIn_r _ [22, 23, 7, 24, 1, 25, 26, 27, 28, 29, 5, 30, 31, 32, 33, 34, 35, 36, 37, 38, 39, 40, 41, 42, 43, 44, 45, 46, 15, 16, 17, 18, 47, 48, 49, 50, 51, 52, 53, 54, 55, 56, 57, 58, 59, 60, 61, 62, 63, 64, 65, 66, 67, 68, 69, 70, 71, 72, 73, 74, 75, 76, 77, 78, 79] (by decide +kernel) (by decide +kernel)
set_option maxRecDepth 20000 in
theorem gX4_critical_X4_tryHeat : GoodIn wsX4_critical (wsV RX4 140 RX4 yX4_tryHeat wsX4_tryHeat) := goodIn_app (goodIn_of _ (by decide +kernel)) ggX4_critical_X4_tryHeat
theorem dX4_critical_0 : decode cX4_critical 0 = .ok (.aload_n 0, 1) := by decide +kernel
theorem dX4_critical_1 : decode cX4_critical 1 = .ok (.iload_n 1, 1) := by decide +kernel
theorem dX4_critical_2 : decode cX4_critical 2 = .ok (.iload_n 2, 1) := by decide +kernel
theorem dX4_critical_3 : decode cX4_critical 3 = .ok (.invokevirtual 81, 3) := by decide +kernel
theorem dX4_critical_6 : decode cX4_critical 6 = .ok (.ifCond .ne 5, 3) := by decide +kernel
theorem dX4_critical_9 : decode cX4_critical 9 = .ok (.iconst (-1), 1) := by decide +kernel
theorem dX4_critical_10 : decode cX4_critical 10 = .ok (.ireturn, 1) := by decide +kernel
theorem dX4_critical_11 : decode cX4_critical 11 = .ok (.iconst 1, 1) := by decide +kernel
theorem dX4_critical_12 : decode cX4_critical 12 = .ok (.istore_n 3, 1) := by decide +kernel
theorem dX4_critical_13 : decode cX4_critical 13 = .ok (.iload_n 3, 1) := by decide +kernel
theorem dX4_critical_14 : decode cX4_critical 14 = .ok (.sipush 500, 3) := by decide +kernel
theorem dX4_critical_17 : decode cX4_critical 17 = .ok (.if_icmp .gt 30, 3) := by decide +kernel
theorem dX4_critical_20 : decode cX4_critical 20 = .ok (.aload_n 0, 1) := by decide +kernel
theorem dX4_critical_21 : decode cX4_critical 21 = .ok (.aload_n 0, 1) := by decide +kernel
theorem dX4_critical_22 : decode cX4_critical 22 = .ok (.iload_n 1, 1) := by decide +kernel
theorem dX4_critical_23 : decode cX4_critical 23 = .ok (.invokevirtual 60, 3) := by decide +kernel
theorem dX4_critical_26 : decode cX4_critical 26 = .ok (.iload_n 2, 1) := by decide +kernel
theorem dX4_critical_27 : decode cX4_critical 27 = .ok (.iadd, 1) := by decide +kernel
theorem dX4_critical_28 : decode cX4_critical 28 = .ok (.iload_n 3, 1) := by decide +kernel
theorem dX4_critical_29 : decode cX4_critical 29 = .ok (.invokevirtual 140, 3) := by decide +kernel
theorem dX4_critical_32 : decode cX4_critical 32 = .ok (.aload_n 0, 1) := by decide +kernel
theorem dX4_critical_33 : decode cX4_critical 33 = .ok (.getfield 128, 3) := by decide +kernel
theorem dX4_critical_36 : decode cX4_critical 36 = .ok (.ifCond .le 5, 3) := by decide +kernel
theorem dX4_critical_39 : decode cX4_critical 39 = .ok (.iload_n 3, 1) := by decide +kernel
theorem dX4_critical_40 : decode cX4_critical 40 = .ok (.ireturn, 1) := by decide +kernel
theorem dX4_critical_41 : decode cX4_critical 41 = .ok (.iinc 3 1, 3) := by decide +kernel
theorem dX4_critical_44 : decode cX4_critical 44 = .ok (.goto (-31), 3) := by decide +kernel
theorem dX4_critical_47 : decode cX4_critical 47 = .ok (.bipush (-6), 2) := by decide +kernel
theorem dX4_critical_49 : decode cX4_critical 49 = .ok (.ireturn, 1) := by decide +kernel
set_option maxRecDepth 20000 in
theorem ggX4_touchiest_X4_in : GoodIn wsX4_touchiest wsX4_in := goodIn_r _ [6] (by decide +kernel) (by decide +kernel)
set_option maxRecDepth 20000 in
theorem gX4_touchiest_X4_in : GoodIn wsX4_touchiest (va_wsS RX4 44 yX4_in wsX4_in) := goodIn_app (goodIn_of _ (by decide +kernel)) ggX4_touchiest_X4_in
set_option maxRecDepth 20000 in
theorem ggX4_touchiest_X4_tryHeat : GoodIn wsX4_touchiest wsX4_tryHeat := goodIn_r _ [10, 2, 1, 11, 12, 13, 14, 15, 16, 17, 5, 18, 19, 20, 21, 22, 23, 24, 25, 26, 27, 28, 29, 30, 31, 32, 33, 34, 35, 36, 37, 38, 39, 40, 41, 42, 43, 44, 45, 46, 47, 48, 49, 50, 51, 52, 53, 54, 55, 56, 57, 58, 59, 60, 61, 62, 63, 64, 65, 66, 67, 68, 69, 70, 71] (by decide +kernel) (by decide +kernel)
set_option maxRecDepth 20000 in
theorem gX4_touchiest_X4_tryHeat : GoodIn wsX4_touchiest (wsV RX4 140 RX4 yX4_tryHeat wsX4_tryHeat) := goodIn_app (goodIn_of _ (by decide +kernel)) ggX4_touchiest_X4_tryHeat
set_option maxRecDepth 20000 in
theorem ggX4_touchiest_X4_storyOf : GoodIn wsX4_touchiest wsX4_storyOf := goodIn_r _ [34, 1, 51, 52, 53, 54, 55, 56, 57, 58, 59, 60, 61, 62, 63, 64, 65, 66, 67, 68, 69, 70, 71] (by decide +kernel) (by decide +kernel)
set_option maxRecDepth 20000 in
theorem gX4_touchiest_X4_storyOf : GoodIn wsX4_touchiest (wsV RX4 56 RX4 yX4_storyOf wsX4_storyOf) := goodIn_app (goodIn_of _ (by decide +kernel)) ggX4_touchiest_X4_storyOf
set_option maxRecDepth 20000 in
theorem ggX4_touchiest_X4_first : GoodIn wsX4_touchiest wsX4_first := goodIn_r _ [38, 1, 51, 52, 53, 54, 55, 56, 57, 58, 59, 60, 61, 62, 63, 64, 65, 66, 67, 68, 69, 70, 71] (by decide +kernel) (by decide +kernel)
set_option maxRecDepth 20000 in
theorem gX4_touchiest_X4_first : GoodIn wsX4_touchiest (wsV RX4 60 RX4 yX4_first wsX4_first) := goodIn_app (goodIn_of _ (by decide +kernel)) ggX4_touchiest_X4_first
theorem dX4_touchiest_0 : decode cX4_touchiest 0 = .ok (.iload_n 1, 1) := by decide +kernel
theorem dX4_touchiest_1 : decode cX4_touchiest 1 = .ok (.iconst 1, 1) := by decide +kernel
theorem dX4_touchiest_2 : decode cX4_touchiest 2 = .ok (.sipush 500, 3) := by decide +kernel
theorem dX4_touchiest_5 : decode cX4_touchiest 5 = .ok (.invokestatic 44, 3) := by decide +kernel
theorem dX4_touchiest_8 : decode cX4_touchiest 8 = .ok (.ifCond .eq 12, 3) := by decide +kernel
theorem dX4_touchiest_11 : decode cX4_touchiest 11 = .ok (.iload_n 2, 1) := by decide +kernel
theorem dX4_touchiest_12 : decode cX4_touchiest 12 = .ok (.iconst 0, 1) := by decide +kernel
theorem dX4_touchiest_13 : decode cX4_touchiest 13 = .ok (.iconst 2, 1) := by decide +kernel
theorem dX4_touchiest_14 : decode cX4_touchiest 14 = .ok (.invokestatic 44, 3) := by decide +kernel
theorem dX4_touchiest_17 : decode cX4_touchiest 17 = .ok (.ifCond .ne 6, 3) := by decide +kernel
theorem dX4_touchiest_20 : decode cX4_touchiest 20 = .ok (.bipush (-2), 2) := by decide +kernel
theorem dX4_touchiest_22 : decode cX4_touchiest 22 = .ok (.ireturn, 1) := by decide +kernel
theorem dX4_touchiest_23 : decode cX4_touchiest 23 = .ok (.bipush (-6), 2) := by decide +kernel
theorem dX4_touchiest_25 : decode cX4_touchiest 25 = .ok (.istore_n 3, 1) := by decide +kernel
theorem dX4_touchiest_26 : decode cX4_touchiest 26 = .ok (.iconst (-1), 1) := by decide +kernel
theorem dX4_touchiest_27 : decode cX4_touchiest 27 = .ok (.istore 4, 2) := by decide +kernel
theorem dX4_touchiest_29 : decode cX4_touchiest 29 = .ok (.iconst 0, 1) := by decide +kernel
theorem dX4_touchiest_30 : decode cX4_touchiest 30 = .ok (.istore 5, 2) := by decide +kernel
theorem dX4_touchiest_32 : decode cX4_touchiest 32 = .ok (.iload 5, 2) := by decide +kernel
theorem dX4_touchiest_34 : decode cX4_touchiest 34 = .ok (.aload_n 0, 1) := by decide +kernel
theorem dX4_touchiest_35 : decode cX4_touchiest 35 = .ok (.getfield 7, 3) := by decide +kernel
theorem dX4_touchiest_38 : decode cX4_touchiest 38 = .ok (.iconst 4, 1) := by decide +kernel
theorem dX4_touchiest_39 : decode cX4_touchiest 39 = .ok (.iaload, 1) := by decide +kernel
theorem dX4_touchiest_40 : decode cX4_touchiest 40 = .ok (.if_icmp .ge 52, 3) := by decide +kernel
theorem dX4_touchiest_43 : decode cX4_touchiest 43 = .ok (.aload_n 0, 1) := by decide +kernel
theorem dX4_touchiest_44 : decode cX4_touchiest 44 = .ok (.iload 5, 2) := by decide +kernel
theorem dX4_touchiest_46 : decode cX4_touchiest 46 = .ok (.iload_n 1, 1) := by decide +kernel
theorem dX4_touchiest_47 : decode cX4_touchiest 47 = .ok (.invokevirtual 140, 3) := by decide +kernel
theorem dX4_touchiest_50 : decode cX4_touchiest 50 = .ok (.aload_n 0, 1) := by decide +kernel
theorem dX4_touchiest_51 : decode cX4_touchiest 51 = .ok (.getfield 125, 3) := by decide +kernel
theorem dX4_touchiest_54 : decode cX4_touchiest 54 = .ok (.iload 4, 2) := by decide +kernel
theorem dX4_touchiest_56 : decode cX4_touchiest 56 = .ok (.if_icmp .le 8, 3) := by decide +kernel
theorem dX4_touchiest_59 : decode cX4_touchiest 59 = .ok (.iload 5, 2) := by decide +kernel
theorem dX4_touchiest_61 : decode cX4_touchiest 61 = .ok (.goto 4, 3) := by decide +kernel
theorem dX4_touchiest_64 : decode cX4_touchiest 64 = .ok (.iload_n 3, 1) := by decide +kernel
theorem dX4_touchiest_65 : decode cX4_touchiest 65 = .ok (.istore_n 3, 1) := by decide +kernel
theorem dX4_touchiest_66 : decode cX4_touchiest 66 = .ok (.aload_n 0, 1) := by decide +kernel
theorem dX4_touchiest_67 : decode cX4_touchiest 67 = .ok (.getfield 125, 3) := by decide +kernel
theorem dX4_touchiest_70 : decode cX4_touchiest 70 = .ok (.iload 4, 2) := by decide +kernel
theorem dX4_touchiest_72 : decode cX4_touchiest 72 = .ok (.if_icmp .le 10, 3) := by decide +kernel
theorem dX4_touchiest_75 : decode cX4_touchiest 75 = .ok (.aload_n 0, 1) := by decide +kernel
theorem dX4_touchiest_76 : decode cX4_touchiest 76 = .ok (.getfield 125, 3) := by decide +kernel
theorem dX4_touchiest_79 : decode cX4_touchiest 79 = .ok (.goto 5, 3) := by decide +kernel
theorem dX4_touchiest_82 : decode cX4_touchiest 82 = .ok (.iload 4, 2) := by decide +kernel
theorem dX4_touchiest_84 : decode cX4_touchiest 84 = .ok (.istore 4, 2) := by decide +kernel
theorem dX4_touchiest_86 : decode cX4_touchiest 86 = .ok (.iinc 5 1, 3) := by decide +kernel
theorem dX4_touchiest_89 : decode cX4_touchiest 89 = .ok (.goto (-57), 3) := by decide +kernel
theorem dX4_touchiest_92 : decode cX4_touchiest 92 = .ok (.iload_n 3, 1) := by decide +kernel
theorem dX4_touchiest_93 : decode cX4_touchiest 93 = .ok (.bipush (-6), 2) := by decide +kernel
theorem dX4_touchiest_95 : decode cX4_touchiest 95 = .ok (.if_icmp .ne 8, 3) := by decide +kernel
theorem dX4_touchiest_98 : decode cX4_touchiest 98 = .ok (.bipush (-6), 2) := by decide +kernel
theorem dX4_touchiest_100 : decode cX4_touchiest 100 = .ok (.goto 36, 3) := by decide +kernel
theorem dX4_touchiest_103 : decode cX4_touchiest 103 = .ok (.iload_n 2, 1) := by decide +kernel
theorem dX4_touchiest_104 : decode cX4_touchiest 104 = .ok (.ifCond .ne 11, 3) := by decide +kernel
theorem dX4_touchiest_107 : decode cX4_touchiest 107 = .ok (.aload_n 0, 1) := by decide +kernel
theorem dX4_touchiest_108 : decode cX4_touchiest 108 = .ok (.iload_n 3, 1) := by decide +kernel
theorem dX4_touchiest_109 : decode cX4_touchiest 109 = .ok (.invokevirtual 56, 3) := by decide +kernel
theorem dX4_touchiest_112 : decode cX4_touchiest 112 = .ok (.goto 24, 3) := by decide +kernel
theorem dX4_touchiest_115 : decode cX4_touchiest 115 = .ok (.iload_n 2, 1) := by decide +kernel
theorem dX4_touchiest_116 : decode cX4_touchiest 116 = .ok (.iconst 1, 1) := by decide +kernel
theorem dX4_touchiest_117 : decode cX4_touchiest 117 = .ok (.if_icmp .ne 17, 3) := by decide +kernel
theorem dX4_touchiest_120 : decode cX4_touchiest 120 = .ok (.iload_n 3, 1) := by decide +kernel
theorem dX4_touchiest_121 : decode cX4_touchiest 121 = .ok (.aload_n 0, 1) := by decide +kernel
theorem dX4_touchiest_122 : decode cX4_touchiest 122 = .ok (.aload_n 0, 1) := by decide +kernel
theorem dX4_touchiest_123 : decode cX4_touchiest 123 = .ok (.iload_n 3, 1) := by decide +kernel
theorem dX4_touchiest_124 : decode cX4_touchiest 124 = .ok (.invokevirtual 56, 3) := by decide +kernel
theorem dX4_touchiest_127 : decode cX4_touchiest 127 = .ok (.invokevirtual 60, 3) := by decide +kernel
theorem dX4_touchiest_130 : decode cX4_touchiest 130 = .ok (.isub, 1) := by decide +kernel
theorem dX4_touchiest_131 : decode cX4_touchiest 131 = .ok (.goto 5, 3) := by decide +kernel
theorem dX4_touchiest_134 : decode cX4_touchiest 134 = .ok (.iload 4, 2) := by decide +kernel
theorem dX4_touchiest_136 : decode cX4_touchiest 136 = .ok (.ireturn, 1) := by decide +kernel
set_option maxRecDepth 20000 in
theorem ggX4_coolestPair_X4_in : GoodIn wsX4_coolestPair wsX4_in := goodIn_r _ [5] (by decide +kernel) (by decide +kernel)
set_option maxRecDepth 20000 in
theorem gX4_coolestPair_X4_in : GoodIn wsX4_coolestPair (va_wsS RX4 44 yX4_in wsX4_in) := goodIn_app (goodIn_of _ (by decide +kernel)) ggX4_coolestPair_X4_in
set_option maxRecDepth 20000 in
theorem ggX4_coolestPair_X4_heatOf : GoodIn wsX4_coolestPair wsX4_heatOf := goodIn_r _ [9, 1, 10, 11, 12, 4, 13, 22, 23, 24, 25, 26, 27, 28, 29, 30, 31, 32, 33, 34, 35, 36, 37, 38, 39, 40, 41, 42] (by decide +kernel) (by decide +kernel)
set_option maxRecDepth 20000 in
theorem gX4_coolestPair_X4_heatOf : GoodIn wsX4_coolestPair (wsV RX4 101 RX4 yX4_heatOf wsX4_heatOf) := goodIn_app (goodIn_of _ (by decide +kernel)) ggX4_coolestPair_X4_heatOf
set_option maxRecDepth 20000 in
theorem ggX4_coolestPair_X4_theme : GoodIn wsX4_coolestPair wsX4_theme := goodIn_r _ [17, 18, 19, 20, 4, 21, 1, 10, 11, 12, 13, 22, 23, 24, 25, 26, 27, 28, 29, 30, 31, 32, 33, 34, 35, 36, 37, 38, 39, 40, 41, 42] (by decide +kernel) (by decide +kernel)
set_option maxRecDepth 20000 in
theorem gX4_coolestPair_X4_theme : GoodIn wsX4_coolestPair (wsV RX4 89 RX4 yX4_theme wsX4_theme) := goodIn_app (goodIn_of _ (by decide +kernel)) ggX4_coolestPair_X4_theme
theorem dX4_coolestPair_0 : decode cX4_coolestPair 0 = .ok (.iload_n 1, 1) := by decide +kernel
theorem dX4_coolestPair_1 : decode cX4_coolestPair 1 = .ok (.iconst 0, 1) := by decide +kernel
theorem dX4_coolestPair_2 : decode cX4_coolestPair 2 = .ok (.iconst 1, 1) := by decide +kernel
theorem dX4_coolestPair_3 : decode cX4_coolestPair 3 = .ok (.invokestatic 44, 3) := by decide +kernel
theorem dX4_coolestPair_6 : decode cX4_coolestPair 6 = .ok (.ifCond .ne 6, 3) := by decide +kernel
theorem dX4_coolestPair_9 : decode cX4_coolestPair 9 = .ok (.bipush (-2), 2) := by decide +kernel
theorem dX4_coolestPair_11 : decode cX4_coolestPair 11 = .ok (.ireturn, 1) := by decide +kernel
theorem dX4_coolestPair_12 : decode cX4_coolestPair 12 = .ok (.bipush (-6), 2) := by decide +kernel
theorem dX4_coolestPair_14 : decode cX4_coolestPair 14 = .ok (.istore_n 2, 1) := by decide +kernel
theorem dX4_coolestPair_15 : decode cX4_coolestPair 15 = .ok (.bipush (-6), 2) := by decide +kernel
theorem dX4_coolestPair_17 : decode cX4_coolestPair 17 = .ok (.istore_n 3, 1) := by decide +kernel
theorem dX4_coolestPair_18 : decode cX4_coolestPair 18 = .ok (.iconst 0, 1) := by decide +kernel
theorem dX4_coolestPair_19 : decode cX4_coolestPair 19 = .ok (.istore 4, 2) := by decide +kernel
theorem dX4_coolestPair_21 : decode cX4_coolestPair 21 = .ok (.iconst 0, 1) := by decide +kernel
theorem dX4_coolestPair_22 : decode cX4_coolestPair 22 = .ok (.istore 5, 2) := by decide +kernel
theorem dX4_coolestPair_24 : decode cX4_coolestPair 24 = .ok (.iload 5, 2) := by decide +kernel
theorem dX4_coolestPair_26 : decode cX4_coolestPair 26 = .ok (.aload_n 0, 1) := by decide +kernel
theorem dX4_coolestPair_27 : decode cX4_coolestPair 27 = .ok (.getfield 7, 3) := by decide +kernel
theorem dX4_coolestPair_30 : decode cX4_coolestPair 30 = .ok (.iconst 3, 1) := by decide +kernel
theorem dX4_coolestPair_31 : decode cX4_coolestPair 31 = .ok (.iaload, 1) := by decide +kernel
theorem dX4_coolestPair_32 : decode cX4_coolestPair 32 = .ok (.if_icmp .ge 120, 3) := by decide +kernel
theorem dX4_coolestPair_35 : decode cX4_coolestPair 35 = .ok (.iload 5, 2) := by decide +kernel
theorem dX4_coolestPair_37 : decode cX4_coolestPair 37 = .ok (.iconst 1, 1) := by decide +kernel
theorem dX4_coolestPair_38 : decode cX4_coolestPair 38 = .ok (.iadd, 1) := by decide +kernel
theorem dX4_coolestPair_39 : decode cX4_coolestPair 39 = .ok (.istore 6, 2) := by decide +kernel
theorem dX4_coolestPair_41 : decode cX4_coolestPair 41 = .ok (.iload 6, 2) := by decide +kernel
theorem dX4_coolestPair_43 : decode cX4_coolestPair 43 = .ok (.aload_n 0, 1) := by decide +kernel
theorem dX4_coolestPair_44 : decode cX4_coolestPair 44 = .ok (.getfield 7, 3) := by decide +kernel
theorem dX4_coolestPair_47 : decode cX4_coolestPair 47 = .ok (.iconst 3, 1) := by decide +kernel
theorem dX4_coolestPair_48 : decode cX4_coolestPair 48 = .ok (.iaload, 1) := by decide +kernel
theorem dX4_coolestPair_49 : decode cX4_coolestPair 49 = .ok (.if_icmp .ge 97, 3) := by decide +kernel
theorem dX4_coolestPair_52 : decode cX4_coolestPair 52 = .ok (.aload_n 0, 1) := by decide +kernel
theorem dX4_coolestPair_53 : decode cX4_coolestPair 53 = .ok (.iload 5, 2) := by decide +kernel
theorem dX4_coolestPair_55 : decode cX4_coolestPair 55 = .ok (.invokevirtual 101, 3) := by decide +kernel
theorem dX4_coolestPair_58 : decode cX4_coolestPair 58 = .ok (.aload_n 0, 1) := by decide +kernel
theorem dX4_coolestPair_59 : decode cX4_coolestPair 59 = .ok (.iload 6, 2) := by decide +kernel
theorem dX4_coolestPair_61 : decode cX4_coolestPair 61 = .ok (.invokevirtual 101, 3) := by decide +kernel
theorem dX4_coolestPair_64 : decode cX4_coolestPair 64 = .ok (.iadd, 1) := by decide +kernel
theorem dX4_coolestPair_65 : decode cX4_coolestPair 65 = .ok (.istore 7, 2) := by decide +kernel
theorem dX4_coolestPair_67 : decode cX4_coolestPair 67 = .ok (.aload_n 0, 1) := by decide +kernel
theorem dX4_coolestPair_68 : decode cX4_coolestPair 68 = .ok (.iload 5, 2) := by decide +kernel
theorem dX4_coolestPair_70 : decode cX4_coolestPair 70 = .ok (.invokevirtual 89, 3) := by decide +kernel
theorem dX4_coolestPair_73 : decode cX4_coolestPair 73 = .ok (.aload_n 0, 1) := by decide +kernel
theorem dX4_coolestPair_74 : decode cX4_coolestPair 74 = .ok (.iload 6, 2) := by decide +kernel
theorem dX4_coolestPair_76 : decode cX4_coolestPair 76 = .ok (.invokevirtual 89, 3) := by decide +kernel
theorem dX4_coolestPair_79 : decode cX4_coolestPair 79 = .ok (.if_icmp .ne 20, 3) := by decide +kernel
theorem dX4_coolestPair_82 : decode cX4_coolestPair 82 = .ok (.iload_n 2, 1) := by decide +kernel
theorem dX4_coolestPair_83 : decode cX4_coolestPair 83 = .ok (.bipush (-6), 2) := by decide +kernel
theorem dX4_coolestPair_85 : decode cX4_coolestPair 85 = .ok (.if_icmp .eq 10, 3) := by decide +kernel
theorem dX4_coolestPair_88 : decode cX4_coolestPair 88 = .ok (.iload 7, 2) := by decide +kernel
theorem dX4_coolestPair_90 : decode cX4_coolestPair 90 = .ok (.iload 4, 2) := by decide +kernel
theorem dX4_coolestPair_92 : decode cX4_coolestPair 92 = .ok (.if_icmp .ge 7, 3) := by decide +kernel
theorem dX4_coolestPair_95 : decode cX4_coolestPair 95 = .ok (.iconst 1, 1) := by decide +kernel
theorem dX4_coolestPair_96 : decode cX4_coolestPair 96 = .ok (.goto 4, 3) := by decide +kernel
theorem dX4_coolestPair_99 : decode cX4_coolestPair 99 = .ok (.iconst 0, 1) := by decide +kernel
theorem dX4_coolestPair_100 : decode cX4_coolestPair 100 = .ok (.istore 8, 2) := by decide +kernel
theorem dX4_coolestPair_102 : decode cX4_coolestPair 102 = .ok (.iload 8, 2) := by decide +kernel
theorem dX4_coolestPair_104 : decode cX4_coolestPair 104 = .ok (.ifCond .eq 8, 3) := by decide +kernel
theorem dX4_coolestPair_107 : decode cX4_coolestPair 107 = .ok (.iload 5, 2) := by decide +kernel
theorem dX4_coolestPair_109 : decode cX4_coolestPair 109 = .ok (.goto 4, 3) := by decide +kernel
theorem dX4_coolestPair_112 : decode cX4_coolestPair 112 = .ok (.iload_n 2, 1) := by decide +kernel
theorem dX4_coolestPair_113 : decode cX4_coolestPair 113 = .ok (.istore_n 2, 1) := by decide +kernel
theorem dX4_coolestPair_114 : decode cX4_coolestPair 114 = .ok (.iload 8, 2) := by decide +kernel
theorem dX4_coolestPair_116 : decode cX4_coolestPair 116 = .ok (.ifCond .eq 8, 3) := by decide +kernel
theorem dX4_coolestPair_119 : decode cX4_coolestPair 119 = .ok (.iload 6, 2) := by decide +kernel
theorem dX4_coolestPair_121 : decode cX4_coolestPair 121 = .ok (.goto 4, 3) := by decide +kernel
theorem dX4_coolestPair_124 : decode cX4_coolestPair 124 = .ok (.iload_n 3, 1) := by decide +kernel
theorem dX4_coolestPair_125 : decode cX4_coolestPair 125 = .ok (.istore_n 3, 1) := by decide +kernel
theorem dX4_coolestPair_126 : decode cX4_coolestPair 126 = .ok (.iload 8, 2) := by decide +kernel
theorem dX4_coolestPair_128 : decode cX4_coolestPair 128 = .ok (.ifCond .eq 8, 3) := by decide +kernel
theorem dX4_coolestPair_131 : decode cX4_coolestPair 131 = .ok (.iload 7, 2) := by decide +kernel
theorem dX4_coolestPair_133 : decode cX4_coolestPair 133 = .ok (.goto 5, 3) := by decide +kernel
theorem dX4_coolestPair_136 : decode cX4_coolestPair 136 = .ok (.iload 4, 2) := by decide +kernel
theorem dX4_coolestPair_138 : decode cX4_coolestPair 138 = .ok (.istore 4, 2) := by decide +kernel
theorem dX4_coolestPair_140 : decode cX4_coolestPair 140 = .ok (.iinc 6 1, 3) := by decide +kernel
theorem dX4_coolestPair_143 : decode cX4_coolestPair 143 = .ok (.goto (-102), 3) := by decide +kernel
theorem dX4_coolestPair_146 : decode cX4_coolestPair 146 = .ok (.iinc 5 1, 3) := by decide +kernel
theorem dX4_coolestPair_149 : decode cX4_coolestPair 149 = .ok (.goto (-125), 3) := by decide +kernel
theorem dX4_coolestPair_152 : decode cX4_coolestPair 152 = .ok (.iload_n 1, 1) := by decide +kernel
theorem dX4_coolestPair_153 : decode cX4_coolestPair 153 = .ok (.ifCond .ne 7, 3) := by decide +kernel
theorem dX4_coolestPair_156 : decode cX4_coolestPair 156 = .ok (.iload_n 2, 1) := by decide +kernel
theorem dX4_coolestPair_157 : decode cX4_coolestPair 157 = .ok (.goto 4, 3) := by decide +kernel
theorem dX4_coolestPair_160 : decode cX4_coolestPair 160 = .ok (.iload_n 3, 1) := by decide +kernel
theorem dX4_coolestPair_161 : decode cX4_coolestPair 161 = .ok (.ireturn, 1) := by decide +kernel
set_option maxRecDepth 20000 in
theorem ggX4_put_X4_in : GoodIn wsX4_put wsX4_in := goodIn_r _ [7] (by decide +kernel) (by decide +kernel)
set_option maxRecDepth 20000 in
theorem gX4_put_X4_in : GoodIn wsX4_put (va_wsS RX4 44 yX4_in wsX4_in) := goodIn_app (goodIn_of _ (by decide +kernel)) ggX4_put_X4_in
theorem dX4_put_0 : decode cX4_put 0 = .ok (.iconst 0, 1) := by decide +kernel
theorem dX4_put_1 : decode cX4_put 1 = .ok (.istore_n 3, 1) := by decide +kernel
theorem dX4_put_2 : decode cX4_put 2 = .ok (.iconst 0, 1) := by decide +kernel
theorem dX4_put_3 : decode cX4_put 3 = .ok (.istore 4, 2) := by decide +kernel
theorem dX4_put_5 : decode cX4_put 5 = .ok (.iconst 0, 1) := by decide +kernel
theorem dX4_put_6 : decode cX4_put 6 = .ok (.istore 5, 2) := by decide +kernel
theorem dX4_put_8 : decode cX4_put 8 = .ok (.iload 5, 2) := by decide +kernel
theorem dX4_put_10 : decode cX4_put 10 = .ok (.bipush 8, 2) := by decide +kernel
theorem dX4_put_12 : decode cX4_put 12 = .ok (.if_icmp .ge 89, 3) := by decide +kernel
theorem dX4_put_15 : decode cX4_put 15 = .ok (.lload_n 1, 1) := by decide +kernel
theorem dX4_put_16 : decode cX4_put 16 = .ok (.bipush 8, 2) := by decide +kernel
theorem dX4_put_18 : decode cX4_put 18 = .ok (.iload 5, 2) := by decide +kernel
theorem dX4_put_20 : decode cX4_put 20 = .ok (.imul, 1) := by decide +kernel
theorem dX4_put_21 : decode cX4_put 21 = .ok (.lushr, 1) := by decide +kernel
theorem dX4_put_22 : decode cX4_put 22 = .ok (.ldc2_w 143, 3) := by decide +kernel
theorem dX4_put_25 : decode cX4_put 25 = .ok (.land, 1) := by decide +kernel
theorem dX4_put_26 : decode cX4_put 26 = .ok (.l2i, 1) := by decide +kernel
theorem dX4_put_27 : decode cX4_put 27 = .ok (.istore 6, 2) := by decide +kernel
theorem dX4_put_29 : decode cX4_put 29 = .ok (.iload 5, 2) := by decide +kernel
theorem dX4_put_31 : decode cX4_put 31 = .ok (.ifCond .le 19, 3) := by decide +kernel
theorem dX4_put_34 : decode cX4_put 34 = .ok (.lload_n 1, 1) := by decide +kernel
theorem dX4_put_35 : decode cX4_put 35 = .ok (.bipush 8, 2) := by decide +kernel
theorem dX4_put_37 : decode cX4_put 37 = .ok (.iload 5, 2) := by decide +kernel
theorem dX4_put_39 : decode cX4_put 39 = .ok (.imul, 1) := by decide +kernel
theorem dX4_put_40 : decode cX4_put 40 = .ok (.lushr, 1) := by decide +kernel
theorem dX4_put_41 : decode cX4_put 41 = .ok (.lconst 0, 1) := by decide +kernel
theorem dX4_put_42 : decode cX4_put 42 = .ok (.lcmp, 1) := by decide +kernel
theorem dX4_put_43 : decode cX4_put 43 = .ok (.ifCond .ne 7, 3) := by decide +kernel
theorem dX4_put_46 : decode cX4_put 46 = .ok (.iconst 1, 1) := by decide +kernel
theorem dX4_put_47 : decode cX4_put 47 = .ok (.goto 4, 3) := by decide +kernel
theorem dX4_put_50 : decode cX4_put 50 = .ok (.iconst 0, 1) := by decide +kernel
theorem dX4_put_51 : decode cX4_put 51 = .ok (.istore 7, 2) := by decide +kernel
theorem dX4_put_53 : decode cX4_put 53 = .ok (.iload 4, 2) := by decide +kernel
theorem dX4_put_55 : decode cX4_put 55 = .ok (.ifCond .ne 20, 3) := by decide +kernel
theorem dX4_put_58 : decode cX4_put 58 = .ok (.iload 7, 2) := by decide +kernel
theorem dX4_put_60 : decode cX4_put 60 = .ok (.ifCond .ne 19, 3) := by decide +kernel
theorem dX4_put_63 : decode cX4_put 63 = .ok (.iload 6, 2) := by decide +kernel
theorem dX4_put_65 : decode cX4_put 65 = .ok (.bipush 33, 2) := by decide +kernel
theorem dX4_put_67 : decode cX4_put 67 = .ok (.bipush 126, 2) := by decide +kernel
theorem dX4_put_69 : decode cX4_put 69 = .ok (.invokestatic 44, 3) := by decide +kernel
theorem dX4_put_72 : decode cX4_put 72 = .ok (.ifCond .ne 7, 3) := by decide +kernel
theorem dX4_put_75 : decode cX4_put 75 = .ok (.iconst 1, 1) := by decide +kernel
theorem dX4_put_76 : decode cX4_put 76 = .ok (.goto 4, 3) := by decide +kernel
theorem dX4_put_79 : decode cX4_put 79 = .ok (.iconst 0, 1) := by decide +kernel
theorem dX4_put_80 : decode cX4_put 80 = .ok (.istore 4, 2) := by decide +kernel
theorem dX4_put_82 : decode cX4_put 82 = .ok (.iload_n 3, 1) := by decide +kernel
theorem dX4_put_83 : decode cX4_put 83 = .ok (.iload 7, 2) := by decide +kernel
theorem dX4_put_85 : decode cX4_put 85 = .ok (.ifCond .eq 7, 3) := by decide +kernel
theorem dX4_put_88 : decode cX4_put 88 = .ok (.iconst 0, 1) := by decide +kernel
theorem dX4_put_89 : decode cX4_put 89 = .ok (.goto 4, 3) := by decide +kernel
theorem dX4_put_92 : decode cX4_put 92 = .ok (.iconst 1, 1) := by decide +kernel
theorem dX4_put_93 : decode cX4_put 93 = .ok (.iadd, 1) := by decide +kernel
theorem dX4_put_94 : decode cX4_put 94 = .ok (.istore_n 3, 1) := by decide +kernel
theorem dX4_put_95 : decode cX4_put 95 = .ok (.iinc 5 1, 3) := by decide +kernel
theorem dX4_put_98 : decode cX4_put 98 = .ok (.goto (-90), 3) := by decide +kernel
theorem dX4_put_101 : decode cX4_put 101 = .ok (.iload 4, 2) := by decide +kernel
theorem dX4_put_103 : decode cX4_put 103 = .ok (.ifCond .eq 6, 3) := by decide +kernel
theorem dX4_put_106 : decode cX4_put 106 = .ok (.bipush (-2), 2) := by decide +kernel
theorem dX4_put_108 : decode cX4_put 108 = .ok (.ireturn, 1) := by decide +kernel
theorem dX4_put_109 : decode cX4_put 109 = .ok (.aload_n 0, 1) := by decide +kernel
theorem dX4_put_110 : decode cX4_put 110 = .ok (.getfield 119, 3) := by decide +kernel
theorem dX4_put_113 : decode cX4_put 113 = .ok (.iload_n 3, 1) := by decide +kernel
theorem dX4_put_114 : decode cX4_put 114 = .ok (.iadd, 1) := by decide +kernel
theorem dX4_put_115 : decode cX4_put 115 = .ok (.bipush 60, 2) := by decide +kernel
theorem dX4_put_117 : decode cX4_put 117 = .ok (.if_icmp .le 6, 3) := by decide +kernel
theorem dX4_put_120 : decode cX4_put 120 = .ok (.bipush (-4), 2) := by decide +kernel
theorem dX4_put_122 : decode cX4_put 122 = .ok (.ireturn, 1) := by decide +kernel
theorem dX4_put_123 : decode cX4_put 123 = .ok (.iconst 0, 1) := by decide +kernel
theorem dX4_put_124 : decode cX4_put 124 = .ok (.istore 5, 2) := by decide +kernel
theorem dX4_put_126 : decode cX4_put 126 = .ok (.iload 5, 2) := by decide +kernel
theorem dX4_put_128 : decode cX4_put 128 = .ok (.iload_n 3, 1) := by decide +kernel
theorem dX4_put_129 : decode cX4_put 129 = .ok (.if_icmp .ge 37, 3) := by decide +kernel
theorem dX4_put_132 : decode cX4_put 132 = .ok (.aload_n 0, 1) := by decide +kernel
theorem dX4_put_133 : decode cX4_put 133 = .ok (.getfield 26, 3) := by decide +kernel
theorem dX4_put_136 : decode cX4_put 136 = .ok (.aload_n 0, 1) := by decide +kernel
theorem dX4_put_137 : decode cX4_put 137 = .ok (.getfield 119, 3) := by decide +kernel
theorem dX4_put_140 : decode cX4_put 140 = .ok (.iload_n 3, 1) := by decide +kernel
theorem dX4_put_141 : decode cX4_put 141 = .ok (.iadd, 1) := by decide +kernel
theorem dX4_put_142 : decode cX4_put 142 = .ok (.iconst 1, 1) := by decide +kernel
theorem dX4_put_143 : decode cX4_put 143 = .ok (.isub, 1) := by decide +kernel
theorem dX4_put_144 : decode cX4_put 144 = .ok (.iload 5, 2) := by decide +kernel
theorem dX4_put_146 : decode cX4_put 146 = .ok (.isub, 1) := by decide +kernel
theorem dX4_put_147 : decode cX4_put 147 = .ok (.lload_n 1, 1) := by decide +kernel
theorem dX4_put_148 : decode cX4_put 148 = .ok (.bipush 8, 2) := by decide +kernel
theorem dX4_put_150 : decode cX4_put 150 = .ok (.iload 5, 2) := by decide +kernel
theorem dX4_put_152 : decode cX4_put 152 = .ok (.imul, 1) := by decide +kernel
theorem dX4_put_153 : decode cX4_put 153 = .ok (.lushr, 1) := by decide +kernel
theorem dX4_put_154 : decode cX4_put 154 = .ok (.ldc2_w 143, 3) := by decide +kernel
theorem dX4_put_157 : decode cX4_put 157 = .ok (.land, 1) := by decide +kernel
theorem dX4_put_158 : decode cX4_put 158 = .ok (.l2i, 1) := by decide +kernel
theorem dX4_put_159 : decode cX4_put 159 = .ok (.iastore, 1) := by decide +kernel
theorem dX4_put_160 : decode cX4_put 160 = .ok (.iinc 5 1, 3) := by decide +kernel
theorem dX4_put_163 : decode cX4_put 163 = .ok (.goto (-37), 3) := by decide +kernel
theorem dX4_put_166 : decode cX4_put 166 = .ok (.aload_n 0, 1) := by decide +kernel
theorem dX4_put_167 : decode cX4_put 167 = .ok (.dup, 1) := by decide +kernel
theorem dX4_put_168 : decode cX4_put 168 = .ok (.getfield 119, 3) := by decide +kernel
theorem dX4_put_171 : decode cX4_put 171 = .ok (.iload_n 3, 1) := by decide +kernel
theorem dX4_put_172 : decode cX4_put 172 = .ok (.iadd, 1) := by decide +kernel
theorem dX4_put_173 : decode cX4_put 173 = .ok (.putfield 119, 3) := by decide +kernel
theorem dX4_put_176 : decode cX4_put 176 = .ok (.aload_n 0, 1) := by decide +kernel
theorem dX4_put_177 : decode cX4_put 177 = .ok (.getfield 119, 3) := by decide +kernel
theorem dX4_put_180 : decode cX4_put 180 = .ok (.ireturn, 1) := by decide +kernel
theorem dX4_wipe_0 : decode cX4_wipe 0 = .ok (.aload_n 0, 1) := by decide +kernel
theorem dX4_wipe_1 : decode cX4_wipe 1 = .ok (.getfield 119, 3) := by decide +kernel
theorem dX4_wipe_4 : decode cX4_wipe 4 = .ok (.istore_n 1, 1) := by decide +kernel
theorem dX4_wipe_5 : decode cX4_wipe 5 = .ok (.aload_n 0, 1) := by decide +kernel
theorem dX4_wipe_6 : decode cX4_wipe 6 = .ok (.iconst 0, 1) := by decide +kernel
theorem dX4_wipe_7 : decode cX4_wipe 7 = .ok (.putfield 119, 3) := by decide +kernel
theorem dX4_wipe_10 : decode cX4_wipe 10 = .ok (.iload_n 1, 1) := by decide +kernel
theorem dX4_wipe_11 : decode cX4_wipe 11 = .ok (.ireturn, 1) := by decide +kernel
set_option maxRecDepth 20000 in
theorem ggX4_sign_X4_in : GoodIn wsX4_sign wsX4_in := goodIn_r _ [8] (by decide +kernel) (by decide +kernel)
set_option maxRecDepth 20000 in
theorem gX4_sign_X4_in : GoodIn wsX4_sign (va_wsS RX4 44 yX4_in wsX4_in) := goodIn_app (goodIn_of _ (by decide +kernel)) ggX4_sign_X4_in
theorem dX4_sign_0 : decode cX4_sign 0 = .ok (.aload_n 0, 1) := by decide +kernel
theorem dX4_sign_1 : decode cX4_sign 1 = .ok (.getfield 145, 3) := by decide +kernel
theorem dX4_sign_4 : decode cX4_sign 4 = .ok (.aload_n 0, 1) := by decide +kernel
theorem dX4_sign_5 : decode cX4_sign 5 = .ok (.getfield 119, 3) := by decide +kernel
theorem dX4_sign_8 : decode cX4_sign 8 = .ok (.if_icmp .ge 15, 3) := by decide +kernel
theorem dX4_sign_11 : decode cX4_sign 11 = .ok (.aload_n 0, 1) := by decide +kernel
theorem dX4_sign_12 : decode cX4_sign 12 = .ok (.getfield 26, 3) := by decide +kernel
theorem dX4_sign_15 : decode cX4_sign 15 = .ok (.aload_n 0, 1) := by decide +kernel
theorem dX4_sign_16 : decode cX4_sign 16 = .ok (.getfield 145, 3) := by decide +kernel
theorem dX4_sign_19 : decode cX4_sign 19 = .ok (.iaload, 1) := by decide +kernel
theorem dX4_sign_20 : decode cX4_sign 20 = .ok (.goto 4, 3) := by decide +kernel
theorem dX4_sign_23 : decode cX4_sign 23 = .ok (.iconst 0, 1) := by decide +kernel
theorem dX4_sign_24 : decode cX4_sign 24 = .ok (.istore_n 3, 1) := by decide +kernel
theorem dX4_sign_25 : decode cX4_sign 25 = .ok (.aload_n 0, 1) := by decide +kernel
theorem dX4_sign_26 : decode cX4_sign 26 = .ok (.aload_n 0, 1) := by decide +kernel
theorem dX4_sign_27 : decode cX4_sign 27 = .ok (.getfield 148, 3) := by decide +kernel
theorem dX4_sign_30 : decode cX4_sign 30 = .ok (.ifCond .ne 12, 3) := by decide +kernel
theorem dX4_sign_33 : decode cX4_sign 33 = .ok (.iload_n 3, 1) := by decide +kernel
theorem dX4_sign_34 : decode cX4_sign 34 = .ok (.iload_n 1, 1) := by decide +kernel
theorem dX4_sign_35 : decode cX4_sign 35 = .ok (.iload_n 2, 1) := by decide +kernel
theorem dX4_sign_36 : decode cX4_sign 36 = .ok (.invokestatic 44, 3) := by decide +kernel
theorem dX4_sign_39 : decode cX4_sign 39 = .ok (.ifCond .ne 7, 3) := by decide +kernel
theorem dX4_sign_42 : decode cX4_sign 42 = .ok (.iconst 1, 1) := by decide +kernel
theorem dX4_sign_43 : decode cX4_sign 43 = .ok (.goto 4, 3) := by decide +kernel
theorem dX4_sign_46 : decode cX4_sign 46 = .ok (.iconst 0, 1) := by decide +kernel
theorem dX4_sign_47 : decode cX4_sign 47 = .ok (.putfield 148, 3) := by decide +kernel
theorem dX4_sign_50 : decode cX4_sign 50 = .ok (.aload_n 0, 1) := by decide +kernel
theorem dX4_sign_51 : decode cX4_sign 51 = .ok (.dup, 1) := by decide +kernel
theorem dX4_sign_52 : decode cX4_sign 52 = .ok (.getfield 145, 3) := by decide +kernel
theorem dX4_sign_55 : decode cX4_sign 55 = .ok (.aload_n 0, 1) := by decide +kernel
theorem dX4_sign_56 : decode cX4_sign 56 = .ok (.getfield 148, 3) := by decide +kernel
theorem dX4_sign_59 : decode cX4_sign 59 = .ok (.ifCond .eq 7, 3) := by decide +kernel
theorem dX4_sign_62 : decode cX4_sign 62 = .ok (.iconst 0, 1) := by decide +kernel
theorem dX4_sign_63 : decode cX4_sign 63 = .ok (.goto 4, 3) := by decide +kernel
theorem dX4_sign_66 : decode cX4_sign 66 = .ok (.iconst 1, 1) := by decide +kernel
theorem dX4_sign_67 : decode cX4_sign 67 = .ok (.iadd, 1) := by decide +kernel
theorem dX4_sign_68 : decode cX4_sign 68 = .ok (.putfield 145, 3) := by decide +kernel
theorem dX4_sign_71 : decode cX4_sign 71 = .ok (.iload_n 3, 1) := by decide +kernel
theorem dX4_sign_72 : decode cX4_sign 72 = .ok (.ireturn, 1) := by decide +kernel
set_option maxRecDepth 20000 in
theorem ggX4_isNext_X4_in : GoodIn wsX4_isNext wsX4_in := goodIn_r _ [8] (by decide +kernel) (by decide +kernel)
set_option maxRecDepth 20000 in
theorem gX4_isNext_X4_in : GoodIn wsX4_isNext (va_wsS RX4 44 yX4_in wsX4_in) := goodIn_app (goodIn_of _ (by decide +kernel)) ggX4_isNext_X4_in
theorem dX4_isNext_0 : decode cX4_isNext 0 = .ok (.aload_n 0, 1) := by decide +kernel
theorem dX4_isNext_1 : decode cX4_isNext 1 = .ok (.getfield 148, 3) := by decide +kernel
theorem dX4_isNext_4 : decode cX4_isNext 4 = .ok (.ifCond .ne 35, 3) := by decide +kernel
theorem dX4_isNext_7 : decode cX4_isNext 7 = .ok (.aload_n 0, 1) := by decide +kernel
theorem dX4_isNext_8 : decode cX4_isNext 8 = .ok (.getfield 145, 3) := by decide +kernel
theorem dX4_isNext_11 : decode cX4_isNext 11 = .ok (.aload_n 0, 1) := by decide +kernel
theorem dX4_isNext_12 : decode cX4_isNext 12 = .ok (.getfield 119, 3) := by decide +kernel
theorem dX4_isNext_15 : decode cX4_isNext 15 = .ok (.if_icmp .ge 24, 3) := by decide +kernel
theorem dX4_isNext_18 : decode cX4_isNext 18 = .ok (.aload_n 0, 1) := by decide +kernel
theorem dX4_isNext_19 : decode cX4_isNext 19 = .ok (.getfield 26, 3) := by decide +kernel
theorem dX4_isNext_22 : decode cX4_isNext 22 = .ok (.aload_n 0, 1) := by decide +kernel
theorem dX4_isNext_23 : decode cX4_isNext 23 = .ok (.getfield 145, 3) := by decide +kernel
theorem dX4_isNext_26 : decode cX4_isNext 26 = .ok (.iaload, 1) := by decide +kernel
theorem dX4_isNext_27 : decode cX4_isNext 27 = .ok (.iload_n 1, 1) := by decide +kernel
theorem dX4_isNext_28 : decode cX4_isNext 28 = .ok (.iload_n 2, 1) := by decide +kernel
theorem dX4_isNext_29 : decode cX4_isNext 29 = .ok (.invokestatic 44, 3) := by decide +kernel
theorem dX4_isNext_32 : decode cX4_isNext 32 = .ok (.ifCond .eq 7, 3) := by decide +kernel
theorem dX4_isNext_35 : decode cX4_isNext 35 = .ok (.iconst 1, 1) := by decide +kernel
theorem dX4_isNext_36 : decode cX4_isNext 36 = .ok (.goto 4, 3) := by decide +kernel
theorem dX4_isNext_39 : decode cX4_isNext 39 = .ok (.iconst 0, 1) := by decide +kernel
theorem dX4_isNext_40 : decode cX4_isNext 40 = .ok (.ireturn, 1) := by decide +kernel
set_option maxRecDepth 20000 in
theorem ggX4_readPad_X4_sign : GoodIn wsX4_readPad wsX4_sign := goodIn_r _ [13, 1, 8, 14, 2, 15, 16, 12, 17, 22, 23, 24, 25, 26, 27, 28, 29, 30, 31, 32, 33, 34, 35, 36, 37, 38, 39, 40, 41, 42] (by decide +kernel) (by decide +kernel)
set_option maxRecDepth 20000 in
theorem gX4_readPad_X4_sign : GoodIn wsX4_readPad (wsV RX4 158 RX4 yX4_sign wsX4_sign) := goodIn_app (goodIn_of _ (by decide +kernel)) ggX4_readPad_X4_sign
set_option maxRecDepth 20000 in
theorem ggX4_readPad_X4_isNext : GoodIn wsX4_readPad wsX4_isNext := goodIn_r _ [21, 2, 1, 8, 14, 15, 16, 12, 17, 22, 23, 24, 25, 26, 27, 28, 29, 30, 31, 32, 33, 34, 35, 36, 37, 38, 39, 40, 41, 42] (by decide +kernel) (by decide +kernel)
set_option maxRecDepth 20000 in
theorem gX4_readPad_X4_isNext : GoodIn wsX4_readPad (wsV RX4 161 RX4 yX4_isNext wsX4_isNext) := goodIn_app (goodIn_of _ (by decide +kernel)) ggX4_readPad_X4_isNext
theorem dX4_readPad_0 : decode cX4_readPad 0 = .ok (.aload_n 0, 1) := by decide +kernel
theorem dX4_readPad_1 : decode cX4_readPad 1 = .ok (.iconst 0, 1) := by decide +kernel
theorem dX4_readPad_2 : decode cX4_readPad 2 = .ok (.putfield 145, 3) := by decide +kernel
theorem dX4_readPad_5 : decode cX4_readPad 5 = .ok (.aload_n 0, 1) := by decide +kernel
theorem dX4_readPad_6 : decode cX4_readPad 6 = .ok (.iconst 0, 1) := by decide +kernel
theorem dX4_readPad_7 : decode cX4_readPad 7 = .ok (.putfield 148, 3) := by decide +kernel
theorem dX4_readPad_10 : decode cX4_readPad 10 = .ok (.aload_n 0, 1) := by decide +kernel
theorem dX4_readPad_11 : decode cX4_readPad 11 = .ok (.iconst 0, 1) := by decide +kernel
theorem dX4_readPad_12 : decode cX4_readPad 12 = .ok (.putfield 152, 3) := by decide +kernel
theorem dX4_readPad_15 : decode cX4_readPad 15 = .ok (.aload_n 0, 1) := by decide +kernel
theorem dX4_readPad_16 : decode cX4_readPad 16 = .ok (.iconst 1, 1) := by decide +kernel
theorem dX4_readPad_17 : decode cX4_readPad 17 = .ok (.putfield 155, 3) := by decide +kernel
theorem dX4_readPad_20 : decode cX4_readPad 20 = .ok (.iconst 1, 1) := by decide +kernel
theorem dX4_readPad_21 : decode cX4_readPad 21 = .ok (.istore_n 1, 1) := by decide +kernel
theorem dX4_readPad_22 : decode cX4_readPad 22 = .ok (.iload_n 1, 1) := by decide +kernel
theorem dX4_readPad_23 : decode cX4_readPad 23 = .ok (.ifCond .eq 186, 3) := by decide +kernel
theorem dX4_readPad_26 : decode cX4_readPad 26 = .ok (.aload_n 0, 1) := by decide +kernel
theorem dX4_readPad_27 : decode cX4_readPad 27 = .ok (.bipush 97, 2) := by decide +kernel
theorem dX4_readPad_29 : decode cX4_readPad 29 = .ok (.bipush 122, 2) := by decide +kernel
theorem dX4_readPad_31 : decode cX4_readPad 31 = .ok (.invokevirtual 158, 3) := by decide +kernel
theorem dX4_readPad_34 : decode cX4_readPad 34 = .ok (.istore_n 2, 1) := by decide +kernel
theorem dX4_readPad_35 : decode cX4_readPad 35 = .ok (.aload_n 0, 1) := by decide +kernel
theorem dX4_readPad_36 : decode cX4_readPad 36 = .ok (.bipush 49, 2) := by decide +kernel
theorem dX4_readPad_38 : decode cX4_readPad 38 = .ok (.bipush 57, 2) := by decide +kernel
theorem dX4_readPad_40 : decode cX4_readPad 40 = .ok (.invokevirtual 161, 3) := by decide +kernel
theorem dX4_readPad_43 : decode cX4_readPad 43 = .ok (.ifCond .eq 17, 3) := by decide +kernel
theorem dX4_readPad_46 : decode cX4_readPad 46 = .ok (.aload_n 0, 1) := by decide +kernel
theorem dX4_readPad_47 : decode cX4_readPad 47 = .ok (.bipush 49, 2) := by decide +kernel
theorem dX4_readPad_49 : decode cX4_readPad 49 = .ok (.bipush 57, 2) := by decide +kernel
theorem dX4_readPad_51 : decode cX4_readPad 51 = .ok (.invokevirtual 158, 3) := by decide +kernel
theorem dX4_readPad_54 : decode cX4_readPad 54 = .ok (.bipush 48, 2) := by decide +kernel
theorem dX4_readPad_56 : decode cX4_readPad 56 = .ok (.isub, 1) := by decide +kernel
theorem dX4_readPad_57 : decode cX4_readPad 57 = .ok (.goto 4, 3) := by decide +kernel
theorem dX4_readPad_60 : decode cX4_readPad 60 = .ok (.iconst 0, 1) := by decide +kernel
theorem dX4_readPad_61 : decode cX4_readPad 61 = .ok (.istore_n 3, 1) := by decide +kernel
theorem dX4_readPad_62 : decode cX4_readPad 62 = .ok (.iload_n 3, 1) := by decide +kernel
theorem dX4_readPad_63 : decode cX4_readPad 63 = .ok (.ifCond .le 33, 3) := by decide +kernel
theorem dX4_readPad_66 : decode cX4_readPad 66 = .ok (.aload_n 0, 1) := by decide +kernel
theorem dX4_readPad_67 : decode cX4_readPad 67 = .ok (.bipush 48, 2) := by decide +kernel
theorem dX4_readPad_69 : decode cX4_readPad 69 = .ok (.bipush 57, 2) := by decide +kernel
theorem dX4_readPad_71 : decode cX4_readPad 71 = .ok (.invokevirtual 161, 3) := by decide +kernel
theorem dX4_readPad_74 : decode cX4_readPad 74 = .ok (.ifCond .eq 22, 3) := by decide +kernel
theorem dX4_readPad_77 : decode cX4_readPad 77 = .ok (.bipush 10, 2) := by decide +kernel
theorem dX4_readPad_79 : decode cX4_readPad 79 = .ok (.iload_n 3, 1) := by decide +kernel
theorem dX4_readPad_80 : decode cX4_readPad 80 = .ok (.imul, 1) := by decide +kernel
theorem dX4_readPad_81 : decode cX4_readPad 81 = .ok (.aload_n 0, 1) := by decide +kernel
theorem dX4_readPad_82 : decode cX4_readPad 82 = .ok (.bipush 48, 2) := by decide +kernel
theorem dX4_readPad_84 : decode cX4_readPad 84 = .ok (.bipush 57, 2) := by decide +kernel
theorem dX4_readPad_86 : decode cX4_readPad 86 = .ok (.invokevirtual 158, 3) := by decide +kernel
theorem dX4_readPad_89 : decode cX4_readPad 89 = .ok (.iadd, 1) := by decide +kernel
theorem dX4_readPad_90 : decode cX4_readPad 90 = .ok (.bipush 48, 2) := by decide +kernel
theorem dX4_readPad_92 : decode cX4_readPad 92 = .ok (.isub, 1) := by decide +kernel
theorem dX4_readPad_93 : decode cX4_readPad 93 = .ok (.goto 4, 3) := by decide +kernel
theorem dX4_readPad_96 : decode cX4_readPad 96 = .ok (.iload_n 3, 1) := by decide +kernel
theorem dX4_readPad_97 : decode cX4_readPad 97 = .ok (.istore_n 3, 1) := by decide +kernel
theorem dX4_readPad_98 : decode cX4_readPad 98 = .ok (.aload_n 0, 1) := by decide +kernel
theorem dX4_readPad_99 : decode cX4_readPad 99 = .ok (.getfield 35, 3) := by decide +kernel
theorem dX4_readPad_102 : decode cX4_readPad 102 = .ok (.aload_n 0, 1) := by decide +kernel
theorem dX4_readPad_103 : decode cX4_readPad 103 = .ok (.getfield 152, 3) := by decide +kernel
theorem dX4_readPad_106 : decode cX4_readPad 106 = .ok (.iload_n 2, 1) := by decide +kernel
theorem dX4_readPad_107 : decode cX4_readPad 107 = .ok (.bipush 97, 2) := by decide +kernel
theorem dX4_readPad_109 : decode cX4_readPad 109 = .ok (.isub, 1) := by decide +kernel
theorem dX4_readPad_110 : decode cX4_readPad 110 = .ok (.iastore, 1) := by decide +kernel
theorem dX4_readPad_111 : decode cX4_readPad 111 = .ok (.aload_n 0, 1) := by decide +kernel
theorem dX4_readPad_112 : decode cX4_readPad 112 = .ok (.getfield 38, 3) := by decide +kernel
theorem dX4_readPad_115 : decode cX4_readPad 115 = .ok (.aload_n 0, 1) := by decide +kernel
theorem dX4_readPad_116 : decode cX4_readPad 116 = .ok (.getfield 152, 3) := by decide +kernel
theorem dX4_readPad_119 : decode cX4_readPad 119 = .ok (.iload_n 3, 1) := by decide +kernel
theorem dX4_readPad_120 : decode cX4_readPad 120 = .ok (.iastore, 1) := by decide +kernel
theorem dX4_readPad_121 : decode cX4_readPad 121 = .ok (.aload_n 0, 1) := by decide +kernel
theorem dX4_readPad_122 : decode cX4_readPad 122 = .ok (.getfield 41, 3) := by decide +kernel
theorem dX4_readPad_125 : decode cX4_readPad 125 = .ok (.aload_n 0, 1) := by decide +kernel
theorem dX4_readPad_126 : decode cX4_readPad 126 = .ok (.getfield 152, 3) := by decide +kernel
theorem dX4_readPad_129 : decode cX4_readPad 129 = .ok (.aload_n 0, 1) := by decide +kernel
theorem dX4_readPad_130 : decode cX4_readPad 130 = .ok (.getfield 155, 3) := by decide +kernel
theorem dX4_readPad_133 : decode cX4_readPad 133 = .ok (.iconst 1, 1) := by decide +kernel
theorem dX4_readPad_134 : decode cX4_readPad 134 = .ok (.isub, 1) := by decide +kernel
theorem dX4_readPad_135 : decode cX4_readPad 135 = .ok (.iastore, 1) := by decide +kernel
theorem dX4_readPad_136 : decode cX4_readPad 136 = .ok (.aload_n 0, 1) := by decide +kernel
theorem dX4_readPad_137 : decode cX4_readPad 137 = .ok (.dup, 1) := by decide +kernel
theorem dX4_readPad_138 : decode cX4_readPad 138 = .ok (.getfield 152, 3) := by decide +kernel
theorem dX4_readPad_141 : decode cX4_readPad 141 = .ok (.iconst 1, 1) := by decide +kernel
theorem dX4_readPad_142 : decode cX4_readPad 142 = .ok (.iadd, 1) := by decide +kernel
theorem dX4_readPad_143 : decode cX4_readPad 143 = .ok (.putfield 152, 3) := by decide +kernel
theorem dX4_readPad_146 : decode cX4_readPad 146 = .ok (.aload_n 0, 1) := by decide +kernel
theorem dX4_readPad_147 : decode cX4_readPad 147 = .ok (.bipush 47, 2) := by decide +kernel
theorem dX4_readPad_149 : decode cX4_readPad 149 = .ok (.bipush 47, 2) := by decide +kernel
theorem dX4_readPad_151 : decode cX4_readPad 151 = .ok (.invokevirtual 161, 3) := by decide +kernel
theorem dX4_readPad_154 : decode cX4_readPad 154 = .ok (.ifCond .eq 28, 3) := by decide +kernel
theorem dX4_readPad_157 : decode cX4_readPad 157 = .ok (.aload_n 0, 1) := by decide +kernel
theorem dX4_readPad_158 : decode cX4_readPad 158 = .ok (.bipush 47, 2) := by decide +kernel
theorem dX4_readPad_160 : decode cX4_readPad 160 = .ok (.bipush 47, 2) := by decide +kernel
theorem dX4_readPad_162 : decode cX4_readPad 162 = .ok (.invokevirtual 158, 3) := by decide +kernel
theorem dX4_readPad_165 : decode cX4_readPad 165 = .ok (.istore 4, 2) := by decide +kernel
theorem dX4_readPad_167 : decode cX4_readPad 167 = .ok (.aload_n 0, 1) := by decide +kernel
theorem dX4_readPad_168 : decode cX4_readPad 168 = .ok (.dup, 1) := by decide +kernel
theorem dX4_readPad_169 : decode cX4_readPad 169 = .ok (.getfield 155, 3) := by decide +kernel
theorem dX4_readPad_172 : decode cX4_readPad 172 = .ok (.iconst 1, 1) := by decide +kernel
theorem dX4_readPad_173 : decode cX4_readPad 173 = .ok (.iadd, 1) := by decide +kernel
theorem dX4_readPad_174 : decode cX4_readPad 174 = .ok (.putfield 155, 3) := by decide +kernel
theorem dX4_readPad_177 : decode cX4_readPad 177 = .ok (.iconst 1, 1) := by decide +kernel
theorem dX4_readPad_178 : decode cX4_readPad 178 = .ok (.istore_n 1, 1) := by decide +kernel
theorem dX4_readPad_179 : decode cX4_readPad 179 = .ok (.goto 27, 3) := by decide +kernel
theorem dX4_readPad_182 : decode cX4_readPad 182 = .ok (.aload_n 0, 1) := by decide +kernel
theorem dX4_readPad_183 : decode cX4_readPad 183 = .ok (.getfield 148, 3) := by decide +kernel
theorem dX4_readPad_186 : decode cX4_readPad 186 = .ok (.ifCond .ne 18, 3) := by decide +kernel
theorem dX4_readPad_189 : decode cX4_readPad 189 = .ok (.aload_n 0, 1) := by decide +kernel
theorem dX4_readPad_190 : decode cX4_readPad 190 = .ok (.getfield 145, 3) := by decide +kernel
theorem dX4_readPad_193 : decode cX4_readPad 193 = .ok (.aload_n 0, 1) := by decide +kernel
theorem dX4_readPad_194 : decode cX4_readPad 194 = .ok (.getfield 119, 3) := by decide +kernel
theorem dX4_readPad_197 : decode cX4_readPad 197 = .ok (.if_icmp .ge 7, 3) := by decide +kernel
theorem dX4_readPad_200 : decode cX4_readPad 200 = .ok (.iconst 1, 1) := by decide +kernel
theorem dX4_readPad_201 : decode cX4_readPad 201 = .ok (.goto 4, 3) := by decide +kernel
theorem dX4_readPad_204 : decode cX4_readPad 204 = .ok (.iconst 0, 1) := by decide +kernel
theorem dX4_readPad_205 : decode cX4_readPad 205 = .ok (.istore_n 1, 1) := by decide +kernel
theorem dX4_readPad_206 : decode cX4_readPad 206 = .ok (.goto (-184), 3) := by decide +kernel
theorem dX4_readPad_209 : decode cX4_readPad 209 = .ok (.return_, 1) := by decide +kernel
set_option maxRecDepth 20000 in
theorem ggX4_fault_X4_readPad : GoodIn wsX4_fault wsX4_readPad := goodIn_r _ [7, 2, 1, 8, 9, 10, 11, 12, 13, 14, 15, 16, 6, 17, 18, 19, 20, 21, 22, 23, 24, 25, 26, 27, 28, 29, 30, 31, 32, 33, 34, 35, 36, 37, 38, 39, 40, 41, 42, 43, 44, 45, 46] (by decide +kernel) (by decide +kernel)
set_option maxRecDepth 20000 in
theorem gX4_fault_X4_readPad : GoodIn wsX4_fault (wsV RX4 164 RX4 yX4_readPad wsX4_readPad) := goodIn_app (goodIn_of _ (by decide +kernel)) ggX4_fault_X4_readPad
theorem dX4_fault_0 : decode cX4_fault 0 = .ok (.aload_n 0, 1) := by decide +kernel
theorem dX4_fault_1 : decode cX4_fault 1 = .ok (.invokevirtual 164, 3) := by decide +kernel
theorem dX4_fault_4 : decode cX4_fault 4 = .ok (.aload_n 0, 1) := by decide +kernel
theorem dX4_fault_5 : decode cX4_fault 5 = .ok (.getfield 148, 3) := by decide +kernel
theorem dX4_fault_8 : decode cX4_fault 8 = .ok (.ifCond .eq 10, 3) := by decide +kernel
theorem dX4_fault_11 : decode cX4_fault 11 = .ok (.aload_n 0, 1) := by decide +kernel
theorem dX4_fault_12 : decode cX4_fault 12 = .ok (.getfield 145, 3) := by decide +kernel
theorem dX4_fault_15 : decode cX4_fault 15 = .ok (.goto 5, 3) := by decide +kernel
theorem dX4_fault_18 : decode cX4_fault 18 = .ok (.bipush (-6), 2) := by decide +kernel
theorem dX4_fault_20 : decode cX4_fault 20 = .ok (.ireturn, 1) := by decide +kernel
set_option maxRecDepth 20000 in
theorem ggX4_write_X4_readPad : GoodIn wsX4_write wsX4_readPad := goodIn_r _ [13, 14, 1, 4, 3, 5, 6, 7, 8, 15, 16, 17, 12, 18, 19, 20, 21, 22, 23, 24, 25, 26, 57, 58, 59, 60, 61, 62, 63, 64, 65, 66, 67, 68, 69, 70, 71, 72, 73, 74, 75, 76, 77] (by decide +kernel) (by decide +kernel)
set_option maxRecDepth 20000 in
theorem gX4_write_X4_readPad : GoodIn wsX4_write (wsV RX4 164 RX4 yX4_readPad wsX4_readPad) := goodIn_app (goodIn_of _ (by decide +kernel)) ggX4_write_X4_readPad
set_option maxRecDepth 20000 in
theorem ggX4_write_X4_know : GoodIn wsX4_write wsX4_know := goodIn_r _ [30, 31, 32, 2, 57, 58, 59, 60, 61, 62, 63, 64, 65, 66, 67, 68, 69, 70, 71, 72, 73, 74, 75, 76, 77] (by decide +kernel) (by decide +kernel)
set_option maxRecDepth 20000 in
theorem gX4_write_X4_know : GoodIn wsX4_write (wsV RX4 78 RX4 yX4_know wsX4_know) := goodIn_app (goodIn_of _ (by decide +kernel)) ggX4_write_X4_know
set_option maxRecDepth 20000 in
theorem ggX4_write_X4_react : GoodIn wsX4_write wsX4_react := goodIn_r _ [36, 2, 37, 38, 39, 12, 40, 41, 42, 43, 44, 45, 46, 47, 48, 49, 50, 51, 52, 53, 54, 55, 56, 57, 58, 59, 60, 61, 62, 63, 64, 65, 66, 67, 68, 69, 70, 71, 72, 73, 74, 75, 76, 77] (by decide +kernel) (by decide +kernel)
set_option maxRecDepth 20000 in
theorem gX4_write_X4_react : GoodIn wsX4_write (wsV RX4 85 RX4 yX4_react wsX4_react) := goodIn_app (goodIn_of _ (by decide +kernel)) ggX4_write_X4_react
theorem dX4_write_0 : decode cX4_write 0 = .ok (.aload_n 0, 1) := by decide +kernel
theorem dX4_write_1 : decode cX4_write 1 = .ok (.invokevirtual 164, 3) := by decide +kernel
theorem dX4_write_4 : decode cX4_write 4 = .ok (.aload_n 0, 1) := by decide +kernel
theorem dX4_write_5 : decode cX4_write 5 = .ok (.getfield 148, 3) := by decide +kernel
theorem dX4_write_8 : decode cX4_write 8 = .ok (.ifCond .eq 6, 3) := by decide +kernel
theorem dX4_write_11 : decode cX4_write 11 = .ok (.bipush (-3), 2) := by decide +kernel
theorem dX4_write_13 : decode cX4_write 13 = .ok (.ireturn, 1) := by decide +kernel
theorem dX4_write_14 : decode cX4_write 14 = .ok (.aload_n 0, 1) := by decide +kernel
theorem dX4_write_15 : decode cX4_write 15 = .ok (.getfield 7, 3) := by decide +kernel
theorem dX4_write_18 : decode cX4_write 18 = .ok (.iconst 3, 1) := by decide +kernel
theorem dX4_write_19 : decode cX4_write 19 = .ok (.iaload, 1) := by decide +kernel
theorem dX4_write_20 : decode cX4_write 20 = .ok (.aload_n 0, 1) := by decide +kernel
theorem dX4_write_21 : decode cX4_write 21 = .ok (.getfield 155, 3) := by decide +kernel
theorem dX4_write_24 : decode cX4_write 24 = .ok (.iadd, 1) := by decide +kernel
theorem dX4_write_25 : decode cX4_write 25 = .ok (.bipush 12, 2) := by decide +kernel
theorem dX4_write_27 : decode cX4_write 27 = .ok (.if_icmp .gt 20, 3) := by decide +kernel
theorem dX4_write_30 : decode cX4_write 30 = .ok (.aload_n 0, 1) := by decide +kernel
theorem dX4_write_31 : decode cX4_write 31 = .ok (.getfield 7, 3) := by decide +kernel
theorem dX4_write_34 : decode cX4_write 34 = .ok (.iconst 4, 1) := by decide +kernel
theorem dX4_write_35 : decode cX4_write 35 = .ok (.iaload, 1) := by decide +kernel
theorem dX4_write_36 : decode cX4_write 36 = .ok (.aload_n 0, 1) := by decide +kernel
theorem dX4_write_37 : decode cX4_write 37 = .ok (.getfield 152, 3) := by decide +kernel
theorem dX4_write_40 : decode cX4_write 40 = .ok (.iadd, 1) := by decide +kernel
theorem dX4_write_41 : decode cX4_write 41 = .ok (.sipush 150, 3) := by decide +kernel
theorem dX4_write_44 : decode cX4_write 44 = .ok (.if_icmp .le 6, 3) := by decide +kernel
theorem dX4_write_47 : decode cX4_write 47 = .ok (.bipush (-4), 2) := by decide +kernel
theorem dX4_write_49 : decode cX4_write 49 = .ok (.ireturn, 1) := by decide +kernel
theorem dX4_write_50 : decode cX4_write 50 = .ok (.aload_n 0, 1) := by decide +kernel
theorem dX4_write_51 : decode cX4_write 51 = .ok (.invokevirtual 78, 3) := by decide +kernel
theorem dX4_write_54 : decode cX4_write 54 = .ok (.aload_n 0, 1) := by decide +kernel
theorem dX4_write_55 : decode cX4_write 55 = .ok (.getfield 7, 3) := by decide +kernel
theorem dX4_write_58 : decode cX4_write 58 = .ok (.iconst 3, 1) := by decide +kernel
theorem dX4_write_59 : decode cX4_write 59 = .ok (.iaload, 1) := by decide +kernel
theorem dX4_write_60 : decode cX4_write 60 = .ok (.istore_n 1, 1) := by decide +kernel
theorem dX4_write_61 : decode cX4_write 61 = .ok (.iconst 0, 1) := by decide +kernel
theorem dX4_write_62 : decode cX4_write 62 = .ok (.istore_n 2, 1) := by decide +kernel
theorem dX4_write_63 : decode cX4_write 63 = .ok (.iload_n 2, 1) := by decide +kernel
theorem dX4_write_64 : decode cX4_write 64 = .ok (.aload_n 0, 1) := by decide +kernel
theorem dX4_write_65 : decode cX4_write 65 = .ok (.getfield 155, 3) := by decide +kernel
theorem dX4_write_68 : decode cX4_write 68 = .ok (.if_icmp .ge 60, 3) := by decide +kernel
theorem dX4_write_71 : decode cX4_write 71 = .ok (.aload_n 0, 1) := by decide +kernel
theorem dX4_write_72 : decode cX4_write 72 = .ok (.getfield 7, 3) := by decide +kernel
theorem dX4_write_75 : decode cX4_write 75 = .ok (.bipush 9, 2) := by decide +kernel
theorem dX4_write_77 : decode cX4_write 77 = .ok (.iload_n 1, 1) := by decide +kernel
theorem dX4_write_78 : decode cX4_write 78 = .ok (.iadd, 1) := by decide +kernel
theorem dX4_write_79 : decode cX4_write 79 = .ok (.iload_n 2, 1) := by decide +kernel
theorem dX4_write_80 : decode cX4_write 80 = .ok (.iadd, 1) := by decide +kernel
theorem dX4_write_81 : decode cX4_write 81 = .ok (.iconst 0, 1) := by decide +kernel
theorem dX4_write_82 : decode cX4_write 82 = .ok (.iastore, 1) := by decide +kernel
theorem dX4_write_83 : decode cX4_write 83 = .ok (.aload_n 0, 1) := by decide +kernel
theorem dX4_write_84 : decode cX4_write 84 = .ok (.getfield 7, 3) := by decide +kernel
theorem dX4_write_87 : decode cX4_write 87 = .ok (.bipush 21, 2) := by decide +kernel
theorem dX4_write_89 : decode cX4_write 89 = .ok (.iload_n 1, 1) := by decide +kernel
theorem dX4_write_90 : decode cX4_write 90 = .ok (.iadd, 1) := by decide +kernel
theorem dX4_write_91 : decode cX4_write 91 = .ok (.iload_n 2, 1) := by decide +kernel
theorem dX4_write_92 : decode cX4_write 92 = .ok (.iadd, 1) := by decide +kernel
theorem dX4_write_93 : decode cX4_write 93 = .ok (.aload_n 0, 1) := by decide +kernel
theorem dX4_write_94 : decode cX4_write 94 = .ok (.getfield 7, 3) := by decide +kernel
theorem dX4_write_97 : decode cX4_write 97 = .ok (.iconst 5, 1) := by decide +kernel
theorem dX4_write_98 : decode cX4_write 98 = .ok (.iaload, 1) := by decide +kernel
theorem dX4_write_99 : decode cX4_write 99 = .ok (.iastore, 1) := by decide +kernel
theorem dX4_write_100 : decode cX4_write 100 = .ok (.aload_n 0, 1) := by decide +kernel
theorem dX4_write_101 : decode cX4_write 101 = .ok (.getfield 7, 3) := by decide +kernel
theorem dX4_write_104 : decode cX4_write 104 = .ok (.bipush 33, 2) := by decide +kernel
theorem dX4_write_106 : decode cX4_write 106 = .ok (.iload_n 1, 1) := by decide +kernel
theorem dX4_write_107 : decode cX4_write 107 = .ok (.iadd, 1) := by decide +kernel
theorem dX4_write_108 : decode cX4_write 108 = .ok (.iload_n 2, 1) := by decide +kernel
theorem dX4_write_109 : decode cX4_write 109 = .ok (.iadd, 1) := by decide +kernel
theorem dX4_write_110 : decode cX4_write 110 = .ok (.iconst 0, 1) := by decide +kernel
theorem dX4_write_111 : decode cX4_write 111 = .ok (.iastore, 1) := by decide +kernel
theorem dX4_write_112 : decode cX4_write 112 = .ok (.aload_n 0, 1) := by decide +kernel
theorem dX4_write_113 : decode cX4_write 113 = .ok (.getfield 7, 3) := by decide +kernel
theorem dX4_write_116 : decode cX4_write 116 = .ok (.iconst 5, 1) := by decide +kernel
theorem dX4_write_117 : decode cX4_write 117 = .ok (.dup2, 1) := by decide +kernel
theorem dX4_write_118 : decode cX4_write 118 = .ok (.iaload, 1) := by decide +kernel
theorem dX4_write_119 : decode cX4_write 119 = .ok (.iconst 1, 1) := by decide +kernel
theorem dX4_write_120 : decode cX4_write 120 = .ok (.iadd, 1) := by decide +kernel
theorem dX4_write_121 : decode cX4_write 121 = .ok (.iastore, 1) := by decide +kernel
theorem dX4_write_122 : decode cX4_write 122 = .ok (.iinc 2 1, 3) := by decide +kernel
theorem dX4_write_125 : decode cX4_write 125 = .ok (.goto (-62), 3) := by decide +kernel
theorem dX4_write_128 : decode cX4_write 128 = .ok (.iconst 0, 1) := by decide +kernel
theorem dX4_write_129 : decode cX4_write 129 = .ok (.istore_n 2, 1) := by decide +kernel
theorem dX4_write_130 : decode cX4_write 130 = .ok (.iload_n 2, 1) := by decide +kernel
theorem dX4_write_131 : decode cX4_write 131 = .ok (.aload_n 0, 1) := by decide +kernel
theorem dX4_write_132 : decode cX4_write 132 = .ok (.getfield 152, 3) := by decide +kernel
theorem dX4_write_135 : decode cX4_write 135 = .ok (.if_icmp .ge 74, 3) := by decide +kernel
theorem dX4_write_138 : decode cX4_write 138 = .ok (.aload_n 0, 1) := by decide +kernel
theorem dX4_write_139 : decode cX4_write 139 = .ok (.getfield 7, 3) := by decide +kernel
theorem dX4_write_142 : decode cX4_write 142 = .ok (.bipush 45, 2) := by decide +kernel
theorem dX4_write_144 : decode cX4_write 144 = .ok (.aload_n 0, 1) := by decide +kernel
theorem dX4_write_145 : decode cX4_write 145 = .ok (.getfield 7, 3) := by decide +kernel
theorem dX4_write_148 : decode cX4_write 148 = .ok (.iconst 4, 1) := by decide +kernel
theorem dX4_write_149 : decode cX4_write 149 = .ok (.iaload, 1) := by decide +kernel
theorem dX4_write_150 : decode cX4_write 150 = .ok (.iadd, 1) := by decide +kernel
theorem dX4_write_151 : decode cX4_write 151 = .ok (.iload_n 2, 1) := by decide +kernel
theorem dX4_write_152 : decode cX4_write 152 = .ok (.iadd, 1) := by decide +kernel
theorem dX4_write_153 : decode cX4_write 153 = .ok (.aload_n 0, 1) := by decide +kernel
theorem dX4_write_154 : decode cX4_write 154 = .ok (.getfield 35, 3) := by decide +kernel
theorem dX4_write_157 : decode cX4_write 157 = .ok (.iload_n 2, 1) := by decide +kernel
theorem dX4_write_158 : decode cX4_write 158 = .ok (.iaload, 1) := by decide +kernel
theorem dX4_write_159 : decode cX4_write 159 = .ok (.iastore, 1) := by decide +kernel
theorem dX4_write_160 : decode cX4_write 160 = .ok (.aload_n 0, 1) := by decide +kernel
theorem dX4_write_161 : decode cX4_write 161 = .ok (.getfield 7, 3) := by decide +kernel
theorem dX4_write_164 : decode cX4_write 164 = .ok (.sipush 195, 3) := by decide +kernel
theorem dX4_write_167 : decode cX4_write 167 = .ok (.aload_n 0, 1) := by decide +kernel
theorem dX4_write_168 : decode cX4_write 168 = .ok (.getfield 7, 3) := by decide +kernel
theorem dX4_write_171 : decode cX4_write 171 = .ok (.iconst 4, 1) := by decide +kernel
theorem dX4_write_172 : decode cX4_write 172 = .ok (.iaload, 1) := by decide +kernel
theorem dX4_write_173 : decode cX4_write 173 = .ok (.iadd, 1) := by decide +kernel
theorem dX4_write_174 : decode cX4_write 174 = .ok (.iload_n 2, 1) := by decide +kernel
theorem dX4_write_175 : decode cX4_write 175 = .ok (.iadd, 1) := by decide +kernel
theorem dX4_write_176 : decode cX4_write 176 = .ok (.aload_n 0, 1) := by decide +kernel
theorem dX4_write_177 : decode cX4_write 177 = .ok (.getfield 38, 3) := by decide +kernel
theorem dX4_write_180 : decode cX4_write 180 = .ok (.iload_n 2, 1) := by decide +kernel
theorem dX4_write_181 : decode cX4_write 181 = .ok (.iaload, 1) := by decide +kernel
theorem dX4_write_182 : decode cX4_write 182 = .ok (.iastore, 1) := by decide +kernel
theorem dX4_write_183 : decode cX4_write 183 = .ok (.aload_n 0, 1) := by decide +kernel
theorem dX4_write_184 : decode cX4_write 184 = .ok (.getfield 7, 3) := by decide +kernel
theorem dX4_write_187 : decode cX4_write 187 = .ok (.bipush 9, 2) := by decide +kernel
theorem dX4_write_189 : decode cX4_write 189 = .ok (.iload_n 1, 1) := by decide +kernel
theorem dX4_write_190 : decode cX4_write 190 = .ok (.iadd, 1) := by decide +kernel
theorem dX4_write_191 : decode cX4_write 191 = .ok (.aload_n 0, 1) := by decide +kernel
theorem dX4_write_192 : decode cX4_write 192 = .ok (.getfield 41, 3) := by decide +kernel
theorem dX4_write_195 : decode cX4_write 195 = .ok (.iload_n 2, 1) := by decide +kernel
theorem dX4_write_196 : decode cX4_write 196 = .ok (.iaload, 1) := by decide +kernel
theorem dX4_write_197 : decode cX4_write 197 = .ok (.iadd, 1) := by decide +kernel
theorem dX4_write_198 : decode cX4_write 198 = .ok (.dup2, 1) := by decide +kernel
theorem dX4_write_199 : decode cX4_write 199 = .ok (.iaload, 1) := by decide +kernel
theorem dX4_write_200 : decode cX4_write 200 = .ok (.iconst 1, 1) := by decide +kernel
theorem dX4_write_201 : decode cX4_write 201 = .ok (.iadd, 1) := by decide +kernel
theorem dX4_write_202 : decode cX4_write 202 = .ok (.iastore, 1) := by decide +kernel
theorem dX4_write_203 : decode cX4_write 203 = .ok (.iinc 2 1, 3) := by decide +kernel
theorem dX4_write_206 : decode cX4_write 206 = .ok (.goto (-76), 3) := by decide +kernel
theorem dX4_write_209 : decode cX4_write 209 = .ok (.aload_n 0, 1) := by decide +kernel
theorem dX4_write_210 : decode cX4_write 210 = .ok (.getfield 7, 3) := by decide +kernel
theorem dX4_write_213 : decode cX4_write 213 = .ok (.iconst 3, 1) := by decide +kernel
theorem dX4_write_214 : decode cX4_write 214 = .ok (.dup2, 1) := by decide +kernel
theorem dX4_write_215 : decode cX4_write 215 = .ok (.iaload, 1) := by decide +kernel
theorem dX4_write_216 : decode cX4_write 216 = .ok (.aload_n 0, 1) := by decide +kernel
theorem dX4_write_217 : decode cX4_write 217 = .ok (.getfield 155, 3) := by decide +kernel
theorem dX4_write_220 : decode cX4_write 220 = .ok (.iadd, 1) := by decide +kernel
theorem dX4_write_221 : decode cX4_write 221 = .ok (.iastore, 1) := by decide +kernel
theorem dX4_write_222 : decode cX4_write 222 = .ok (.aload_n 0, 1) := by decide +kernel
theorem dX4_write_223 : decode cX4_write 223 = .ok (.getfield 7, 3) := by decide +kernel
theorem dX4_write_226 : decode cX4_write 226 = .ok (.iconst 4, 1) := by decide +kernel
theorem dX4_write_227 : decode cX4_write 227 = .ok (.dup2, 1) := by decide +kernel
theorem dX4_write_228 : decode cX4_write 228 = .ok (.iaload, 1) := by decide +kernel
theorem dX4_write_229 : decode cX4_write 229 = .ok (.aload_n 0, 1) := by decide +kernel
theorem dX4_write_230 : decode cX4_write 230 = .ok (.getfield 152, 3) := by decide +kernel
theorem dX4_write_233 : decode cX4_write 233 = .ok (.iadd, 1) := by decide +kernel
theorem dX4_write_234 : decode cX4_write 234 = .ok (.iastore, 1) := by decide +kernel
theorem dX4_write_235 : decode cX4_write 235 = .ok (.aload_n 0, 1) := by decide +kernel
theorem dX4_write_236 : decode cX4_write 236 = .ok (.iconst 0, 1) := by decide +kernel
theorem dX4_write_237 : decode cX4_write 237 = .ok (.putfield 119, 3) := by decide +kernel
theorem dX4_write_240 : decode cX4_write 240 = .ok (.aload_n 0, 1) := by decide +kernel
theorem dX4_write_241 : decode cX4_write 241 = .ok (.invokevirtual 85, 3) := by decide +kernel
theorem dX4_write_244 : decode cX4_write 244 = .ok (.istore_n 2, 1) := by decide +kernel
theorem dX4_write_245 : decode cX4_write 245 = .ok (.aload_n 0, 1) := by decide +kernel
theorem dX4_write_246 : decode cX4_write 246 = .ok (.getfield 7, 3) := by decide +kernel
theorem dX4_write_249 : decode cX4_write 249 = .ok (.iconst 3, 1) := by decide +kernel
theorem dX4_write_250 : decode cX4_write 250 = .ok (.iaload, 1) := by decide +kernel
theorem dX4_write_251 : decode cX4_write 251 = .ok (.ireturn, 1) := by decide +kernel
theorem dX4_undo_0 : decode cX4_undo 0 = .ok (.aload_n 0, 1) := by decide +kernel
theorem dX4_undo_1 : decode cX4_undo 1 = .ok (.getfield 52, 3) := by decide +kernel
theorem dX4_undo_4 : decode cX4_undo 4 = .ok (.ifCond .ne 6, 3) := by decide +kernel
theorem dX4_undo_7 : decode cX4_undo 7 = .ok (.bipush (-5), 2) := by decide +kernel
theorem dX4_undo_9 : decode cX4_undo 9 = .ok (.ireturn, 1) := by decide +kernel
theorem dX4_undo_10 : decode cX4_undo 10 = .ok (.aload_n 0, 1) := by decide +kernel
theorem dX4_undo_11 : decode cX4_undo 11 = .ok (.dup, 1) := by decide +kernel
theorem dX4_undo_12 : decode cX4_undo 12 = .ok (.getfield 52, 3) := by decide +kernel
theorem dX4_undo_15 : decode cX4_undo 15 = .ok (.iconst 1, 1) := by decide +kernel
theorem dX4_undo_16 : decode cX4_undo 16 = .ok (.isub, 1) := by decide +kernel
theorem dX4_undo_17 : decode cX4_undo 17 = .ok (.putfield 52, 3) := by decide +kernel
theorem dX4_undo_20 : decode cX4_undo 20 = .ok (.iconst 0, 1) := by decide +kernel
theorem dX4_undo_21 : decode cX4_undo 21 = .ok (.istore_n 1, 1) := by decide +kernel
theorem dX4_undo_22 : decode cX4_undo 22 = .ok (.iload_n 1, 1) := by decide +kernel
theorem dX4_undo_23 : decode cX4_undo 23 = .ok (.sipush 345, 3) := by decide +kernel
theorem dX4_undo_26 : decode cX4_undo 26 = .ok (.if_icmp .ge 30, 3) := by decide +kernel
theorem dX4_undo_29 : decode cX4_undo 29 = .ok (.aload_n 0, 1) := by decide +kernel
theorem dX4_undo_30 : decode cX4_undo 30 = .ok (.getfield 7, 3) := by decide +kernel
theorem dX4_undo_33 : decode cX4_undo 33 = .ok (.iload_n 1, 1) := by decide +kernel
theorem dX4_undo_34 : decode cX4_undo 34 = .ok (.aload_n 0, 1) := by decide +kernel
theorem dX4_undo_35 : decode cX4_undo 35 = .ok (.getfield 16, 3) := by decide +kernel
theorem dX4_undo_38 : decode cX4_undo 38 = .ok (.sipush 345, 3) := by decide +kernel
theorem dX4_undo_41 : decode cX4_undo 41 = .ok (.aload_n 0, 1) := by decide +kernel
theorem dX4_undo_42 : decode cX4_undo 42 = .ok (.getfield 52, 3) := by decide +kernel
theorem dX4_undo_45 : decode cX4_undo 45 = .ok (.imul, 1) := by decide +kernel
theorem dX4_undo_46 : decode cX4_undo 46 = .ok (.iload_n 1, 1) := by decide +kernel
theorem dX4_undo_47 : decode cX4_undo 47 = .ok (.iadd, 1) := by decide +kernel
theorem dX4_undo_48 : decode cX4_undo 48 = .ok (.iaload, 1) := by decide +kernel
theorem dX4_undo_49 : decode cX4_undo 49 = .ok (.iastore, 1) := by decide +kernel
theorem dX4_undo_50 : decode cX4_undo 50 = .ok (.iinc 1 1, 3) := by decide +kernel
theorem dX4_undo_53 : decode cX4_undo 53 = .ok (.goto (-31), 3) := by decide +kernel
theorem dX4_undo_56 : decode cX4_undo 56 = .ok (.aload_n 0, 1) := by decide +kernel
theorem dX4_undo_57 : decode cX4_undo 57 = .ok (.getfield 52, 3) := by decide +kernel
theorem dX4_undo_60 : decode cX4_undo 60 = .ok (.ireturn, 1) := by decide +kernel
set_option maxRecDepth 20000 in
theorem ggX4_save_X4_in : GoodIn wsX4_save wsX4_in := goodIn_r _ [7] (by decide +kernel) (by decide +kernel)
set_option maxRecDepth 20000 in
theorem gX4_save_X4_in : GoodIn wsX4_save (va_wsS RX4 44 yX4_in wsX4_in) := goodIn_app (goodIn_of _ (by decide +kernel)) ggX4_save_X4_in
theorem dX4_save_0 : decode cX4_save 0 = .ok (.iload_n 1, 1) := by decide +kernel
theorem dX4_save_1 : decode cX4_save 1 = .ok (.iconst 0, 1) := by decide +kernel
theorem dX4_save_2 : decode cX4_save 2 = .ok (.iconst 1, 1) := by decide +kernel
theorem dX4_save_3 : decode cX4_save 3 = .ok (.invokestatic 44, 3) := by decide +kernel
theorem dX4_save_6 : decode cX4_save 6 = .ok (.ifCond .ne 6, 3) := by decide +kernel
theorem dX4_save_9 : decode cX4_save 9 = .ok (.bipush (-2), 2) := by decide +kernel
theorem dX4_save_11 : decode cX4_save 11 = .ok (.ireturn, 1) := by decide +kernel
theorem dX4_save_12 : decode cX4_save 12 = .ok (.iconst 0, 1) := by decide +kernel
theorem dX4_save_13 : decode cX4_save 13 = .ok (.istore_n 2, 1) := by decide +kernel
theorem dX4_save_14 : decode cX4_save 14 = .ok (.iload_n 2, 1) := by decide +kernel
theorem dX4_save_15 : decode cX4_save 15 = .ok (.sipush 345, 3) := by decide +kernel
theorem dX4_save_18 : decode cX4_save 18 = .ok (.if_icmp .ge 27, 3) := by decide +kernel
theorem dX4_save_21 : decode cX4_save 21 = .ok (.aload_n 0, 1) := by decide +kernel
theorem dX4_save_22 : decode cX4_save 22 = .ok (.getfield 19, 3) := by decide +kernel
theorem dX4_save_25 : decode cX4_save 25 = .ok (.sipush 345, 3) := by decide +kernel
theorem dX4_save_28 : decode cX4_save 28 = .ok (.iload_n 1, 1) := by decide +kernel
theorem dX4_save_29 : decode cX4_save 29 = .ok (.imul, 1) := by decide +kernel
theorem dX4_save_30 : decode cX4_save 30 = .ok (.iload_n 2, 1) := by decide +kernel
theorem dX4_save_31 : decode cX4_save 31 = .ok (.iadd, 1) := by decide +kernel
theorem dX4_save_32 : decode cX4_save 32 = .ok (.aload_n 0, 1) := by decide +kernel
theorem dX4_save_33 : decode cX4_save 33 = .ok (.getfield 7, 3) := by decide +kernel
theorem dX4_save_36 : decode cX4_save 36 = .ok (.iload_n 2, 1) := by decide +kernel
theorem dX4_save_37 : decode cX4_save 37 = .ok (.iaload, 1) := by decide +kernel
theorem dX4_save_38 : decode cX4_save 38 = .ok (.iastore, 1) := by decide +kernel
theorem dX4_save_39 : decode cX4_save 39 = .ok (.iinc 2 1, 3) := by decide +kernel
theorem dX4_save_42 : decode cX4_save 42 = .ok (.goto (-28), 3) := by decide +kernel
theorem dX4_save_45 : decode cX4_save 45 = .ok (.aload_n 0, 1) := by decide +kernel
theorem dX4_save_46 : decode cX4_save 46 = .ok (.getfield 22, 3) := by decide +kernel
theorem dX4_save_49 : decode cX4_save 49 = .ok (.iload_n 1, 1) := by decide +kernel
theorem dX4_save_50 : decode cX4_save 50 = .ok (.iconst 1, 1) := by decide +kernel
theorem dX4_save_51 : decode cX4_save 51 = .ok (.bastore, 1) := by decide +kernel
theorem dX4_save_52 : decode cX4_save 52 = .ok (.aload_n 0, 1) := by decide +kernel
theorem dX4_save_53 : decode cX4_save 53 = .ok (.getfield 7, 3) := by decide +kernel
theorem dX4_save_56 : decode cX4_save 56 = .ok (.iconst 3, 1) := by decide +kernel
theorem dX4_save_57 : decode cX4_save 57 = .ok (.iaload, 1) := by decide +kernel
theorem dX4_save_58 : decode cX4_save 58 = .ok (.ireturn, 1) := by decide +kernel
set_option maxRecDepth 20000 in
theorem ggX4_restore_X4_in : GoodIn wsX4_restore wsX4_in := goodIn_r _ [7] (by decide +kernel) (by decide +kernel)
set_option maxRecDepth 20000 in
theorem gX4_restore_X4_in : GoodIn wsX4_restore (va_wsS RX4 44 yX4_in wsX4_in) := goodIn_app (goodIn_of _ (by decide +kernel)) ggX4_restore_X4_in
set_option maxRecDepth 20000 in
theorem ggX4_restore_X4_know : GoodIn wsX4_restore wsX4_know := goodIn_r _ [11, 12, 13, 2, 14, 15, 16, 17, 18, 19, 20, 21, 22, 23, 24, 25, 26, 27, 28, 29, 30, 31, 32, 33, 34] (by decide +kernel) (by decide +kernel)
set_option maxRecDepth 20000 in
theorem gX4_restore_X4_know : GoodIn wsX4_restore (wsV RX4 78 RX4 yX4_know wsX4_know) := goodIn_app (goodIn_of _ (by decide +kernel)) ggX4_restore_X4_know
theorem dX4_restore_0 : decode cX4_restore 0 = .ok (.iload_n 1, 1) := by decide +kernel
theorem dX4_restore_1 : decode cX4_restore 1 = .ok (.iconst 0, 1) := by decide +kernel
theorem dX4_restore_2 : decode cX4_restore 2 = .ok (.iconst 1, 1) := by decide +kernel
theorem dX4_restore_3 : decode cX4_restore 3 = .ok (.invokestatic 44, 3) := by decide +kernel
theorem dX4_restore_6 : decode cX4_restore 6 = .ok (.ifCond .ne 6, 3) := by decide +kernel
theorem dX4_restore_9 : decode cX4_restore 9 = .ok (.bipush (-2), 2) := by decide +kernel
theorem dX4_restore_11 : decode cX4_restore 11 = .ok (.ireturn, 1) := by decide +kernel
theorem dX4_restore_12 : decode cX4_restore 12 = .ok (.aload_n 0, 1) := by decide +kernel
theorem dX4_restore_13 : decode cX4_restore 13 = .ok (.getfield 22, 3) := by decide +kernel
theorem dX4_restore_16 : decode cX4_restore 16 = .ok (.iload_n 1, 1) := by decide +kernel
theorem dX4_restore_17 : decode cX4_restore 17 = .ok (.baload, 1) := by decide +kernel
theorem dX4_restore_18 : decode cX4_restore 18 = .ok (.ifCond .ne 6, 3) := by decide +kernel
theorem dX4_restore_21 : decode cX4_restore 21 = .ok (.bipush (-5), 2) := by decide +kernel
theorem dX4_restore_23 : decode cX4_restore 23 = .ok (.ireturn, 1) := by decide +kernel
theorem dX4_restore_24 : decode cX4_restore 24 = .ok (.aload_n 0, 1) := by decide +kernel
theorem dX4_restore_25 : decode cX4_restore 25 = .ok (.invokevirtual 78, 3) := by decide +kernel
theorem dX4_restore_28 : decode cX4_restore 28 = .ok (.iconst 0, 1) := by decide +kernel
theorem dX4_restore_29 : decode cX4_restore 29 = .ok (.istore_n 2, 1) := by decide +kernel
theorem dX4_restore_30 : decode cX4_restore 30 = .ok (.iload_n 2, 1) := by decide +kernel
theorem dX4_restore_31 : decode cX4_restore 31 = .ok (.sipush 345, 3) := by decide +kernel
theorem dX4_restore_34 : decode cX4_restore 34 = .ok (.if_icmp .ge 27, 3) := by decide +kernel
theorem dX4_restore_37 : decode cX4_restore 37 = .ok (.aload_n 0, 1) := by decide +kernel
theorem dX4_restore_38 : decode cX4_restore 38 = .ok (.getfield 7, 3) := by decide +kernel
theorem dX4_restore_41 : decode cX4_restore 41 = .ok (.iload_n 2, 1) := by decide +kernel
theorem dX4_restore_42 : decode cX4_restore 42 = .ok (.aload_n 0, 1) := by decide +kernel
theorem dX4_restore_43 : decode cX4_restore 43 = .ok (.getfield 19, 3) := by decide +kernel
theorem dX4_restore_46 : decode cX4_restore 46 = .ok (.sipush 345, 3) := by decide +kernel
theorem dX4_restore_49 : decode cX4_restore 49 = .ok (.iload_n 1, 1) := by decide +kernel
theorem dX4_restore_50 : decode cX4_restore 50 = .ok (.imul, 1) := by decide +kernel
theorem dX4_restore_51 : decode cX4_restore 51 = .ok (.iload_n 2, 1) := by decide +kernel
theorem dX4_restore_52 : decode cX4_restore 52 = .ok (.iadd, 1) := by decide +kernel
theorem dX4_restore_53 : decode cX4_restore 53 = .ok (.iaload, 1) := by decide +kernel
theorem dX4_restore_54 : decode cX4_restore 54 = .ok (.iastore, 1) := by decide +kernel
theorem dX4_restore_55 : decode cX4_restore 55 = .ok (.iinc 2 1, 3) := by decide +kernel
theorem dX4_restore_58 : decode cX4_restore 58 = .ok (.goto (-28), 3) := by decide +kernel
theorem dX4_restore_61 : decode cX4_restore 61 = .ok (.aload_n 0, 1) := by decide +kernel
theorem dX4_restore_62 : decode cX4_restore 62 = .ok (.getfield 7, 3) := by decide +kernel
theorem dX4_restore_65 : decode cX4_restore 65 = .ok (.iconst 3, 1) := by decide +kernel
theorem dX4_restore_66 : decode cX4_restore 66 = .ok (.iaload, 1) := by decide +kernel
theorem dX4_restore_67 : decode cX4_restore 67 = .ok (.ireturn, 1) := by decide +kernel
theorem dJ9_max_7cf53_0 : decode cJ9_max_7cf53 0 = .ok (.iload_n 0, 1) := by decide +kernel
theorem dJ9_max_7cf53_1 : decode cJ9_max_7cf53 1 = .ok (.iload_n 1, 1) := by decide +kernel
theorem dJ9_max_7cf53_2 : decode cJ9_max_7cf53 2 = .ok (.if_icmp .lt 7, 3) := by decide +kernel
theorem dJ9_max_7cf53_5 : decode cJ9_max_7cf53 5 = .ok (.iload_n 0, 1) := by decide +kernel
theorem dJ9_max_7cf53_6 : decode cJ9_max_7cf53 6 = .ok (.goto 4, 3) := by decide +kernel
theorem dJ9_max_7cf53_9 : decode cJ9_max_7cf53 9 = .ok (.iload_n 1, 1) := by decide +kernel
theorem dJ9_max_7cf53_10 : decode cJ9_max_7cf53 10 = .ok (.ireturn, 1) := by decide +kernel
theorem dJ9_min_7cf53_0 : decode cJ9_min_7cf53 0 = .ok (.iload_n 0, 1) := by decide +kernel
theorem dJ9_min_7cf53_1 : decode cJ9_min_7cf53 1 = .ok (.iload_n 1, 1) := by decide +kernel
theorem dJ9_min_7cf53_2 : decode cJ9_min_7cf53 2 = .ok (.if_icmp .gt 7, 3) := by decide +kernel
theorem dJ9_min_7cf53_5 : decode cJ9_min_7cf53 5 = .ok (.iload_n 0, 1) := by decide +kernel
theorem dJ9_min_7cf53_6 : decode cJ9_min_7cf53 6 = .ok (.goto 4, 3) := by decide +kernel
theorem dJ9_min_7cf53_9 : decode cJ9_min_7cf53 9 = .ok (.iload_n 1, 1) := by decide +kernel
theorem dJ9_min_7cf53_10 : decode cJ9_min_7cf53 10 = .ok (.ireturn, 1) := by decide +kernel
theorem dJ7_fill_53178_0 : decode cJ7_fill_53178 0 = .ok (.iconst 0, 1) := by decide +kernel
theorem dJ7_fill_53178_1 : decode cJ7_fill_53178 1 = .ok (.istore_n 2, 1) := by decide +kernel
theorem dJ7_fill_53178_2 : decode cJ7_fill_53178 2 = .ok (.aload_n 0, 1) := by decide +kernel
theorem dJ7_fill_53178_3 : decode cJ7_fill_53178 3 = .ok (.arraylength, 1) := by decide +kernel
theorem dJ7_fill_53178_4 : decode cJ7_fill_53178 4 = .ok (.istore_n 3, 1) := by decide +kernel
theorem dJ7_fill_53178_5 : decode cJ7_fill_53178 5 = .ok (.iload_n 2, 1) := by decide +kernel
theorem dJ7_fill_53178_6 : decode cJ7_fill_53178 6 = .ok (.iload_n 3, 1) := by decide +kernel
theorem dJ7_fill_53178_7 : decode cJ7_fill_53178 7 = .ok (.if_icmp .ge 13, 3) := by decide +kernel
theorem dJ7_fill_53178_10 : decode cJ7_fill_53178 10 = .ok (.aload_n 0, 1) := by decide +kernel
theorem dJ7_fill_53178_11 : decode cJ7_fill_53178 11 = .ok (.iload_n 2, 1) := by decide +kernel
theorem dJ7_fill_53178_12 : decode cJ7_fill_53178 12 = .ok (.iload_n 1, 1) := by decide +kernel
theorem dJ7_fill_53178_13 : decode cJ7_fill_53178 13 = .ok (.iastore, 1) := by decide +kernel
theorem dJ7_fill_53178_14 : decode cJ7_fill_53178 14 = .ok (.iinc 2 1, 3) := by decide +kernel
theorem dJ7_fill_53178_17 : decode cJ7_fill_53178 17 = .ok (.goto (-12), 3) := by decide +kernel
theorem dJ7_fill_53178_20 : decode cJ7_fill_53178 20 = .ok (.return_, 1) := by decide +kernel
set_option maxRecDepth 20000 in
theorem ggL_law_X3_init : GoodIn wsL_law wsX3_init := goodIn_r _ [9, 10, 11, 12, 13, 14, 15, 16, 17, 18, 19, 20, 21, 22, 23, 24, 25, 26, 27, 28, 29, 30, 31, 32, 33, 34, 35, 36, 37, 38, 39, 40, 41, 42, 43, 44, 45, 46, 47, 48, 49, 50, 51, 52, 53, 637, 638, 639, 640, 641, 642, 643, 644, 645, 646, 647, 648, 607, 608, 609, 610, 611, 612, 613, 614, 615, 649, 650, 651, 652, 653] (by decide +kernel) (by decide +kernel)
set_option maxRecDepth 20000 in
theorem gL_law_X3_init : GoodIn wsL_law (wsX3_init) := ggL_law_X3_init
set_option maxRecDepth 20000 in
theorem ggL_law_X4_init : GoodIn wsL_law wsX4_init := goodIn_r _ [56, 57, 11, 12, 29, 58, 59, 60, 61, 23, 62, 63, 64, 65, 66, 67, 68, 616, 617, 618, 619, 620, 621, 622, 623, 624, 625, 626, 627, 628, 629, 630, 631, 632, 633, 634, 635, 636] (by decide +kernel) (by decide +kernel)
set_option maxRecDepth 20000 in
theorem gL_law_X4_init : GoodIn wsL_law (wsX4_init) := ggL_law_X4_init
set_option maxRecDepth 20000 in
theorem ggL_law_X3_set : GoodIn wsL_law wsX3_set := goodIn_r _ [72, 73, 74, 21, 16, 75, 76, 77, 2, 78, 79, 80, 81, 20, 82, 48, 83, 84, 85, 86, 87, 15, 88, 36, 89, 90, 91, 92, 37, 38, 39, 93, 40, 41, 94, 95, 96, 97, 98, 99, 100, 101, 607, 608, 609, 610, 611, 612, 613, 614, 615, 637, 638, 639, 640, 641, 642, 643, 644, 645, 646, 647, 648, 649, 650, 651] (by decide +kernel) (by decide +kernel)
set_option maxRecDepth 20000 in
theorem gL_law_X3_set : GoodIn wsL_law (wsV RL 13 RX3 yX3_set wsX3_set) := goodIn_app (goodIn_of _ (by decide +kernel)) ggL_law_X3_set
set_option maxRecDepth 20000 in
theorem ggL_law_X4_set : GoodIn wsL_law wsX4_set := goodIn_r _ [105, 58, 106, 107, 5, 108, 109, 110, 111, 112, 113, 60, 616, 617, 618, 619, 620, 621, 622, 623, 624, 625, 626, 627, 628, 629, 630, 631, 632, 633, 634, 635, 636] (by decide +kernel) (by decide +kernel)
set_option maxRecDepth 20000 in
theorem gL_law_X4_set : GoodIn wsL_law (wsV RL 17 RX4 yX4_set wsX4_set) := goodIn_app (goodIn_of _ (by decide +kernel)) ggL_law_X4_set
set_option maxRecDepth 20000 in
theorem ggL_law_X3_write : GoodIn wsL_law wsX3_write := goodIn_r _ [117, 28, 16, 118, 21, 119, 120, 121, 122, 27, 123, 124, 53, 125, 126, 127, 128, 129, 130, 77, 2, 78, 131, 132, 133, 134, 135, 99, 100, 15, 101, 39, 93, 136, 137, 138, 139, 79, 80, 81, 20, 82, 48, 83, 84, 85, 86, 87, 88, 36, 89, 90, 91, 92, 37, 38, 40, 41, 94, 95, 96, 97, 98, 140, 141, 142, 143, 144, 145, 146, 147, 148, 149, 150, 151, 152, 153, 154, 155, 156, 157, 158, 159, 160, 161, 162, 163, 164, 165, 166, 167, 168, 169, 170, 171, 172, 173, 174, 175, 176, 177, 178, 179, 180, 181, 182, 183, 607, 608, 609, 610, 611, 612, 613, 614, 615, 637, 638, 639, 640, 641, 642, 643, 644, 645, 646, 647, 648, 652, 653, 649, 650, 651] (by decide +kernel) (by decide +kernel)
set_option maxRecDepth 20000 in
theorem gL_law_X3_write : GoodIn wsL_law (wsV RL 18 RX3 yX3_write wsX3_write) := goodIn_app (goodIn_of _ (by decide +kernel)) ggL_law_X3_write
set_option maxRecDepth 20000 in
theorem ggL_law_X4_write : GoodIn wsL_law wsX4_write := goodIn_r _ [187, 188, 58, 189, 190, 66, 67, 68, 191, 192, 193, 194, 5, 195, 196, 197, 198, 199, 200, 63, 106, 107, 108, 201, 202, 203, 204, 109, 110, 111, 112, 113, 60, 205, 206, 207, 208, 209, 210, 211, 212, 213, 214, 215, 216, 217, 218, 219, 220, 221, 222, 223, 224, 225, 226, 227, 228, 616, 617, 618, 619, 620, 621, 622, 623, 624, 625, 626, 627, 628, 629, 630, 631, 632, 633, 634, 635, 636] (by decide +kernel) (by decide +kernel)
set_option maxRecDepth 20000 in
theorem gL_law_X4_write : GoodIn wsL_law (wsV RL 22 RX4 yX4_write wsX4_write) := goodIn_app (goodIn_of _ (by decide +kernel)) ggL_law_X4_write
set_option maxRecDepth 20000 in
theorem ggL_law_X3_heat : GoodIn wsL_law wsX3_heat := goodIn_r _ [232, 16, 21, 233, 234, 235, 236, 15, 237, 238, 239, 240, 241, 93, 77, 2, 78, 242, 243, 244, 245, 39, 76, 79, 80, 81, 20, 82, 48, 83, 84, 85, 86, 87, 88, 36, 89, 90, 91, 92, 37, 38, 40, 41, 94, 95, 96, 97, 98, 99, 100, 101, 246, 178, 179, 180, 181, 182, 163, 183, 156, 157, 158, 159, 160, 161, 162, 164, 165, 166, 167, 168, 169, 170, 171, 172, 173, 174, 175, 176, 177, 607, 608, 609, 610, 611, 612, 613, 614, 615, 637, 638, 639, 640, 641, 642, 643, 644, 645, 646, 647, 648, 649, 650, 651] (by decide +kernel) (by decide +kernel)
set_option maxRecDepth 20000 in
theorem gL_law_X3_heat : GoodIn wsL_law (wsV RL 23 RX3 yX3_heat wsX3_heat) := goodIn_app (goodIn_of _ (by decide +kernel)) ggL_law_X3_heat
set_option maxRecDepth 20000 in
theorem ggL_law_X4_heat : GoodIn wsL_law wsX4_heat := goodIn_r _ [250, 251, 252, 253, 5, 254, 58, 255, 256, 257, 258, 106, 107, 108, 109, 110, 111, 112, 113, 60, 217, 218, 219, 220, 225, 226, 227, 228, 205, 206, 207, 208, 209, 210, 211, 212, 213, 214, 215, 216, 221, 222, 223, 224, 616, 617, 618, 619, 620, 621, 622, 623, 624, 625, 626, 627, 628, 629, 630, 631, 632, 633, 634, 635, 636] (by decide +kernel) (by decide +kernel)
set_option maxRecDepth 20000 in
theorem gL_law_X4_heat : GoodIn wsL_law (wsV RL 27 RX4 yX4_heat wsX4_heat) := goodIn_app (goodIn_of _ (by decide +kernel)) ggL_law_X4_heat
set_option maxRecDepth 20000 in
theorem ggL_law_X3_read : GoodIn wsL_law wsX3_read := goodIn_r _ [262, 16, 21, 233, 263, 239, 240, 15, 241, 93, 77, 2, 78, 76, 79, 80, 81, 20, 82, 48, 83, 84, 85, 86, 87, 88, 36, 89, 90, 91, 92, 37, 38, 39, 40, 41, 94, 95, 96, 97, 98, 99, 100, 101, 246, 178, 179, 180, 181, 182, 163, 183, 156, 157, 158, 159, 160, 161, 162, 164, 165, 166, 167, 168, 169, 170, 171, 172, 173, 174, 175, 176, 177, 607, 608, 609, 610, 611, 612, 613, 614, 615, 637, 638, 639, 640, 641, 642, 643, 644, 645, 646, 647, 648, 649, 650, 651] (by decide +kernel) (by decide +kernel)
set_option maxRecDepth 20000 in
theorem gL_law_X3_read : GoodIn wsL_law (wsV RL 28 RX3 yX3_read wsX3_read) := goodIn_app (goodIn_of _ (by decide +kernel)) ggL_law_X3_read
set_option maxRecDepth 20000 in
theorem ggL_law_X4_read : GoodIn wsL_law wsX4_read := goodIn_r _ [267, 58, 255, 256, 257, 5, 258, 106, 107, 108, 109, 110, 111, 112, 113, 60, 217, 218, 219, 220, 225, 226, 227, 228, 205, 206, 207, 208, 209, 210, 211, 212, 213, 214, 215, 216, 221, 222, 223, 224, 616, 617, 618, 619, 620, 621, 622, 623, 624, 625, 626, 627, 628, 629, 630, 631, 632, 633, 634, 635, 636] (by decide +kernel) (by decide +kernel)
set_option maxRecDepth 20000 in
theorem gL_law_X4_read : GoodIn wsL_law (wsV RL 31 RX4 yX4_read wsX4_read) := goodIn_app (goodIn_of _ (by decide +kernel)) ggL_law_X4_read
set_option maxRecDepth 20000 in
theorem ggL_law_X3_fuse : GoodIn wsL_law wsX3_fuse := goodIn_r _ [271, 16, 21, 17, 233, 272, 273, 162, 163, 164, 75, 263, 239, 240, 15, 241, 93, 77, 2, 78, 274, 275, 276, 277, 42, 278, 279, 280, 281, 39, 37, 282, 283, 284, 285, 79, 80, 81, 20, 82, 48, 83, 84, 85, 86, 87, 88, 36, 89, 90, 91, 92, 38, 40, 41, 94, 95, 96, 97, 98, 99, 100, 101, 286, 287, 288, 289, 290, 291, 292, 293, 294, 242, 243, 244, 245, 246, 178, 179, 180, 181, 182, 183, 156, 157, 158, 159, 160, 161, 165, 166, 167, 168, 169, 170, 171, 172, 173, 174, 175, 176, 177, 607, 608, 609, 610, 611, 612, 613, 614, 615, 637, 638, 639, 640, 641, 642, 643, 644, 645, 646, 647, 648, 649, 650, 651] (by decide +kernel) (by decide +kernel)
set_option maxRecDepth 20000 in
theorem gL_law_X3_fuse : GoodIn wsL_law (wsV RL 32 RX3 yX3_fuse wsX3_fuse) := goodIn_app (goodIn_of _ (by decide +kernel)) ggL_law_X3_fuse
set_option maxRecDepth 20000 in
theorem ggL_law_X4_fuse : GoodIn wsL_law wsX4_fuse := goodIn_r _ [298, 58, 64, 65, 255, 256, 257, 5, 258, 106, 107, 108, 299, 300, 301, 302, 303, 304, 305, 306, 217, 218, 219, 220, 109, 110, 111, 112, 113, 60, 307, 308, 309, 310, 311, 312, 313, 314, 225, 226, 227, 228, 205, 206, 207, 208, 209, 210, 211, 212, 213, 214, 215, 216, 221, 222, 223, 224, 616, 617, 618, 619, 620, 621, 622, 623, 624, 625, 626, 627, 628, 629, 630, 631, 632, 633, 634, 635, 636] (by decide +kernel) (by decide +kernel)
set_option maxRecDepth 20000 in
theorem gL_law_X4_fuse : GoodIn wsL_law (wsV RL 35 RX4 yX4_fuse wsX4_fuse) := goodIn_app (goodIn_of _ (by decide +kernel)) ggL_law_X4_fuse
set_option maxRecDepth 20000 in
theorem ggL_law_X3_pass : GoodIn wsL_law wsX3_pass := goodIn_r _ [318, 21, 16, 75, 319, 273, 162, 163, 164, 76, 77, 2, 78, 79, 80, 81, 20, 82, 48, 83, 84, 85, 86, 87, 15, 88, 36, 89, 90, 91, 92, 37, 38, 39, 93, 40, 41, 94, 95, 96, 97, 98, 99, 100, 101, 135, 320, 321, 322, 323, 324, 325, 326, 327, 607, 608, 609, 610, 611, 612, 613, 614, 615, 637, 638, 639, 640, 641, 642, 643, 644, 645, 646, 647, 648, 649, 650, 651] (by decide +kernel) (by decide +kernel)
set_option maxRecDepth 20000 in
theorem gL_law_X3_pass : GoodIn wsL_law (wsV RL 36 RX3 yX3_pass wsX3_pass) := goodIn_app (goodIn_of _ (by decide +kernel)) ggL_law_X3_pass
set_option maxRecDepth 20000 in
theorem ggL_law_X4_pass : GoodIn wsL_law wsX4_pass := goodIn_r _ [331, 58, 106, 107, 5, 108, 109, 110, 111, 112, 113, 60, 332, 333, 334, 335, 616, 617, 618, 619, 620, 621, 622, 623, 624, 625, 626, 627, 628, 629, 630, 631, 632, 633, 634, 635, 636] (by decide +kernel) (by decide +kernel)
set_option maxRecDepth 20000 in
theorem gL_law_X4_pass : GoodIn wsL_law (wsV RL 40 RX4 yX4_pass wsX4_pass) := goodIn_app (goodIn_of _ (by decide +kernel)) ggL_law_X4_pass
set_option maxRecDepth 20000 in
theorem ggL_law_X3_burn : GoodIn wsL_law wsX3_burn := goodIn_r _ [339, 16, 21, 263, 239, 240, 15, 241, 93, 77, 2, 78, 79, 80, 81, 20, 82, 48, 83, 84, 85, 86, 87, 88, 36, 89, 90, 91, 92, 37, 38, 39, 40, 41, 94, 95, 96, 97, 98, 99, 100, 101, 340, 243, 244, 245, 287, 288, 289, 290, 607, 608, 609, 610, 611, 612, 613, 614, 615, 637, 638, 639, 640, 641, 642, 643, 644, 645, 646, 647, 648, 649, 650, 651] (by decide +kernel) (by decide +kernel)
set_option maxRecDepth 20000 in
theorem gL_law_X3_burn : GoodIn wsL_law (wsV RL 41 RX3 yX3_burn wsX3_burn) := goodIn_app (goodIn_of _ (by decide +kernel)) ggL_law_X3_burn
set_option maxRecDepth 20000 in
theorem ggL_law_X4_burn : GoodIn wsL_law wsX4_burn := goodIn_r _ [344, 58, 255, 256, 257, 5, 258, 106, 107, 108, 109, 110, 111, 112, 113, 60, 217, 218, 219, 220, 307, 308, 309, 310, 311, 312, 313, 314, 616, 617, 618, 619, 620, 621, 622, 623, 624, 625, 626, 627, 628, 629, 630, 631, 632, 633, 634, 635, 636] (by decide +kernel) (by decide +kernel)
set_option maxRecDepth 20000 in
theorem gL_law_X4_burn : GoodIn wsL_law (wsV RL 44 RX4 yX4_burn wsX4_burn) := goodIn_app (goodIn_of _ (by decide +kernel)) ggL_law_X4_burn
set_option maxRecDepth 20000 in
theorem ggL_law_X3_word : GoodIn wsL_law wsX3_word := goodIn_r _ [348, 16, 233, 349, 319, 234, 235, 236, 15, 237, 238, 239, 240, 241, 93, 77, 2, 78, 242, 243, 244, 245, 39, 350, 351, 352, 353, 354, 355, 356, 357, 37, 607, 608, 609, 610, 611, 612, 613, 614, 615, 637, 638, 639, 640, 641, 642, 643, 644, 645, 646, 647, 648] (by decide +kernel) (by decide +kernel)
set_option maxRecDepth 20000 in
theorem gL_law_X3_word : GoodIn wsL_law (wsV RL 45 RX3 yX3_word wsX3_word) := goodIn_app (goodIn_of _ (by decide +kernel)) ggL_law_X3_word
set_option maxRecDepth 20000 in
theorem ggL_law_X4_word : GoodIn wsL_law wsX4_word := goodIn_r _ [361, 58, 251, 252, 253, 5, 254, 255, 256, 257, 258, 106, 107, 108, 217, 218, 219, 220, 303, 304, 305, 306, 616, 617, 618, 619, 620, 621, 622, 623, 624, 625, 626, 627, 628, 629, 630, 631, 632, 633, 634, 635, 636] (by decide +kernel) (by decide +kernel)
set_option maxRecDepth 20000 in
theorem gL_law_X4_word : GoodIn wsL_law (wsV RL 48 RX4 yX4_word wsX4_word) := goodIn_app (goodIn_of _ (by decide +kernel)) ggL_law_X4_word
set_option maxRecDepth 20000 in
theorem ggL_law_X3_story : GoodIn wsL_law wsX3_story := goodIn_r _ [365, 16, 366, 272, 263, 239, 240, 15, 241, 93, 77, 2, 78, 340, 243, 244, 245, 39, 367, 368, 369, 370, 324, 325, 326, 327, 38, 274, 275, 276, 277, 42, 278, 279, 280, 281, 37, 282, 283, 284, 285, 371, 372, 373, 374, 375, 376, 377, 378, 379, 380, 381, 382, 242, 607, 608, 609, 610, 611, 612, 613, 614, 615, 637, 638, 639, 640, 641, 642, 643, 644, 645, 646, 647, 648] (by decide +kernel) (by decide +kernel)
set_option maxRecDepth 20000 in
theorem gL_law_X3_story : GoodIn wsL_law (wsV RL 49 RX3 yX3_story wsX3_story) := goodIn_app (goodIn_of _ (by decide +kernel)) ggL_law_X3_story
set_option maxRecDepth 20000 in
theorem ggL_law_X4_story : GoodIn wsL_law wsX4_story := goodIn_r _ [386, 58, 255, 256, 257, 5, 258, 106, 107, 108, 387, 388, 389, 390, 217, 218, 219, 220, 299, 300, 301, 302, 303, 304, 305, 306, 391, 392, 393, 394, 395, 396, 397, 398, 399, 400, 401, 402, 616, 617, 618, 619, 620, 621, 622, 623, 624, 625, 626, 627, 628, 629, 630, 631, 632, 633, 634, 635, 636] (by decide +kernel) (by decide +kernel)
set_option maxRecDepth 20000 in
theorem gL_law_X4_story : GoodIn wsL_law (wsV RL 52 RX4 yX4_story wsX4_story) := goodIn_app (goodIn_of _ (by decide +kernel)) ggL_law_X4_story
set_option maxRecDepth 20000 in
theorem ggL_law_X3_count : GoodIn wsL_law wsX3_count := goodIn_r _ [406, 16, 118, 407, 408, 409, 75, 28, 119, 21, 410, 135, 99, 100, 15, 101, 39, 93, 320, 321, 322, 323, 98, 324, 325, 326, 327, 38, 411, 412, 413, 414, 415, 416, 417, 418, 40, 419, 420, 421, 422, 41, 161, 162, 163, 164, 607, 608, 609, 610, 611, 612, 613, 614, 615, 637, 638, 639, 640, 641, 642, 643, 644, 645, 646, 647, 648, 652, 653, 649, 650, 651] (by decide +kernel) (by decide +kernel)
set_option maxRecDepth 20000 in
theorem gL_law_X3_count : GoodIn wsL_law (wsV RL 53 RX3 yX3_count wsX3_count) := goodIn_app (goodIn_of _ (by decide +kernel)) ggL_law_X3_count
set_option maxRecDepth 20000 in
theorem ggL_law_X4_count : GoodIn wsL_law wsX4_count := goodIn_r _ [426, 58, 191, 113, 332, 333, 334, 5, 335, 427, 428, 429, 430, 431, 432, 433, 434, 616, 617, 618, 619, 620, 621, 622, 623, 624, 625, 626, 627, 628, 629, 630, 631, 632, 633, 634, 635, 636] (by decide +kernel) (by decide +kernel)
set_option maxRecDepth 20000 in
theorem gL_law_X4_count : GoodIn wsL_law (wsV RL 56 RX4 yX4_count wsX4_count) := goodIn_app (goodIn_of _ (by decide +kernel)) ggL_law_X4_count
set_option maxRecDepth 20000 in
theorem ggL_law_X3_letter : GoodIn wsL_law wsX3_letter := goodIn_r _ [438, 16, 439, 440, 2, 441, 76, 77, 78, 442, 443, 444, 15, 445, 98, 99, 100, 101, 39, 93, 354, 355, 356, 357, 37, 446, 447, 448, 449, 450, 351, 352, 353, 451, 452, 453, 454, 455, 275, 276, 277, 42, 278, 279, 280, 281, 282, 283, 284, 285, 456, 457, 458, 459, 38, 607, 608, 609, 610, 611, 612, 613, 614, 615, 637, 638, 639, 640, 641, 642, 643, 644, 645, 646, 647, 648] (by decide +kernel) (by decide +kernel)
set_option maxRecDepth 20000 in
theorem gL_law_X3_letter : GoodIn wsL_law (wsV RL 57 RX3 yX3_letter wsX3_letter) := goodIn_app (goodIn_of _ (by decide +kernel)) ggL_law_X3_letter
set_option maxRecDepth 20000 in
theorem ggL_law_X4_letter : GoodIn wsL_law wsX4_letter := goodIn_r _ [463, 58, 106, 107, 5, 108, 303, 304, 305, 306, 217, 218, 219, 220, 299, 300, 301, 302, 616, 617, 618, 619, 620, 621, 622, 623, 624, 625, 626, 627, 628, 629, 630, 631, 632, 633, 634, 635, 636] (by decide +kernel) (by decide +kernel)
set_option maxRecDepth 20000 in
theorem gL_law_X4_letter : GoodIn wsL_law (wsV RL 60 RX4 yX4_letter wsX4_letter) := goodIn_app (goodIn_of _ (by decide +kernel)) ggL_law_X4_letter
set_option maxRecDepth 20000 in
theorem ggL_law_X3_sideBySide : GoodIn wsL_law wsX3_sideBySide := goodIn_r _ [467, 16, 439, 440, 2, 441, 76, 77, 78, 135, 99, 100, 15, 101, 39, 93, 468, 469, 470, 471, 37, 169, 170, 171, 172, 472, 473, 474, 475, 476, 607, 608, 609, 610, 611, 612, 613, 614, 615, 637, 638, 639, 640, 641, 642, 643, 644, 645, 646, 647, 648] (by decide +kernel) (by decide +kernel)
set_option maxRecDepth 20000 in
theorem gL_law_X3_sideBySide : GoodIn wsL_law (wsV RL 61 RX3 yX3_sideBySide wsX3_sideBySide) := goodIn_app (goodIn_of _ (by decide +kernel)) ggL_law_X3_sideBySide
set_option maxRecDepth 20000 in
theorem ggL_law_X4_sideBySide : GoodIn wsL_law wsX4_sideBySide := goodIn_r _ [480, 58, 106, 107, 5, 108, 217, 218, 219, 220, 616, 617, 618, 619, 620, 621, 622, 623, 624, 625, 626, 627, 628, 629, 630, 631, 632, 633, 634, 635, 636] (by decide +kernel) (by decide +kernel)
set_option maxRecDepth 20000 in
theorem gL_law_X4_sideBySide : GoodIn wsL_law (wsV RL 64 RX4 yX4_sideBySide wsX4_sideBySide) := goodIn_app (goodIn_of _ (by decide +kernel)) ggL_law_X4_sideBySide
set_option maxRecDepth 20000 in
theorem ggL_law_X3_common : GoodIn wsL_law wsX3_common := goodIn_r _ [484, 16, 233, 30, 349, 273, 162, 163, 164, 263, 239, 240, 15, 241, 93, 77, 2, 78, 340, 243, 244, 245, 39, 485, 283, 284, 285, 607, 608, 609, 610, 611, 612, 613, 614, 615, 637, 638, 639, 640, 641, 642, 643, 644, 645, 646, 647, 648] (by decide +kernel) (by decide +kernel)
set_option maxRecDepth 20000 in
theorem gL_law_X3_common : GoodIn wsL_law (wsV RL 65 RX3 yX3_common wsX3_common) := goodIn_app (goodIn_of _ (by decide +kernel)) ggL_law_X3_common
set_option maxRecDepth 20000 in
theorem ggL_law_X4_common : GoodIn wsL_law wsX4_common := goodIn_r _ [489, 58, 255, 256, 257, 5, 258, 106, 107, 108, 217, 218, 219, 220, 616, 617, 618, 619, 620, 621, 622, 623, 624, 625, 626, 627, 628, 629, 630, 631, 632, 633, 634, 635, 636] (by decide +kernel) (by decide +kernel)
set_option maxRecDepth 20000 in
theorem gL_law_X4_common : GoodIn wsL_law (wsV RL 68 RX4 yX4_common wsX4_common) := goodIn_app (goodIn_of _ (by decide +kernel)) ggL_law_X4_common
set_option maxRecDepth 20000 in
theorem ggL_law_X3_ifHeated : GoodIn wsL_law wsX3_ifHeated := goodIn_r _ [493, 16, 233, 17, 407, 118, 234, 235, 236, 15, 237, 238, 239, 240, 241, 93, 77, 2, 78, 242, 243, 244, 245, 39, 76, 494, 495, 496, 497, 286, 86, 87, 88, 36, 89, 90, 91, 92, 37, 38, 40, 41, 94, 95, 96, 97, 98, 99, 100, 101, 246, 178, 179, 180, 181, 182, 163, 183, 156, 157, 158, 159, 160, 161, 162, 164, 165, 166, 167, 168, 169, 170, 171, 172, 173, 174, 175, 176, 177, 320, 321, 322, 323, 324, 325, 326, 327, 607, 608, 609, 610, 611, 612, 613, 614, 615, 637, 638, 639, 640, 641, 642, 643, 644, 645, 646, 647, 648] (by decide +kernel) (by decide +kernel)
set_option maxRecDepth 20000 in
theorem gL_law_X3_ifHeated : GoodIn wsL_law (wsV RL 69 RX3 yX3_ifHeated wsX3_ifHeated) := goodIn_app (goodIn_of _ (by decide +kernel)) ggL_law_X3_ifHeated
set_option maxRecDepth 20000 in
theorem ggL_law_X4_ifHeated : GoodIn wsL_law wsX4_ifHeated := goodIn_r _ [501, 502, 503, 504, 505, 251, 252, 253, 5, 254, 58, 255, 256, 257, 258, 106, 107, 108, 217, 218, 219, 220, 506, 507, 508, 509, 59, 510, 511, 512, 513, 225, 226, 227, 228, 205, 206, 207, 208, 209, 210, 211, 212, 213, 214, 215, 216, 221, 222, 223, 224, 332, 333, 334, 335, 514, 515, 516, 517, 616, 617, 618, 619, 620, 621, 622, 623, 624, 625, 626, 627, 628, 629, 630, 631, 632, 633, 634, 635, 636] (by decide +kernel) (by decide +kernel)
set_option maxRecDepth 20000 in
theorem gL_law_X4_ifHeated : GoodIn wsL_law (wsV RL 73 RX4 yX4_ifHeated wsX4_ifHeated) := goodIn_app (goodIn_of _ (by decide +kernel)) ggL_law_X4_ifHeated
set_option maxRecDepth 20000 in
theorem ggL_law_X3_critical : GoodIn wsL_law wsX3_critical := goodIn_r _ [521, 16, 233, 75, 319, 273, 162, 163, 164, 17, 407, 234, 235, 236, 15, 237, 238, 239, 240, 241, 93, 77, 2, 78, 242, 243, 244, 245, 39, 522, 523, 524, 525, 38, 36, 98, 99, 100, 101, 494, 495, 496, 497, 286, 86, 87, 88, 89, 90, 91, 92, 37, 40, 41, 94, 95, 96, 97, 246, 178, 179, 180, 181, 182, 183, 156, 157, 158, 159, 160, 161, 165, 166, 167, 168, 169, 170, 171, 172, 173, 174, 175, 176, 177, 607, 608, 609, 610, 611, 612, 613, 614, 615, 637, 638, 639, 640, 641, 642, 643, 644, 645, 646, 647, 648] (by decide +kernel) (by decide +kernel)
set_option maxRecDepth 20000 in
theorem gL_law_X3_critical : GoodIn wsL_law (wsV RL 74 RX3 yX3_critical wsX3_critical) := goodIn_app (goodIn_of _ (by decide +kernel)) ggL_law_X3_critical
set_option maxRecDepth 20000 in
theorem ggL_law_X4_critical : GoodIn wsL_law wsX4_critical := goodIn_r _ [529, 503, 251, 252, 253, 5, 254, 58, 255, 256, 257, 258, 106, 107, 108, 217, 218, 219, 220, 506, 507, 508, 509, 502, 59, 504, 505, 510, 511, 512, 513, 225, 226, 227, 228, 205, 206, 207, 208, 209, 210, 211, 212, 213, 214, 215, 216, 221, 222, 223, 224, 332, 333, 334, 335, 514, 515, 516, 517, 616, 617, 618, 619, 620, 621, 622, 623, 624, 625, 626, 627, 628, 629, 630, 631, 632, 633, 634, 635, 636] (by decide +kernel) (by decide +kernel)
set_option maxRecDepth 20000 in
theorem gL_law_X4_critical : GoodIn wsL_law (wsV RL 77 RX4 yX4_critical wsX4_critical) := goodIn_app (goodIn_of _ (by decide +kernel)) ggL_law_X4_critical
set_option maxRecDepth 20000 in
theorem ggL_law_X3_touchiest : GoodIn wsL_law wsX3_touchiest := goodIn_r _ [533, 16, 118, 319, 75, 76, 77, 2, 78, 522, 523, 524, 15, 525, 38, 36, 98, 99, 100, 101, 39, 93, 135, 494, 495, 496, 497, 17, 286, 86, 87, 88, 89, 90, 91, 92, 37, 40, 41, 94, 95, 96, 97, 246, 178, 179, 180, 181, 182, 163, 183, 156, 157, 158, 159, 160, 161, 162, 164, 165, 166, 167, 168, 169, 170, 171, 172, 173, 174, 175, 176, 177, 472, 473, 474, 475, 476, 607, 608, 609, 610, 611, 612, 613, 614, 615, 637, 638, 639, 640, 641, 642, 643, 644, 645, 646, 647, 648] (by decide +kernel) (by decide +kernel)
set_option maxRecDepth 20000 in
theorem gL_law_X3_touchiest : GoodIn wsL_law (wsV RL 78 RX3 yX3_touchiest wsX3_touchiest) := goodIn_app (goodIn_of _ (by decide +kernel)) ggL_law_X3_touchiest
set_option maxRecDepth 20000 in
theorem ggL_law_X4_touchiest : GoodIn wsL_law wsX4_touchiest := goodIn_r _ [537, 58, 502, 106, 107, 5, 108, 506, 507, 508, 509, 59, 503, 504, 505, 510, 511, 512, 513, 225, 226, 227, 228, 205, 206, 207, 208, 209, 210, 211, 212, 213, 214, 215, 216, 217, 218, 219, 220, 221, 222, 223, 224, 332, 333, 334, 335, 514, 515, 516, 517, 616, 617, 618, 619, 620, 621, 622, 623, 624, 625, 626, 627, 628, 629, 630, 631, 632, 633, 634, 635, 636] (by decide +kernel) (by decide +kernel)
set_option maxRecDepth 20000 in
theorem gL_law_X4_touchiest : GoodIn wsL_law (wsV RL 81 RX4 yX4_touchiest wsX4_touchiest) := goodIn_app (goodIn_of _ (by decide +kernel)) ggL_law_X4_touchiest
set_option maxRecDepth 20000 in
theorem ggL_law_X3_coolestPair : GoodIn wsL_law wsX3_coolestPair := goodIn_r _ [541, 16, 118, 31, 32, 76, 77, 2, 78, 274, 275, 276, 15, 277, 42, 278, 279, 280, 281, 39, 37, 282, 283, 284, 285, 367, 368, 369, 370, 324, 325, 326, 327, 38, 607, 608, 609, 610, 611, 612, 613, 614, 615, 637, 638, 639, 640, 641, 642, 643, 644, 645, 646, 647, 648] (by decide +kernel) (by decide +kernel)
set_option maxRecDepth 20000 in
theorem gL_law_X3_coolestPair : GoodIn wsL_law (wsV RL 82 RX3 yX3_coolestPair wsX3_coolestPair) := goodIn_app (goodIn_of _ (by decide +kernel)) ggL_law_X3_coolestPair
set_option maxRecDepth 20000 in
theorem ggL_law_X4_coolestPair : GoodIn wsL_law wsX4_coolestPair := goodIn_r _ [545, 58, 106, 107, 5, 108, 387, 388, 389, 390, 217, 218, 219, 220, 299, 300, 301, 302, 303, 304, 305, 306, 616, 617, 618, 619, 620, 621, 622, 623, 624, 625, 626, 627, 628, 629, 630, 631, 632, 633, 634, 635, 636] (by decide +kernel) (by decide +kernel)
set_option maxRecDepth 20000 in
theorem gL_law_X4_coolestPair : GoodIn wsL_law (wsV RL 85 RX4 yX4_coolestPair wsX4_coolestPair) := goodIn_app (goodIn_of _ (by decide +kernel)) ggL_law_X4_coolestPair
set_option maxRecDepth 20000 in
theorem ggL_law_X3_put : GoodIn wsL_law wsX3_put := goodIn_r _ [549, 28, 119, 550, 551, 27, 552, 553, 77, 2, 78, 554, 555, 556, 557, 53, 124, 607, 608, 609, 610, 611, 612, 613, 614, 615, 652, 653] (by decide +kernel) (by decide +kernel)
set_option maxRecDepth 20000 in
theorem gL_law_X3_put : GoodIn wsL_law (wsV RL 88 RX3 yX3_put wsX3_put) := goodIn_app (goodIn_of _ (by decide +kernel)) ggL_law_X3_put
set_option maxRecDepth 20000 in
theorem ggL_law_X4_put : GoodIn wsL_law wsX4_put := goodIn_r _ [561, 562, 191, 63, 106, 107, 5, 108, 616, 617, 618, 619, 620, 621, 622, 623, 624, 625, 626, 627, 628, 629, 630, 631, 632, 633, 634, 635, 636] (by decide +kernel) (by decide +kernel)
set_option maxRecDepth 20000 in
theorem gL_law_X4_put : GoodIn wsL_law (wsV RL 92 RX4 yX4_put wsX4_put) := goodIn_app (goodIn_of _ (by decide +kernel)) ggL_law_X4_put
set_option maxRecDepth 20000 in
theorem ggL_law_X3_wipe : GoodIn wsL_law wsX3_wipe := goodIn_r _ [566, 28, 119, 607, 608, 609, 610, 611, 612, 613, 614, 615, 652, 653] (by decide +kernel) (by decide +kernel)
set_option maxRecDepth 20000 in
theorem gL_law_X3_wipe : GoodIn wsL_law (wsV RL 93 RX3 yX3_wipe wsX3_wipe) := goodIn_app (goodIn_of _ (by decide +kernel)) ggL_law_X3_wipe
set_option maxRecDepth 20000 in
theorem ggL_law_X4_wipe : GoodIn wsL_law wsX4_wipe := goodIn_r _ [570, 191, 616, 617, 618, 619, 620, 621, 622, 623, 624, 625, 626, 627, 628, 629, 630, 631, 632, 633, 634, 635, 636] (by decide +kernel) (by decide +kernel)
set_option maxRecDepth 20000 in
theorem gL_law_X4_wipe : GoodIn wsL_law (wsV RL 96 RX4 yX4_wipe wsX4_wipe) := goodIn_app (goodIn_of _ (by decide +kernel)) ggL_law_X4_wipe
set_option maxRecDepth 20000 in
theorem ggL_law_X3_fault : GoodIn wsL_law wsX3_fault := goodIn_r _ [574, 28, 120, 121, 122, 27, 123, 124, 53, 125, 126, 127, 128, 129, 130, 77, 2, 78, 607, 608, 609, 610, 611, 612, 613, 614, 615, 652, 653] (by decide +kernel) (by decide +kernel)
set_option maxRecDepth 20000 in
theorem gL_law_X3_fault : GoodIn wsL_law (wsV RL 97 RX3 yX3_fault wsX3_fault) := goodIn_app (goodIn_of _ (by decide +kernel)) ggL_law_X3_fault
set_option maxRecDepth 20000 in
theorem ggL_law_X4_fault : GoodIn wsL_law wsX4_fault := goodIn_r _ [578, 188, 196, 192, 193, 194, 5, 195, 190, 189, 66, 67, 68, 191, 197, 198, 199, 200, 63, 106, 107, 108, 201, 202, 203, 204, 616, 617, 618, 619, 620, 621, 622, 623, 624, 625, 626, 627, 628, 629, 630, 631, 632, 633, 634, 635, 636] (by decide +kernel) (by decide +kernel)
set_option maxRecDepth 20000 in
theorem gL_law_X4_fault : GoodIn wsL_law (wsV RL 100 RX4 yX4_fault wsX4_fault) := goodIn_app (goodIn_of _ (by decide +kernel)) ggL_law_X4_fault
set_option maxRecDepth 20000 in
theorem ggL_law_X3_undo : GoodIn wsL_law wsX3_undo := goodIn_r _ [582, 21, 410, 16, 583, 584, 585, 20, 586, 84, 48, 83, 85, 86, 87, 15, 88, 36, 89, 90, 91, 92, 37, 38, 39, 93, 40, 41, 94, 95, 96, 97, 98, 99, 100, 101, 607, 608, 609, 610, 611, 612, 613, 614, 615, 649, 650, 651, 637, 638, 639, 640, 641, 642, 643, 644, 645, 646, 647, 648] (by decide +kernel) (by decide +kernel)
set_option maxRecDepth 20000 in
theorem gL_law_X3_undo : GoodIn wsL_law (wsV RL 101 RX3 yX3_undo wsX3_undo) := goodIn_app (goodIn_of _ (by decide +kernel)) ggL_law_X3_undo
set_option maxRecDepth 20000 in
theorem ggL_law_X4_undo : GoodIn wsL_law wsX4_undo := goodIn_r _ [590, 113, 58, 60, 616, 617, 618, 619, 620, 621, 622, 623, 624, 625, 626, 627, 628, 629, 630, 631, 632, 633, 634, 635, 636] (by decide +kernel) (by decide +kernel)
set_option maxRecDepth 20000 in
theorem gL_law_X4_undo : GoodIn wsL_law (wsV RL 104 RX4 yX4_undo wsX4_undo) := goodIn_app (goodIn_of _ (by decide +kernel)) ggL_law_X4_undo
set_option maxRecDepth 20000 in
theorem ggL_law_X3_save : GoodIn wsL_law wsX3_save := goodIn_r _ [594, 22, 16, 24, 118, 76, 77, 2, 78, 286, 86, 87, 15, 88, 36, 89, 90, 91, 92, 37, 38, 39, 93, 40, 41, 94, 95, 96, 97, 98, 99, 100, 101, 607, 608, 609, 610, 611, 612, 613, 614, 615, 637, 638, 639, 640, 641, 642, 643, 644, 645, 646, 647, 648] (by decide +kernel) (by decide +kernel)
set_option maxRecDepth 20000 in
theorem gL_law_X3_save : GoodIn wsL_law (wsV RL 105 RX3 yX3_save wsX3_save) := goodIn_app (goodIn_of _ (by decide +kernel)) ggL_law_X3_save
set_option maxRecDepth 20000 in
theorem ggL_law_X4_save : GoodIn wsL_law wsX4_save := goodIn_r _ [598, 61, 58, 62, 106, 107, 5, 108, 616, 617, 618, 619, 620, 621, 622, 623, 624, 625, 626, 627, 628, 629, 630, 631, 632, 633, 634, 635, 636] (by decide +kernel) (by decide +kernel)
set_option maxRecDepth 20000 in
theorem gL_law_X4_save : GoodIn wsL_law (wsV RL 108 RX4 yX4_save wsX4_save) := goodIn_app (goodIn_of _ (by decide +kernel)) ggL_law_X4_save
set_option maxRecDepth 20000 in
theorem ggL_law_X3_restore : GoodIn wsL_law wsX3_restore := goodIn_r _ [602, 24, 21, 16, 22, 118, 76, 77, 2, 78, 79, 80, 81, 20, 82, 48, 83, 84, 85, 86, 87, 15, 88, 36, 89, 90, 91, 92, 37, 38, 39, 93, 40, 41, 94, 95, 96, 97, 98, 99, 100, 101, 286, 607, 608, 609, 610, 611, 612, 613, 614, 615, 637, 638, 639, 640, 641, 642, 643, 644, 645, 646, 647, 648, 649, 650, 651] (by decide +kernel) (by decide +kernel)
set_option maxRecDepth 20000 in
theorem gL_law_X3_restore : GoodIn wsL_law (wsV RL 109 RX3 yX3_restore wsX3_restore) := goodIn_app (goodIn_of _ (by decide +kernel)) ggL_law_X3_restore
set_option maxRecDepth 20000 in
theorem ggL_law_X4_restore : GoodIn wsL_law wsX4_restore := goodIn_r _ [606, 62, 58, 61, 106, 107, 5, 108, 109, 110, 111, 112, 113, 60, 616, 617, 618, 619, 620, 621, 622, 623, 624, 625, 626, 627, 628, 629, 630, 631, 632, 633, 634, 635, 636] (by decide +kernel) (by decide +kernel)
set_option maxRecDepth 20000 in
theorem gL_law_X4_restore : GoodIn wsL_law (wsV RL 112 RX4 yX4_restore wsX4_restore) := goodIn_app (goodIn_of _ (by decide +kernel)) ggL_law_X4_restore
theorem dL_law_0 : decode cL_law 0 = .ok (.new 7, 3) := by decide +kernel
theorem dL_law_3 : decode cL_law 3 = .ok (.dup, 1) := by decide +kernel
theorem dL_law_4 : decode cL_law 4 = .ok (.invokespecial 9, 3) := by decide +kernel
theorem dL_law_7 : decode cL_law 7 = .ok (.astore_n 1, 1) := by decide +kernel
theorem dL_law_8 : decode cL_law 8 = .ok (.new 10, 3) := by decide +kernel
theorem dL_law_11 : decode cL_law 11 = .ok (.dup, 1) := by decide +kernel
theorem dL_law_12 : decode cL_law 12 = .ok (.invokespecial 12, 3) := by decide +kernel
theorem dL_law_15 : decode cL_law 15 = .ok (.astore_n 2, 1) := by decide +kernel
theorem dL_law_16 : decode cL_law 16 = .ok (.iconst 0, 1) := by decide +kernel
theorem dL_law_17 : decode cL_law 17 = .ok (.istore_n 3, 1) := by decide +kernel
theorem dL_law_18 : decode cL_law 18 = .ok (.iload_n 3, 1) := by decide +kernel
theorem dL_law_19 : decode cL_law 19 = .ok (.aload_n 0, 1) := by decide +kernel
theorem dL_law_20 : decode cL_law 20 = .ok (.arraylength, 1) := by decide +kernel
theorem dL_law_21 : decode cL_law 21 = .ok (.iconst 5, 1) := by decide +kernel
theorem dL_law_22 : decode cL_law 22 = .ok (.isub, 1) := by decide +kernel
theorem dL_law_23 : decode cL_law 23 = .ok (.if_icmp .gt 812, 3) := by decide +kernel
theorem dL_law_26 : decode cL_law 26 = .ok (.aload_n 0, 1) := by decide +kernel
theorem dL_law_27 : decode cL_law 27 = .ok (.iload_n 3, 1) := by decide +kernel
theorem dL_law_28 : decode cL_law 28 = .ok (.iaload, 1) := by decide +kernel
theorem dL_law_29 : decode cL_law 29 = .ok (.bipush 31, 2) := by decide +kernel
theorem dL_law_31 : decode cL_law 31 = .ok (.iand, 1) := by decide +kernel
theorem dL_law_32 : decode cL_law 32 = .ok (.tableswitch 797 0 22 #[108, 141, 154, 197, 230, 263, 286, 309, 352, 385, 408, 441, 484, 517, 570, 603, 636, 659, 712, 725, 738, 751, 774], 108) := by decide +kernel
theorem dL_law_140 : decode cL_law 140 = .ok (.aload_n 1, 1) := by decide +kernel
theorem dL_law_141 : decode cL_law 141 = .ok (.aload_n 0, 1) := by decide +kernel
theorem dL_law_142 : decode cL_law 142 = .ok (.iload_n 3, 1) := by decide +kernel
theorem dL_law_143 : decode cL_law 143 = .ok (.iconst 1, 1) := by decide +kernel
theorem dL_law_144 : decode cL_law 144 = .ok (.iadd, 1) := by decide +kernel
theorem dL_law_145 : decode cL_law 145 = .ok (.iaload, 1) := by decide +kernel
theorem dL_law_146 : decode cL_law 146 = .ok (.aload_n 0, 1) := by decide +kernel
theorem dL_law_147 : decode cL_law 147 = .ok (.iload_n 3, 1) := by decide +kernel
theorem dL_law_148 : decode cL_law 148 = .ok (.iconst 2, 1) := by decide +kernel
theorem dL_law_149 : decode cL_law 149 = .ok (.iadd, 1) := by decide +kernel
theorem dL_law_150 : decode cL_law 150 = .ok (.iaload, 1) := by decide +kernel
theorem dL_law_151 : decode cL_law 151 = .ok (.invokevirtual 13, 3) := by decide +kernel
theorem dL_law_154 : decode cL_law 154 = .ok (.aload_n 2, 1) := by decide +kernel
theorem dL_law_155 : decode cL_law 155 = .ok (.aload_n 0, 1) := by decide +kernel
theorem dL_law_156 : decode cL_law 156 = .ok (.iload_n 3, 1) := by decide +kernel
theorem dL_law_157 : decode cL_law 157 = .ok (.iconst 1, 1) := by decide +kernel
theorem dL_law_158 : decode cL_law 158 = .ok (.iadd, 1) := by decide +kernel
theorem dL_law_159 : decode cL_law 159 = .ok (.iaload, 1) := by decide +kernel
theorem dL_law_160 : decode cL_law 160 = .ok (.aload_n 0, 1) := by decide +kernel
theorem dL_law_161 : decode cL_law 161 = .ok (.iload_n 3, 1) := by decide +kernel
theorem dL_law_162 : decode cL_law 162 = .ok (.iconst 2, 1) := by decide +kernel
theorem dL_law_163 : decode cL_law 163 = .ok (.iadd, 1) := by decide +kernel
theorem dL_law_164 : decode cL_law 164 = .ok (.iaload, 1) := by decide +kernel
theorem dL_law_165 : decode cL_law 165 = .ok (.invokevirtual 17, 3) := by decide +kernel
theorem dL_law_168 : decode cL_law 168 = .ok (.if_icmp .eq 661, 3) := by decide +kernel
theorem dL_law_171 : decode cL_law 171 = .ok (.iconst 0, 1) := by decide +kernel
theorem dL_law_172 : decode cL_law 172 = .ok (.ireturn, 1) := by decide +kernel
theorem dL_law_173 : decode cL_law 173 = .ok (.aload_n 1, 1) := by decide +kernel
theorem dL_law_174 : decode cL_law 174 = .ok (.invokevirtual 18, 3) := by decide +kernel
theorem dL_law_177 : decode cL_law 177 = .ok (.aload_n 2, 1) := by decide +kernel
theorem dL_law_178 : decode cL_law 178 = .ok (.invokevirtual 22, 3) := by decide +kernel
theorem dL_law_181 : decode cL_law 181 = .ok (.if_icmp .eq 648, 3) := by decide +kernel
theorem dL_law_184 : decode cL_law 184 = .ok (.iconst 0, 1) := by decide +kernel
theorem dL_law_185 : decode cL_law 185 = .ok (.ireturn, 1) := by decide +kernel
theorem dL_law_186 : decode cL_law 186 = .ok (.aload_n 1, 1) := by decide +kernel
theorem dL_law_187 : decode cL_law 187 = .ok (.aload_n 0, 1) := by decide +kernel
theorem dL_law_188 : decode cL_law 188 = .ok (.iload_n 3, 1) := by decide +kernel
theorem dL_law_189 : decode cL_law 189 = .ok (.iconst 1, 1) := by decide +kernel
theorem dL_law_190 : decode cL_law 190 = .ok (.iadd, 1) := by decide +kernel
theorem dL_law_191 : decode cL_law 191 = .ok (.iaload, 1) := by decide +kernel
theorem dL_law_192 : decode cL_law 192 = .ok (.aload_n 0, 1) := by decide +kernel
theorem dL_law_193 : decode cL_law 193 = .ok (.iload_n 3, 1) := by decide +kernel
theorem dL_law_194 : decode cL_law 194 = .ok (.iconst 2, 1) := by decide +kernel
theorem dL_law_195 : decode cL_law 195 = .ok (.iadd, 1) := by decide +kernel
theorem dL_law_196 : decode cL_law 196 = .ok (.iaload, 1) := by decide +kernel
theorem dL_law_197 : decode cL_law 197 = .ok (.aload_n 0, 1) := by decide +kernel
theorem dL_law_198 : decode cL_law 198 = .ok (.iload_n 3, 1) := by decide +kernel
theorem dL_law_199 : decode cL_law 199 = .ok (.iconst 3, 1) := by decide +kernel
theorem dL_law_200 : decode cL_law 200 = .ok (.iadd, 1) := by decide +kernel
theorem dL_law_201 : decode cL_law 201 = .ok (.iaload, 1) := by decide +kernel
theorem dL_law_202 : decode cL_law 202 = .ok (.invokevirtual 23, 3) := by decide +kernel
theorem dL_law_205 : decode cL_law 205 = .ok (.aload_n 2, 1) := by decide +kernel
theorem dL_law_206 : decode cL_law 206 = .ok (.aload_n 0, 1) := by decide +kernel
theorem dL_law_207 : decode cL_law 207 = .ok (.iload_n 3, 1) := by decide +kernel
theorem dL_law_208 : decode cL_law 208 = .ok (.iconst 1, 1) := by decide +kernel
theorem dL_law_209 : decode cL_law 209 = .ok (.iadd, 1) := by decide +kernel
theorem dL_law_210 : decode cL_law 210 = .ok (.iaload, 1) := by decide +kernel
theorem dL_law_211 : decode cL_law 211 = .ok (.aload_n 0, 1) := by decide +kernel
theorem dL_law_212 : decode cL_law 212 = .ok (.iload_n 3, 1) := by decide +kernel
theorem dL_law_213 : decode cL_law 213 = .ok (.iconst 2, 1) := by decide +kernel
theorem dL_law_214 : decode cL_law 214 = .ok (.iadd, 1) := by decide +kernel
theorem dL_law_215 : decode cL_law 215 = .ok (.iaload, 1) := by decide +kernel
theorem dL_law_216 : decode cL_law 216 = .ok (.aload_n 0, 1) := by decide +kernel
theorem dL_law_217 : decode cL_law 217 = .ok (.iload_n 3, 1) := by decide +kernel
theorem dL_law_218 : decode cL_law 218 = .ok (.iconst 3, 1) := by decide +kernel
theorem dL_law_219 : decode cL_law 219 = .ok (.iadd, 1) := by decide +kernel
theorem dL_law_220 : decode cL_law 220 = .ok (.iaload, 1) := by decide +kernel
theorem dL_law_221 : decode cL_law 221 = .ok (.invokevirtual 27, 3) := by decide +kernel
theorem dL_law_224 : decode cL_law 224 = .ok (.if_icmp .eq 605, 3) := by decide +kernel
theorem dL_law_227 : decode cL_law 227 = .ok (.iconst 0, 1) := by decide +kernel
theorem dL_law_228 : decode cL_law 228 = .ok (.ireturn, 1) := by decide +kernel
theorem dL_law_229 : decode cL_law 229 = .ok (.aload_n 1, 1) := by decide +kernel
theorem dL_law_230 : decode cL_law 230 = .ok (.aload_n 0, 1) := by decide +kernel
theorem dL_law_231 : decode cL_law 231 = .ok (.iload_n 3, 1) := by decide +kernel
theorem dL_law_232 : decode cL_law 232 = .ok (.iconst 1, 1) := by decide +kernel
theorem dL_law_233 : decode cL_law 233 = .ok (.iadd, 1) := by decide +kernel
theorem dL_law_234 : decode cL_law 234 = .ok (.iaload, 1) := by decide +kernel
theorem dL_law_235 : decode cL_law 235 = .ok (.aload_n 0, 1) := by decide +kernel
theorem dL_law_236 : decode cL_law 236 = .ok (.iload_n 3, 1) := by decide +kernel
theorem dL_law_237 : decode cL_law 237 = .ok (.iconst 2, 1) := by decide +kernel
theorem dL_law_238 : decode cL_law 238 = .ok (.iadd, 1) := by decide +kernel
theorem dL_law_239 : decode cL_law 239 = .ok (.iaload, 1) := by decide +kernel
theorem dL_law_240 : decode cL_law 240 = .ok (.invokevirtual 28, 3) := by decide +kernel
theorem dL_law_243 : decode cL_law 243 = .ok (.aload_n 2, 1) := by decide +kernel
theorem dL_law_244 : decode cL_law 244 = .ok (.aload_n 0, 1) := by decide +kernel
theorem dL_law_245 : decode cL_law 245 = .ok (.iload_n 3, 1) := by decide +kernel
theorem dL_law_246 : decode cL_law 246 = .ok (.iconst 1, 1) := by decide +kernel
theorem dL_law_247 : decode cL_law 247 = .ok (.iadd, 1) := by decide +kernel
theorem dL_law_248 : decode cL_law 248 = .ok (.iaload, 1) := by decide +kernel
theorem dL_law_249 : decode cL_law 249 = .ok (.aload_n 0, 1) := by decide +kernel
theorem dL_law_250 : decode cL_law 250 = .ok (.iload_n 3, 1) := by decide +kernel
theorem dL_law_251 : decode cL_law 251 = .ok (.iconst 2, 1) := by decide +kernel
theorem dL_law_252 : decode cL_law 252 = .ok (.iadd, 1) := by decide +kernel
theorem dL_law_253 : decode cL_law 253 = .ok (.iaload, 1) := by decide +kernel
theorem dL_law_254 : decode cL_law 254 = .ok (.invokevirtual 31, 3) := by decide +kernel
theorem dL_law_257 : decode cL_law 257 = .ok (.if_icmp .eq 572, 3) := by decide +kernel
theorem dL_law_260 : decode cL_law 260 = .ok (.iconst 0, 1) := by decide +kernel
theorem dL_law_261 : decode cL_law 261 = .ok (.ireturn, 1) := by decide +kernel
theorem dL_law_262 : decode cL_law 262 = .ok (.aload_n 1, 1) := by decide +kernel
theorem dL_law_263 : decode cL_law 263 = .ok (.aload_n 0, 1) := by decide +kernel
theorem dL_law_264 : decode cL_law 264 = .ok (.iload_n 3, 1) := by decide +kernel
theorem dL_law_265 : decode cL_law 265 = .ok (.iconst 1, 1) := by decide +kernel
theorem dL_law_266 : decode cL_law 266 = .ok (.iadd, 1) := by decide +kernel
theorem dL_law_267 : decode cL_law 267 = .ok (.iaload, 1) := by decide +kernel
theorem dL_law_268 : decode cL_law 268 = .ok (.aload_n 0, 1) := by decide +kernel
theorem dL_law_269 : decode cL_law 269 = .ok (.iload_n 3, 1) := by decide +kernel
theorem dL_law_270 : decode cL_law 270 = .ok (.iconst 2, 1) := by decide +kernel
theorem dL_law_271 : decode cL_law 271 = .ok (.iadd, 1) := by decide +kernel
theorem dL_law_272 : decode cL_law 272 = .ok (.iaload, 1) := by decide +kernel
theorem dL_law_273 : decode cL_law 273 = .ok (.invokevirtual 32, 3) := by decide +kernel
theorem dL_law_276 : decode cL_law 276 = .ok (.aload_n 2, 1) := by decide +kernel
theorem dL_law_277 : decode cL_law 277 = .ok (.aload_n 0, 1) := by decide +kernel
theorem dL_law_278 : decode cL_law 278 = .ok (.iload_n 3, 1) := by decide +kernel
theorem dL_law_279 : decode cL_law 279 = .ok (.iconst 1, 1) := by decide +kernel
theorem dL_law_280 : decode cL_law 280 = .ok (.iadd, 1) := by decide +kernel
theorem dL_law_281 : decode cL_law 281 = .ok (.iaload, 1) := by decide +kernel
theorem dL_law_282 : decode cL_law 282 = .ok (.aload_n 0, 1) := by decide +kernel
theorem dL_law_283 : decode cL_law 283 = .ok (.iload_n 3, 1) := by decide +kernel
theorem dL_law_284 : decode cL_law 284 = .ok (.iconst 2, 1) := by decide +kernel
theorem dL_law_285 : decode cL_law 285 = .ok (.iadd, 1) := by decide +kernel
theorem dL_law_286 : decode cL_law 286 = .ok (.iaload, 1) := by decide +kernel
theorem dL_law_287 : decode cL_law 287 = .ok (.invokevirtual 35, 3) := by decide +kernel
theorem dL_law_290 : decode cL_law 290 = .ok (.if_icmp .eq 539, 3) := by decide +kernel
theorem dL_law_293 : decode cL_law 293 = .ok (.iconst 0, 1) := by decide +kernel
theorem dL_law_294 : decode cL_law 294 = .ok (.ireturn, 1) := by decide +kernel
theorem dL_law_295 : decode cL_law 295 = .ok (.aload_n 1, 1) := by decide +kernel
theorem dL_law_296 : decode cL_law 296 = .ok (.aload_n 0, 1) := by decide +kernel
theorem dL_law_297 : decode cL_law 297 = .ok (.iload_n 3, 1) := by decide +kernel
theorem dL_law_298 : decode cL_law 298 = .ok (.iconst 1, 1) := by decide +kernel
theorem dL_law_299 : decode cL_law 299 = .ok (.iadd, 1) := by decide +kernel
theorem dL_law_300 : decode cL_law 300 = .ok (.iaload, 1) := by decide +kernel
theorem dL_law_301 : decode cL_law 301 = .ok (.invokevirtual 36, 3) := by decide +kernel
theorem dL_law_304 : decode cL_law 304 = .ok (.aload_n 2, 1) := by decide +kernel
theorem dL_law_305 : decode cL_law 305 = .ok (.aload_n 0, 1) := by decide +kernel
theorem dL_law_306 : decode cL_law 306 = .ok (.iload_n 3, 1) := by decide +kernel
theorem dL_law_307 : decode cL_law 307 = .ok (.iconst 1, 1) := by decide +kernel
theorem dL_law_308 : decode cL_law 308 = .ok (.iadd, 1) := by decide +kernel
theorem dL_law_309 : decode cL_law 309 = .ok (.iaload, 1) := by decide +kernel
theorem dL_law_310 : decode cL_law 310 = .ok (.invokevirtual 40, 3) := by decide +kernel
theorem dL_law_313 : decode cL_law 313 = .ok (.if_icmp .eq 516, 3) := by decide +kernel
theorem dL_law_316 : decode cL_law 316 = .ok (.iconst 0, 1) := by decide +kernel
theorem dL_law_317 : decode cL_law 317 = .ok (.ireturn, 1) := by decide +kernel
theorem dL_law_318 : decode cL_law 318 = .ok (.aload_n 1, 1) := by decide +kernel
theorem dL_law_319 : decode cL_law 319 = .ok (.aload_n 0, 1) := by decide +kernel
theorem dL_law_320 : decode cL_law 320 = .ok (.iload_n 3, 1) := by decide +kernel
theorem dL_law_321 : decode cL_law 321 = .ok (.iconst 1, 1) := by decide +kernel
theorem dL_law_322 : decode cL_law 322 = .ok (.iadd, 1) := by decide +kernel
theorem dL_law_323 : decode cL_law 323 = .ok (.iaload, 1) := by decide +kernel
theorem dL_law_324 : decode cL_law 324 = .ok (.invokevirtual 41, 3) := by decide +kernel
theorem dL_law_327 : decode cL_law 327 = .ok (.aload_n 2, 1) := by decide +kernel
theorem dL_law_328 : decode cL_law 328 = .ok (.aload_n 0, 1) := by decide +kernel
theorem dL_law_329 : decode cL_law 329 = .ok (.iload_n 3, 1) := by decide +kernel
theorem dL_law_330 : decode cL_law 330 = .ok (.iconst 1, 1) := by decide +kernel
theorem dL_law_331 : decode cL_law 331 = .ok (.iadd, 1) := by decide +kernel
theorem dL_law_332 : decode cL_law 332 = .ok (.iaload, 1) := by decide +kernel
theorem dL_law_333 : decode cL_law 333 = .ok (.invokevirtual 44, 3) := by decide +kernel
theorem dL_law_336 : decode cL_law 336 = .ok (.if_icmp .eq 493, 3) := by decide +kernel
theorem dL_law_339 : decode cL_law 339 = .ok (.iconst 0, 1) := by decide +kernel
theorem dL_law_340 : decode cL_law 340 = .ok (.ireturn, 1) := by decide +kernel
theorem dL_law_341 : decode cL_law 341 = .ok (.aload_n 1, 1) := by decide +kernel
theorem dL_law_342 : decode cL_law 342 = .ok (.aload_n 0, 1) := by decide +kernel
theorem dL_law_343 : decode cL_law 343 = .ok (.iload_n 3, 1) := by decide +kernel
theorem dL_law_344 : decode cL_law 344 = .ok (.iconst 1, 1) := by decide +kernel
theorem dL_law_345 : decode cL_law 345 = .ok (.iadd, 1) := by decide +kernel
theorem dL_law_346 : decode cL_law 346 = .ok (.iaload, 1) := by decide +kernel
theorem dL_law_347 : decode cL_law 347 = .ok (.aload_n 0, 1) := by decide +kernel
theorem dL_law_348 : decode cL_law 348 = .ok (.iload_n 3, 1) := by decide +kernel
theorem dL_law_349 : decode cL_law 349 = .ok (.iconst 2, 1) := by decide +kernel
theorem dL_law_350 : decode cL_law 350 = .ok (.iadd, 1) := by decide +kernel
theorem dL_law_351 : decode cL_law 351 = .ok (.iaload, 1) := by decide +kernel
theorem dL_law_352 : decode cL_law 352 = .ok (.aload_n 0, 1) := by decide +kernel
theorem dL_law_353 : decode cL_law 353 = .ok (.iload_n 3, 1) := by decide +kernel
theorem dL_law_354 : decode cL_law 354 = .ok (.iconst 3, 1) := by decide +kernel
theorem dL_law_355 : decode cL_law 355 = .ok (.iadd, 1) := by decide +kernel
theorem dL_law_356 : decode cL_law 356 = .ok (.iaload, 1) := by decide +kernel
theorem dL_law_357 : decode cL_law 357 = .ok (.invokevirtual 45, 3) := by decide +kernel
theorem dL_law_360 : decode cL_law 360 = .ok (.aload_n 2, 1) := by decide +kernel
theorem dL_law_361 : decode cL_law 361 = .ok (.aload_n 0, 1) := by decide +kernel
theorem dL_law_362 : decode cL_law 362 = .ok (.iload_n 3, 1) := by decide +kernel
theorem dL_law_363 : decode cL_law 363 = .ok (.iconst 1, 1) := by decide +kernel
theorem dL_law_364 : decode cL_law 364 = .ok (.iadd, 1) := by decide +kernel
theorem dL_law_365 : decode cL_law 365 = .ok (.iaload, 1) := by decide +kernel
theorem dL_law_366 : decode cL_law 366 = .ok (.aload_n 0, 1) := by decide +kernel
theorem dL_law_367 : decode cL_law 367 = .ok (.iload_n 3, 1) := by decide +kernel
theorem dL_law_368 : decode cL_law 368 = .ok (.iconst 2, 1) := by decide +kernel
theorem dL_law_369 : decode cL_law 369 = .ok (.iadd, 1) := by decide +kernel
theorem dL_law_370 : decode cL_law 370 = .ok (.iaload, 1) := by decide +kernel
theorem dL_law_371 : decode cL_law 371 = .ok (.aload_n 0, 1) := by decide +kernel
theorem dL_law_372 : decode cL_law 372 = .ok (.iload_n 3, 1) := by decide +kernel
theorem dL_law_373 : decode cL_law 373 = .ok (.iconst 3, 1) := by decide +kernel
theorem dL_law_374 : decode cL_law 374 = .ok (.iadd, 1) := by decide +kernel
theorem dL_law_375 : decode cL_law 375 = .ok (.iaload, 1) := by decide +kernel
theorem dL_law_376 : decode cL_law 376 = .ok (.invokevirtual 48, 3) := by decide +kernel
theorem dL_law_379 : decode cL_law 379 = .ok (.if_icmp .eq 450, 3) := by decide +kernel
theorem dL_law_382 : decode cL_law 382 = .ok (.iconst 0, 1) := by decide +kernel
theorem dL_law_383 : decode cL_law 383 = .ok (.ireturn, 1) := by decide +kernel
theorem dL_law_384 : decode cL_law 384 = .ok (.aload_n 1, 1) := by decide +kernel
theorem dL_law_385 : decode cL_law 385 = .ok (.aload_n 0, 1) := by decide +kernel
theorem dL_law_386 : decode cL_law 386 = .ok (.iload_n 3, 1) := by decide +kernel
theorem dL_law_387 : decode cL_law 387 = .ok (.iconst 1, 1) := by decide +kernel
theorem dL_law_388 : decode cL_law 388 = .ok (.iadd, 1) := by decide +kernel
theorem dL_law_389 : decode cL_law 389 = .ok (.iaload, 1) := by decide +kernel
theorem dL_law_390 : decode cL_law 390 = .ok (.aload_n 0, 1) := by decide +kernel
theorem dL_law_391 : decode cL_law 391 = .ok (.iload_n 3, 1) := by decide +kernel
theorem dL_law_392 : decode cL_law 392 = .ok (.iconst 2, 1) := by decide +kernel
theorem dL_law_393 : decode cL_law 393 = .ok (.iadd, 1) := by decide +kernel
theorem dL_law_394 : decode cL_law 394 = .ok (.iaload, 1) := by decide +kernel
theorem dL_law_395 : decode cL_law 395 = .ok (.invokevirtual 49, 3) := by decide +kernel
theorem dL_law_398 : decode cL_law 398 = .ok (.aload_n 2, 1) := by decide +kernel
theorem dL_law_399 : decode cL_law 399 = .ok (.aload_n 0, 1) := by decide +kernel
theorem dL_law_400 : decode cL_law 400 = .ok (.iload_n 3, 1) := by decide +kernel
theorem dL_law_401 : decode cL_law 401 = .ok (.iconst 1, 1) := by decide +kernel
theorem dL_law_402 : decode cL_law 402 = .ok (.iadd, 1) := by decide +kernel
theorem dL_law_403 : decode cL_law 403 = .ok (.iaload, 1) := by decide +kernel
theorem dL_law_404 : decode cL_law 404 = .ok (.aload_n 0, 1) := by decide +kernel
theorem dL_law_405 : decode cL_law 405 = .ok (.iload_n 3, 1) := by decide +kernel
theorem dL_law_406 : decode cL_law 406 = .ok (.iconst 2, 1) := by decide +kernel
theorem dL_law_407 : decode cL_law 407 = .ok (.iadd, 1) := by decide +kernel
theorem dL_law_408 : decode cL_law 408 = .ok (.iaload, 1) := by decide +kernel
theorem dL_law_409 : decode cL_law 409 = .ok (.invokevirtual 52, 3) := by decide +kernel
theorem dL_law_412 : decode cL_law 412 = .ok (.if_icmp .eq 417, 3) := by decide +kernel
theorem dL_law_415 : decode cL_law 415 = .ok (.iconst 0, 1) := by decide +kernel
theorem dL_law_416 : decode cL_law 416 = .ok (.ireturn, 1) := by decide +kernel
theorem dL_law_417 : decode cL_law 417 = .ok (.aload_n 1, 1) := by decide +kernel
theorem dL_law_418 : decode cL_law 418 = .ok (.aload_n 0, 1) := by decide +kernel
theorem dL_law_419 : decode cL_law 419 = .ok (.iload_n 3, 1) := by decide +kernel
theorem dL_law_420 : decode cL_law 420 = .ok (.iconst 1, 1) := by decide +kernel
theorem dL_law_421 : decode cL_law 421 = .ok (.iadd, 1) := by decide +kernel
theorem dL_law_422 : decode cL_law 422 = .ok (.iaload, 1) := by decide +kernel
theorem dL_law_423 : decode cL_law 423 = .ok (.invokevirtual 53, 3) := by decide +kernel
theorem dL_law_426 : decode cL_law 426 = .ok (.aload_n 2, 1) := by decide +kernel
theorem dL_law_427 : decode cL_law 427 = .ok (.aload_n 0, 1) := by decide +kernel
theorem dL_law_428 : decode cL_law 428 = .ok (.iload_n 3, 1) := by decide +kernel
theorem dL_law_429 : decode cL_law 429 = .ok (.iconst 1, 1) := by decide +kernel
theorem dL_law_430 : decode cL_law 430 = .ok (.iadd, 1) := by decide +kernel
theorem dL_law_431 : decode cL_law 431 = .ok (.iaload, 1) := by decide +kernel
theorem dL_law_432 : decode cL_law 432 = .ok (.invokevirtual 56, 3) := by decide +kernel
theorem dL_law_435 : decode cL_law 435 = .ok (.if_icmp .eq 394, 3) := by decide +kernel
theorem dL_law_438 : decode cL_law 438 = .ok (.iconst 0, 1) := by decide +kernel
theorem dL_law_439 : decode cL_law 439 = .ok (.ireturn, 1) := by decide +kernel
theorem dL_law_440 : decode cL_law 440 = .ok (.aload_n 1, 1) := by decide +kernel
theorem dL_law_441 : decode cL_law 441 = .ok (.aload_n 0, 1) := by decide +kernel
theorem dL_law_442 : decode cL_law 442 = .ok (.iload_n 3, 1) := by decide +kernel
theorem dL_law_443 : decode cL_law 443 = .ok (.iconst 1, 1) := by decide +kernel
theorem dL_law_444 : decode cL_law 444 = .ok (.iadd, 1) := by decide +kernel
theorem dL_law_445 : decode cL_law 445 = .ok (.iaload, 1) := by decide +kernel
theorem dL_law_446 : decode cL_law 446 = .ok (.aload_n 0, 1) := by decide +kernel
theorem dL_law_447 : decode cL_law 447 = .ok (.iload_n 3, 1) := by decide +kernel
theorem dL_law_448 : decode cL_law 448 = .ok (.iconst 2, 1) := by decide +kernel
theorem dL_law_449 : decode cL_law 449 = .ok (.iadd, 1) := by decide +kernel
theorem dL_law_450 : decode cL_law 450 = .ok (.iaload, 1) := by decide +kernel
theorem dL_law_451 : decode cL_law 451 = .ok (.invokevirtual 57, 3) := by decide +kernel
theorem dL_law_454 : decode cL_law 454 = .ok (.aload_n 2, 1) := by decide +kernel
theorem dL_law_455 : decode cL_law 455 = .ok (.aload_n 0, 1) := by decide +kernel
theorem dL_law_456 : decode cL_law 456 = .ok (.iload_n 3, 1) := by decide +kernel
theorem dL_law_457 : decode cL_law 457 = .ok (.iconst 1, 1) := by decide +kernel
theorem dL_law_458 : decode cL_law 458 = .ok (.iadd, 1) := by decide +kernel
theorem dL_law_459 : decode cL_law 459 = .ok (.iaload, 1) := by decide +kernel
theorem dL_law_460 : decode cL_law 460 = .ok (.aload_n 0, 1) := by decide +kernel
theorem dL_law_461 : decode cL_law 461 = .ok (.iload_n 3, 1) := by decide +kernel
theorem dL_law_462 : decode cL_law 462 = .ok (.iconst 2, 1) := by decide +kernel
theorem dL_law_463 : decode cL_law 463 = .ok (.iadd, 1) := by decide +kernel
theorem dL_law_464 : decode cL_law 464 = .ok (.iaload, 1) := by decide +kernel
theorem dL_law_465 : decode cL_law 465 = .ok (.invokevirtual 60, 3) := by decide +kernel
theorem dL_law_468 : decode cL_law 468 = .ok (.if_icmp .eq 361, 3) := by decide +kernel
theorem dL_law_471 : decode cL_law 471 = .ok (.iconst 0, 1) := by decide +kernel
theorem dL_law_472 : decode cL_law 472 = .ok (.ireturn, 1) := by decide +kernel
theorem dL_law_473 : decode cL_law 473 = .ok (.aload_n 1, 1) := by decide +kernel
theorem dL_law_474 : decode cL_law 474 = .ok (.aload_n 0, 1) := by decide +kernel
theorem dL_law_475 : decode cL_law 475 = .ok (.iload_n 3, 1) := by decide +kernel
theorem dL_law_476 : decode cL_law 476 = .ok (.iconst 1, 1) := by decide +kernel
theorem dL_law_477 : decode cL_law 477 = .ok (.iadd, 1) := by decide +kernel
theorem dL_law_478 : decode cL_law 478 = .ok (.iaload, 1) := by decide +kernel
theorem dL_law_479 : decode cL_law 479 = .ok (.aload_n 0, 1) := by decide +kernel
theorem dL_law_480 : decode cL_law 480 = .ok (.iload_n 3, 1) := by decide +kernel
theorem dL_law_481 : decode cL_law 481 = .ok (.iconst 2, 1) := by decide +kernel
theorem dL_law_482 : decode cL_law 482 = .ok (.iadd, 1) := by decide +kernel
theorem dL_law_483 : decode cL_law 483 = .ok (.iaload, 1) := by decide +kernel
theorem dL_law_484 : decode cL_law 484 = .ok (.aload_n 0, 1) := by decide +kernel
theorem dL_law_485 : decode cL_law 485 = .ok (.iload_n 3, 1) := by decide +kernel
theorem dL_law_486 : decode cL_law 486 = .ok (.iconst 3, 1) := by decide +kernel
theorem dL_law_487 : decode cL_law 487 = .ok (.iadd, 1) := by decide +kernel
theorem dL_law_488 : decode cL_law 488 = .ok (.iaload, 1) := by decide +kernel
theorem dL_law_489 : decode cL_law 489 = .ok (.invokevirtual 61, 3) := by decide +kernel
theorem dL_law_492 : decode cL_law 492 = .ok (.aload_n 2, 1) := by decide +kernel
theorem dL_law_493 : decode cL_law 493 = .ok (.aload_n 0, 1) := by decide +kernel
theorem dL_law_494 : decode cL_law 494 = .ok (.iload_n 3, 1) := by decide +kernel
theorem dL_law_495 : decode cL_law 495 = .ok (.iconst 1, 1) := by decide +kernel
theorem dL_law_496 : decode cL_law 496 = .ok (.iadd, 1) := by decide +kernel
theorem dL_law_497 : decode cL_law 497 = .ok (.iaload, 1) := by decide +kernel
theorem dL_law_498 : decode cL_law 498 = .ok (.aload_n 0, 1) := by decide +kernel
theorem dL_law_499 : decode cL_law 499 = .ok (.iload_n 3, 1) := by decide +kernel
theorem dL_law_500 : decode cL_law 500 = .ok (.iconst 2, 1) := by decide +kernel
theorem dL_law_501 : decode cL_law 501 = .ok (.iadd, 1) := by decide +kernel
theorem dL_law_502 : decode cL_law 502 = .ok (.iaload, 1) := by decide +kernel
theorem dL_law_503 : decode cL_law 503 = .ok (.aload_n 0, 1) := by decide +kernel
theorem dL_law_504 : decode cL_law 504 = .ok (.iload_n 3, 1) := by decide +kernel
theorem dL_law_505 : decode cL_law 505 = .ok (.iconst 3, 1) := by decide +kernel
theorem dL_law_506 : decode cL_law 506 = .ok (.iadd, 1) := by decide +kernel
theorem dL_law_507 : decode cL_law 507 = .ok (.iaload, 1) := by decide +kernel
theorem dL_law_508 : decode cL_law 508 = .ok (.invokevirtual 64, 3) := by decide +kernel
theorem dL_law_511 : decode cL_law 511 = .ok (.if_icmp .eq 318, 3) := by decide +kernel
theorem dL_law_514 : decode cL_law 514 = .ok (.iconst 0, 1) := by decide +kernel
theorem dL_law_515 : decode cL_law 515 = .ok (.ireturn, 1) := by decide +kernel
theorem dL_law_516 : decode cL_law 516 = .ok (.aload_n 1, 1) := by decide +kernel
theorem dL_law_517 : decode cL_law 517 = .ok (.aload_n 0, 1) := by decide +kernel
theorem dL_law_518 : decode cL_law 518 = .ok (.iload_n 3, 1) := by decide +kernel
theorem dL_law_519 : decode cL_law 519 = .ok (.iconst 1, 1) := by decide +kernel
theorem dL_law_520 : decode cL_law 520 = .ok (.iadd, 1) := by decide +kernel
theorem dL_law_521 : decode cL_law 521 = .ok (.iaload, 1) := by decide +kernel
theorem dL_law_522 : decode cL_law 522 = .ok (.aload_n 0, 1) := by decide +kernel
theorem dL_law_523 : decode cL_law 523 = .ok (.iload_n 3, 1) := by decide +kernel
theorem dL_law_524 : decode cL_law 524 = .ok (.iconst 2, 1) := by decide +kernel
theorem dL_law_525 : decode cL_law 525 = .ok (.iadd, 1) := by decide +kernel
theorem dL_law_526 : decode cL_law 526 = .ok (.iaload, 1) := by decide +kernel
theorem dL_law_527 : decode cL_law 527 = .ok (.invokevirtual 65, 3) := by decide +kernel
theorem dL_law_530 : decode cL_law 530 = .ok (.aload_n 2, 1) := by decide +kernel
theorem dL_law_531 : decode cL_law 531 = .ok (.aload_n 0, 1) := by decide +kernel
theorem dL_law_532 : decode cL_law 532 = .ok (.iload_n 3, 1) := by decide +kernel
theorem dL_law_533 : decode cL_law 533 = .ok (.iconst 1, 1) := by decide +kernel
theorem dL_law_534 : decode cL_law 534 = .ok (.iadd, 1) := by decide +kernel
theorem dL_law_535 : decode cL_law 535 = .ok (.iaload, 1) := by decide +kernel
theorem dL_law_536 : decode cL_law 536 = .ok (.aload_n 0, 1) := by decide +kernel
theorem dL_law_537 : decode cL_law 537 = .ok (.iload_n 3, 1) := by decide +kernel
theorem dL_law_538 : decode cL_law 538 = .ok (.iconst 2, 1) := by decide +kernel
theorem dL_law_539 : decode cL_law 539 = .ok (.iadd, 1) := by decide +kernel
theorem dL_law_540 : decode cL_law 540 = .ok (.iaload, 1) := by decide +kernel
theorem dL_law_541 : decode cL_law 541 = .ok (.invokevirtual 68, 3) := by decide +kernel
theorem dL_law_544 : decode cL_law 544 = .ok (.if_icmp .eq 285, 3) := by decide +kernel
theorem dL_law_547 : decode cL_law 547 = .ok (.iconst 0, 1) := by decide +kernel
theorem dL_law_548 : decode cL_law 548 = .ok (.ireturn, 1) := by decide +kernel
theorem dL_law_549 : decode cL_law 549 = .ok (.aload_n 1, 1) := by decide +kernel
theorem dL_law_550 : decode cL_law 550 = .ok (.aload_n 0, 1) := by decide +kernel
theorem dL_law_551 : decode cL_law 551 = .ok (.iload_n 3, 1) := by decide +kernel
theorem dL_law_552 : decode cL_law 552 = .ok (.iconst 1, 1) := by decide +kernel
theorem dL_law_553 : decode cL_law 553 = .ok (.iadd, 1) := by decide +kernel
theorem dL_law_554 : decode cL_law 554 = .ok (.iaload, 1) := by decide +kernel
theorem dL_law_555 : decode cL_law 555 = .ok (.aload_n 0, 1) := by decide +kernel
theorem dL_law_556 : decode cL_law 556 = .ok (.iload_n 3, 1) := by decide +kernel
theorem dL_law_557 : decode cL_law 557 = .ok (.iconst 2, 1) := by decide +kernel
theorem dL_law_558 : decode cL_law 558 = .ok (.iadd, 1) := by decide +kernel
theorem dL_law_559 : decode cL_law 559 = .ok (.iaload, 1) := by decide +kernel
theorem dL_law_560 : decode cL_law 560 = .ok (.aload_n 0, 1) := by decide +kernel
theorem dL_law_561 : decode cL_law 561 = .ok (.iload_n 3, 1) := by decide +kernel
theorem dL_law_562 : decode cL_law 562 = .ok (.iconst 3, 1) := by decide +kernel
theorem dL_law_563 : decode cL_law 563 = .ok (.iadd, 1) := by decide +kernel
theorem dL_law_564 : decode cL_law 564 = .ok (.iaload, 1) := by decide +kernel
theorem dL_law_565 : decode cL_law 565 = .ok (.aload_n 0, 1) := by decide +kernel
theorem dL_law_566 : decode cL_law 566 = .ok (.iload_n 3, 1) := by decide +kernel
theorem dL_law_567 : decode cL_law 567 = .ok (.iconst 4, 1) := by decide +kernel
theorem dL_law_568 : decode cL_law 568 = .ok (.iadd, 1) := by decide +kernel
theorem dL_law_569 : decode cL_law 569 = .ok (.iaload, 1) := by decide +kernel
theorem dL_law_570 : decode cL_law 570 = .ok (.invokevirtual 69, 3) := by decide +kernel
theorem dL_law_573 : decode cL_law 573 = .ok (.aload_n 2, 1) := by decide +kernel
theorem dL_law_574 : decode cL_law 574 = .ok (.aload_n 0, 1) := by decide +kernel
theorem dL_law_575 : decode cL_law 575 = .ok (.iload_n 3, 1) := by decide +kernel
theorem dL_law_576 : decode cL_law 576 = .ok (.iconst 1, 1) := by decide +kernel
theorem dL_law_577 : decode cL_law 577 = .ok (.iadd, 1) := by decide +kernel
theorem dL_law_578 : decode cL_law 578 = .ok (.iaload, 1) := by decide +kernel
theorem dL_law_579 : decode cL_law 579 = .ok (.aload_n 0, 1) := by decide +kernel
theorem dL_law_580 : decode cL_law 580 = .ok (.iload_n 3, 1) := by decide +kernel
theorem dL_law_581 : decode cL_law 581 = .ok (.iconst 2, 1) := by decide +kernel
theorem dL_law_582 : decode cL_law 582 = .ok (.iadd, 1) := by decide +kernel
theorem dL_law_583 : decode cL_law 583 = .ok (.iaload, 1) := by decide +kernel
theorem dL_law_584 : decode cL_law 584 = .ok (.aload_n 0, 1) := by decide +kernel
theorem dL_law_585 : decode cL_law 585 = .ok (.iload_n 3, 1) := by decide +kernel
theorem dL_law_586 : decode cL_law 586 = .ok (.iconst 3, 1) := by decide +kernel
theorem dL_law_587 : decode cL_law 587 = .ok (.iadd, 1) := by decide +kernel
theorem dL_law_588 : decode cL_law 588 = .ok (.iaload, 1) := by decide +kernel
theorem dL_law_589 : decode cL_law 589 = .ok (.aload_n 0, 1) := by decide +kernel
theorem dL_law_590 : decode cL_law 590 = .ok (.iload_n 3, 1) := by decide +kernel
theorem dL_law_591 : decode cL_law 591 = .ok (.iconst 4, 1) := by decide +kernel
theorem dL_law_592 : decode cL_law 592 = .ok (.iadd, 1) := by decide +kernel
theorem dL_law_593 : decode cL_law 593 = .ok (.iaload, 1) := by decide +kernel
theorem dL_law_594 : decode cL_law 594 = .ok (.invokevirtual 73, 3) := by decide +kernel
theorem dL_law_597 : decode cL_law 597 = .ok (.if_icmp .eq 232, 3) := by decide +kernel
theorem dL_law_600 : decode cL_law 600 = .ok (.iconst 0, 1) := by decide +kernel
theorem dL_law_601 : decode cL_law 601 = .ok (.ireturn, 1) := by decide +kernel
theorem dL_law_602 : decode cL_law 602 = .ok (.aload_n 1, 1) := by decide +kernel
theorem dL_law_603 : decode cL_law 603 = .ok (.aload_n 0, 1) := by decide +kernel
theorem dL_law_604 : decode cL_law 604 = .ok (.iload_n 3, 1) := by decide +kernel
theorem dL_law_605 : decode cL_law 605 = .ok (.iconst 1, 1) := by decide +kernel
theorem dL_law_606 : decode cL_law 606 = .ok (.iadd, 1) := by decide +kernel
theorem dL_law_607 : decode cL_law 607 = .ok (.iaload, 1) := by decide +kernel
theorem dL_law_608 : decode cL_law 608 = .ok (.aload_n 0, 1) := by decide +kernel
theorem dL_law_609 : decode cL_law 609 = .ok (.iload_n 3, 1) := by decide +kernel
theorem dL_law_610 : decode cL_law 610 = .ok (.iconst 2, 1) := by decide +kernel
theorem dL_law_611 : decode cL_law 611 = .ok (.iadd, 1) := by decide +kernel
theorem dL_law_612 : decode cL_law 612 = .ok (.iaload, 1) := by decide +kernel
theorem dL_law_613 : decode cL_law 613 = .ok (.invokevirtual 74, 3) := by decide +kernel
theorem dL_law_616 : decode cL_law 616 = .ok (.aload_n 2, 1) := by decide +kernel
theorem dL_law_617 : decode cL_law 617 = .ok (.aload_n 0, 1) := by decide +kernel
theorem dL_law_618 : decode cL_law 618 = .ok (.iload_n 3, 1) := by decide +kernel
theorem dL_law_619 : decode cL_law 619 = .ok (.iconst 1, 1) := by decide +kernel
theorem dL_law_620 : decode cL_law 620 = .ok (.iadd, 1) := by decide +kernel
theorem dL_law_621 : decode cL_law 621 = .ok (.iaload, 1) := by decide +kernel
theorem dL_law_622 : decode cL_law 622 = .ok (.aload_n 0, 1) := by decide +kernel
theorem dL_law_623 : decode cL_law 623 = .ok (.iload_n 3, 1) := by decide +kernel
theorem dL_law_624 : decode cL_law 624 = .ok (.iconst 2, 1) := by decide +kernel
theorem dL_law_625 : decode cL_law 625 = .ok (.iadd, 1) := by decide +kernel
theorem dL_law_626 : decode cL_law 626 = .ok (.iaload, 1) := by decide +kernel
theorem dL_law_627 : decode cL_law 627 = .ok (.invokevirtual 77, 3) := by decide +kernel
theorem dL_law_630 : decode cL_law 630 = .ok (.if_icmp .eq 199, 3) := by decide +kernel
theorem dL_law_633 : decode cL_law 633 = .ok (.iconst 0, 1) := by decide +kernel
theorem dL_law_634 : decode cL_law 634 = .ok (.ireturn, 1) := by decide +kernel
theorem dL_law_635 : decode cL_law 635 = .ok (.aload_n 1, 1) := by decide +kernel
theorem dL_law_636 : decode cL_law 636 = .ok (.aload_n 0, 1) := by decide +kernel
theorem dL_law_637 : decode cL_law 637 = .ok (.iload_n 3, 1) := by decide +kernel
theorem dL_law_638 : decode cL_law 638 = .ok (.iconst 1, 1) := by decide +kernel
theorem dL_law_639 : decode cL_law 639 = .ok (.iadd, 1) := by decide +kernel
theorem dL_law_640 : decode cL_law 640 = .ok (.iaload, 1) := by decide +kernel
theorem dL_law_641 : decode cL_law 641 = .ok (.aload_n 0, 1) := by decide +kernel
theorem dL_law_642 : decode cL_law 642 = .ok (.iload_n 3, 1) := by decide +kernel
theorem dL_law_643 : decode cL_law 643 = .ok (.iconst 2, 1) := by decide +kernel
theorem dL_law_644 : decode cL_law 644 = .ok (.iadd, 1) := by decide +kernel
theorem dL_law_645 : decode cL_law 645 = .ok (.iaload, 1) := by decide +kernel
theorem dL_law_646 : decode cL_law 646 = .ok (.invokevirtual 78, 3) := by decide +kernel
theorem dL_law_649 : decode cL_law 649 = .ok (.aload_n 2, 1) := by decide +kernel
theorem dL_law_650 : decode cL_law 650 = .ok (.aload_n 0, 1) := by decide +kernel
theorem dL_law_651 : decode cL_law 651 = .ok (.iload_n 3, 1) := by decide +kernel
theorem dL_law_652 : decode cL_law 652 = .ok (.iconst 1, 1) := by decide +kernel
theorem dL_law_653 : decode cL_law 653 = .ok (.iadd, 1) := by decide +kernel
theorem dL_law_654 : decode cL_law 654 = .ok (.iaload, 1) := by decide +kernel
theorem dL_law_655 : decode cL_law 655 = .ok (.aload_n 0, 1) := by decide +kernel
theorem dL_law_656 : decode cL_law 656 = .ok (.iload_n 3, 1) := by decide +kernel
theorem dL_law_657 : decode cL_law 657 = .ok (.iconst 2, 1) := by decide +kernel
theorem dL_law_658 : decode cL_law 658 = .ok (.iadd, 1) := by decide +kernel
theorem dL_law_659 : decode cL_law 659 = .ok (.iaload, 1) := by decide +kernel
theorem dL_law_660 : decode cL_law 660 = .ok (.invokevirtual 81, 3) := by decide +kernel
theorem dL_law_663 : decode cL_law 663 = .ok (.if_icmp .eq 166, 3) := by decide +kernel
theorem dL_law_666 : decode cL_law 666 = .ok (.iconst 0, 1) := by decide +kernel
theorem dL_law_667 : decode cL_law 667 = .ok (.ireturn, 1) := by decide +kernel
theorem dL_law_668 : decode cL_law 668 = .ok (.aload_n 1, 1) := by decide +kernel
theorem dL_law_669 : decode cL_law 669 = .ok (.aload_n 0, 1) := by decide +kernel
theorem dL_law_670 : decode cL_law 670 = .ok (.iload_n 3, 1) := by decide +kernel
theorem dL_law_671 : decode cL_law 671 = .ok (.iconst 1, 1) := by decide +kernel
theorem dL_law_672 : decode cL_law 672 = .ok (.iadd, 1) := by decide +kernel
theorem dL_law_673 : decode cL_law 673 = .ok (.iaload, 1) := by decide +kernel
theorem dL_law_674 : decode cL_law 674 = .ok (.invokevirtual 82, 3) := by decide +kernel
theorem dL_law_677 : decode cL_law 677 = .ok (.aload_n 2, 1) := by decide +kernel
theorem dL_law_678 : decode cL_law 678 = .ok (.aload_n 0, 1) := by decide +kernel
theorem dL_law_679 : decode cL_law 679 = .ok (.iload_n 3, 1) := by decide +kernel
theorem dL_law_680 : decode cL_law 680 = .ok (.iconst 1, 1) := by decide +kernel
theorem dL_law_681 : decode cL_law 681 = .ok (.iadd, 1) := by decide +kernel
theorem dL_law_682 : decode cL_law 682 = .ok (.iaload, 1) := by decide +kernel
theorem dL_law_683 : decode cL_law 683 = .ok (.invokevirtual 85, 3) := by decide +kernel
theorem dL_law_686 : decode cL_law 686 = .ok (.if_icmp .eq 143, 3) := by decide +kernel
theorem dL_law_689 : decode cL_law 689 = .ok (.iconst 0, 1) := by decide +kernel
theorem dL_law_690 : decode cL_law 690 = .ok (.ireturn, 1) := by decide +kernel
theorem dL_law_691 : decode cL_law 691 = .ok (.aload_n 1, 1) := by decide +kernel
theorem dL_law_692 : decode cL_law 692 = .ok (.aload_n 0, 1) := by decide +kernel
theorem dL_law_693 : decode cL_law 693 = .ok (.iload_n 3, 1) := by decide +kernel
theorem dL_law_694 : decode cL_law 694 = .ok (.iconst 1, 1) := by decide +kernel
theorem dL_law_695 : decode cL_law 695 = .ok (.iadd, 1) := by decide +kernel
theorem dL_law_696 : decode cL_law 696 = .ok (.iaload, 1) := by decide +kernel
theorem dL_law_697 : decode cL_law 697 = .ok (.i2l, 1) := by decide +kernel
theorem dL_law_698 : decode cL_law 698 = .ok (.bipush 32, 2) := by decide +kernel
theorem dL_law_700 : decode cL_law 700 = .ok (.lshl, 1) := by decide +kernel
theorem dL_law_701 : decode cL_law 701 = .ok (.aload_n 0, 1) := by decide +kernel
theorem dL_law_702 : decode cL_law 702 = .ok (.iload_n 3, 1) := by decide +kernel
theorem dL_law_703 : decode cL_law 703 = .ok (.iconst 2, 1) := by decide +kernel
theorem dL_law_704 : decode cL_law 704 = .ok (.iadd, 1) := by decide +kernel
theorem dL_law_705 : decode cL_law 705 = .ok (.iaload, 1) := by decide +kernel
theorem dL_law_706 : decode cL_law 706 = .ok (.i2l, 1) := by decide +kernel
theorem dL_law_707 : decode cL_law 707 = .ok (.ldc2_w 86, 3) := by decide +kernel
theorem dL_law_710 : decode cL_law 710 = .ok (.land, 1) := by decide +kernel
theorem dL_law_711 : decode cL_law 711 = .ok (.lor, 1) := by decide +kernel
theorem dL_law_712 : decode cL_law 712 = .ok (.invokevirtual 88, 3) := by decide +kernel
theorem dL_law_715 : decode cL_law 715 = .ok (.aload_n 2, 1) := by decide +kernel
theorem dL_law_716 : decode cL_law 716 = .ok (.aload_n 0, 1) := by decide +kernel
theorem dL_law_717 : decode cL_law 717 = .ok (.iload_n 3, 1) := by decide +kernel
theorem dL_law_718 : decode cL_law 718 = .ok (.iconst 1, 1) := by decide +kernel
theorem dL_law_719 : decode cL_law 719 = .ok (.iadd, 1) := by decide +kernel
theorem dL_law_720 : decode cL_law 720 = .ok (.iaload, 1) := by decide +kernel
theorem dL_law_721 : decode cL_law 721 = .ok (.i2l, 1) := by decide +kernel
theorem dL_law_722 : decode cL_law 722 = .ok (.bipush 32, 2) := by decide +kernel
theorem dL_law_724 : decode cL_law 724 = .ok (.lshl, 1) := by decide +kernel
theorem dL_law_725 : decode cL_law 725 = .ok (.aload_n 0, 1) := by decide +kernel
theorem dL_law_726 : decode cL_law 726 = .ok (.iload_n 3, 1) := by decide +kernel
theorem dL_law_727 : decode cL_law 727 = .ok (.iconst 2, 1) := by decide +kernel
theorem dL_law_728 : decode cL_law 728 = .ok (.iadd, 1) := by decide +kernel
theorem dL_law_729 : decode cL_law 729 = .ok (.iaload, 1) := by decide +kernel
theorem dL_law_730 : decode cL_law 730 = .ok (.i2l, 1) := by decide +kernel
theorem dL_law_731 : decode cL_law 731 = .ok (.ldc2_w 86, 3) := by decide +kernel
theorem dL_law_734 : decode cL_law 734 = .ok (.land, 1) := by decide +kernel
theorem dL_law_735 : decode cL_law 735 = .ok (.lor, 1) := by decide +kernel
theorem dL_law_736 : decode cL_law 736 = .ok (.invokevirtual 92, 3) := by decide +kernel
theorem dL_law_739 : decode cL_law 739 = .ok (.if_icmp .eq 90, 3) := by decide +kernel
theorem dL_law_742 : decode cL_law 742 = .ok (.iconst 0, 1) := by decide +kernel
theorem dL_law_743 : decode cL_law 743 = .ok (.ireturn, 1) := by decide +kernel
theorem dL_law_744 : decode cL_law 744 = .ok (.aload_n 1, 1) := by decide +kernel
theorem dL_law_745 : decode cL_law 745 = .ok (.invokevirtual 93, 3) := by decide +kernel
theorem dL_law_748 : decode cL_law 748 = .ok (.aload_n 2, 1) := by decide +kernel
theorem dL_law_749 : decode cL_law 749 = .ok (.invokevirtual 96, 3) := by decide +kernel
theorem dL_law_752 : decode cL_law 752 = .ok (.if_icmp .eq 77, 3) := by decide +kernel
theorem dL_law_755 : decode cL_law 755 = .ok (.iconst 0, 1) := by decide +kernel
theorem dL_law_756 : decode cL_law 756 = .ok (.ireturn, 1) := by decide +kernel
theorem dL_law_757 : decode cL_law 757 = .ok (.aload_n 1, 1) := by decide +kernel
theorem dL_law_758 : decode cL_law 758 = .ok (.invokevirtual 97, 3) := by decide +kernel
theorem dL_law_761 : decode cL_law 761 = .ok (.aload_n 2, 1) := by decide +kernel
theorem dL_law_762 : decode cL_law 762 = .ok (.invokevirtual 100, 3) := by decide +kernel
theorem dL_law_765 : decode cL_law 765 = .ok (.if_icmp .eq 64, 3) := by decide +kernel
theorem dL_law_768 : decode cL_law 768 = .ok (.iconst 0, 1) := by decide +kernel
theorem dL_law_769 : decode cL_law 769 = .ok (.ireturn, 1) := by decide +kernel
theorem dL_law_770 : decode cL_law 770 = .ok (.aload_n 1, 1) := by decide +kernel
theorem dL_law_771 : decode cL_law 771 = .ok (.invokevirtual 101, 3) := by decide +kernel
theorem dL_law_774 : decode cL_law 774 = .ok (.aload_n 2, 1) := by decide +kernel
theorem dL_law_775 : decode cL_law 775 = .ok (.invokevirtual 104, 3) := by decide +kernel
theorem dL_law_778 : decode cL_law 778 = .ok (.if_icmp .eq 51, 3) := by decide +kernel
theorem dL_law_781 : decode cL_law 781 = .ok (.iconst 0, 1) := by decide +kernel
theorem dL_law_782 : decode cL_law 782 = .ok (.ireturn, 1) := by decide +kernel
theorem dL_law_783 : decode cL_law 783 = .ok (.aload_n 1, 1) := by decide +kernel
theorem dL_law_784 : decode cL_law 784 = .ok (.aload_n 0, 1) := by decide +kernel
theorem dL_law_785 : decode cL_law 785 = .ok (.iload_n 3, 1) := by decide +kernel
theorem dL_law_786 : decode cL_law 786 = .ok (.iconst 1, 1) := by decide +kernel
theorem dL_law_787 : decode cL_law 787 = .ok (.iadd, 1) := by decide +kernel
theorem dL_law_788 : decode cL_law 788 = .ok (.iaload, 1) := by decide +kernel
theorem dL_law_789 : decode cL_law 789 = .ok (.invokevirtual 105, 3) := by decide +kernel
theorem dL_law_792 : decode cL_law 792 = .ok (.aload_n 2, 1) := by decide +kernel
theorem dL_law_793 : decode cL_law 793 = .ok (.aload_n 0, 1) := by decide +kernel
theorem dL_law_794 : decode cL_law 794 = .ok (.iload_n 3, 1) := by decide +kernel
theorem dL_law_795 : decode cL_law 795 = .ok (.iconst 1, 1) := by decide +kernel
theorem dL_law_796 : decode cL_law 796 = .ok (.iadd, 1) := by decide +kernel
theorem dL_law_797 : decode cL_law 797 = .ok (.iaload, 1) := by decide +kernel
theorem dL_law_798 : decode cL_law 798 = .ok (.invokevirtual 108, 3) := by decide +kernel
theorem dL_law_801 : decode cL_law 801 = .ok (.if_icmp .eq 28, 3) := by decide +kernel
theorem dL_law_804 : decode cL_law 804 = .ok (.iconst 0, 1) := by decide +kernel
theorem dL_law_805 : decode cL_law 805 = .ok (.ireturn, 1) := by decide +kernel
theorem dL_law_806 : decode cL_law 806 = .ok (.aload_n 1, 1) := by decide +kernel
theorem dL_law_807 : decode cL_law 807 = .ok (.aload_n 0, 1) := by decide +kernel
theorem dL_law_808 : decode cL_law 808 = .ok (.iload_n 3, 1) := by decide +kernel
theorem dL_law_809 : decode cL_law 809 = .ok (.iconst 1, 1) := by decide +kernel
theorem dL_law_810 : decode cL_law 810 = .ok (.iadd, 1) := by decide +kernel
theorem dL_law_811 : decode cL_law 811 = .ok (.iaload, 1) := by decide +kernel
theorem dL_law_812 : decode cL_law 812 = .ok (.invokevirtual 109, 3) := by decide +kernel
theorem dL_law_815 : decode cL_law 815 = .ok (.aload_n 2, 1) := by decide +kernel
theorem dL_law_816 : decode cL_law 816 = .ok (.aload_n 0, 1) := by decide +kernel
theorem dL_law_817 : decode cL_law 817 = .ok (.iload_n 3, 1) := by decide +kernel
theorem dL_law_818 : decode cL_law 818 = .ok (.iconst 1, 1) := by decide +kernel
theorem dL_law_819 : decode cL_law 819 = .ok (.iadd, 1) := by decide +kernel
theorem dL_law_820 : decode cL_law 820 = .ok (.iaload, 1) := by decide +kernel
theorem dL_law_821 : decode cL_law 821 = .ok (.invokevirtual 112, 3) := by decide +kernel
theorem dL_law_824 : decode cL_law 824 = .ok (.if_icmp .eq 5, 3) := by decide +kernel
theorem dL_law_827 : decode cL_law 827 = .ok (.iconst 0, 1) := by decide +kernel
theorem dL_law_828 : decode cL_law 828 = .ok (.ireturn, 1) := by decide +kernel
theorem dL_law_829 : decode cL_law 829 = .ok (.iinc 3 5, 3) := by decide +kernel
theorem dL_law_832 : decode cL_law 832 = .ok (.goto (-814), 3) := by decide +kernel
theorem dL_law_835 : decode cL_law 835 = .ok (.iconst 1, 1) := by decide +kernel
theorem dL_law_836 : decode cL_law 836 = .ok (.ireturn, 1) := by decide +kernel
abbrev vwCl : List vw_C := [(RX0, TX0, 3), (RX1, TX1, 2), (RX2, TX2, 12), (RX3, TX3, 9), (RX4, TX4, 21)]
