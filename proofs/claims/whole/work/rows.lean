section
-- ===== PART A: goes FIRST, ahead of the names: the tables' words, and 'selects' of the private methods out of them =====
/-- a private method of a class that the tables say can be made, by its rows of tables_1 -/
def lw_okq (q : MethodName × Nat) : Prop := (q.1.cls ≠ "java/lang/invoke/MethodHandle" ∧ q.1.cls ≠ "java/lang/invoke/VarHandle") ∧ Cond.instantiable q.1.cls q.2 ∈ tables_1 ∧ Cond.privateMethod q.1 ∈ tables_1 ∧ Cond.instanceMethod q.1 ∈ tables_1
theorem lw_p0 : lw_okq (⟨"HeatedStories", "tryHeating", "(II)I"⟩, 9) := ⟨⟨by decide +kernel, by decide +kernel⟩, List.mem_of_getElem? (i := 10) (by decide +kernel), List.mem_of_getElem? (i := 389) (by decide +kernel), List.mem_of_getElem? (i := 390) (by decide +kernel)⟩
theorem lw_p1 : lw_okq (⟨"HeatedStoriesModel", "know", "()V"⟩, 21) := ⟨⟨by decide +kernel, by decide +kernel⟩, List.mem_of_getElem? (i := 445) (by decide +kernel), List.mem_of_getElem? (i := 522) (by decide +kernel), List.mem_of_getElem? (i := 523) (by decide +kernel)⟩
theorem lw_p2 : lw_okq (⟨"HeatedStoriesModel", "isWord", "(II)Z"⟩, 21) := ⟨⟨by decide +kernel, by decide +kernel⟩, List.mem_of_getElem? (i := 445) (by decide +kernel), List.mem_of_getElem? (i := 530) (by decide +kernel), List.mem_of_getElem? (i := 531) (by decide +kernel)⟩
theorem lw_p3 : lw_okq (⟨"HeatedStoriesModel", "isStory", "(I)Z"⟩, 21) := ⟨⟨by decide +kernel, by decide +kernel⟩, List.mem_of_getElem? (i := 445) (by decide +kernel), List.mem_of_getElem? (i := 534) (by decide +kernel), List.mem_of_getElem? (i := 535) (by decide +kernel)⟩
theorem lw_p4 : lw_okq (⟨"HeatedStoriesModel", "first", "(I)I"⟩, 21) := ⟨⟨by decide +kernel, by decide +kernel⟩, List.mem_of_getElem? (i := 445) (by decide +kernel), List.mem_of_getElem? (i := 538) (by decide +kernel), List.mem_of_getElem? (i := 539) (by decide +kernel)⟩
theorem lw_p5 : lw_okq (⟨"HeatedStoriesModel", "warm", "(II)V"⟩, 21) := ⟨⟨by decide +kernel, by decide +kernel⟩, List.mem_of_getElem? (i := 445) (by decide +kernel), List.mem_of_getElem? (i := 542) (by decide +kernel), List.mem_of_getElem? (i := 543) (by decide +kernel)⟩
theorem lw_p6 : lw_okq (⟨"HeatedStoriesModel", "react", "()I"⟩, 21) := ⟨⟨by decide +kernel, by decide +kernel⟩, List.mem_of_getElem? (i := 445) (by decide +kernel), List.mem_of_getElem? (i := 546) (by decide +kernel), List.mem_of_getElem? (i := 547) (by decide +kernel)⟩
theorem lw_p7 : lw_okq (⟨"HeatedStoriesModel", "reactOne", "(I)V"⟩, 21) := ⟨⟨by decide +kernel, by decide +kernel⟩, List.mem_of_getElem? (i := 445) (by decide +kernel), List.mem_of_getElem? (i := 550) (by decide +kernel), List.mem_of_getElem? (i := 551) (by decide +kernel)⟩
theorem lw_p8 : lw_okq (⟨"HeatedStoriesModel", "storyOf", "(I)I"⟩, 21) := ⟨⟨by decide +kernel, by decide +kernel⟩, List.mem_of_getElem? (i := 445) (by decide +kernel), List.mem_of_getElem? (i := 554) (by decide +kernel), List.mem_of_getElem? (i := 555) (by decide +kernel)⟩
theorem lw_p9 : lw_okq (⟨"HeatedStoriesModel", "split", "(II)V"⟩, 21) := ⟨⟨by decide +kernel, by decide +kernel⟩, List.mem_of_getElem? (i := 445) (by decide +kernel), List.mem_of_getElem? (i := 558) (by decide +kernel), List.mem_of_getElem? (i := 559) (by decide +kernel)⟩
theorem lw_p10 : lw_okq (⟨"HeatedStoriesModel", "theme", "(I)I"⟩, 21) := ⟨⟨by decide +kernel, by decide +kernel⟩, List.mem_of_getElem? (i := 445) (by decide +kernel), List.mem_of_getElem? (i := 570) (by decide +kernel), List.mem_of_getElem? (i := 571) (by decide +kernel)⟩
theorem lw_p11 : lw_okq (⟨"HeatedStoriesModel", "times", "(II)I"⟩, 21) := ⟨⟨by decide +kernel, by decide +kernel⟩, List.mem_of_getElem? (i := 445) (by decide +kernel), List.mem_of_getElem? (i := 574) (by decide +kernel), List.mem_of_getElem? (i := 575) (by decide +kernel)⟩
theorem lw_p12 : lw_okq (⟨"HeatedStoriesModel", "removeWords", "(II)V"⟩, 21) := ⟨⟨by decide +kernel, by decide +kernel⟩, List.mem_of_getElem? (i := 445) (by decide +kernel), List.mem_of_getElem? (i := 578) (by decide +kernel), List.mem_of_getElem? (i := 579) (by decide +kernel)⟩
theorem lw_p13 : lw_okq (⟨"HeatedStoriesModel", "removeStory", "(I)V"⟩, 21) := ⟨⟨by decide +kernel, by decide +kernel⟩, List.mem_of_getElem? (i := 445) (by decide +kernel), List.mem_of_getElem? (i := 582) (by decide +kernel), List.mem_of_getElem? (i := 583) (by decide +kernel)⟩
theorem lw_p14 : lw_okq (⟨"HeatedStoriesModel", "allHeat", "()I"⟩, 21) := ⟨⟨by decide +kernel, by decide +kernel⟩, List.mem_of_getElem? (i := 445) (by decide +kernel), List.mem_of_getElem? (i := 590) (by decide +kernel), List.mem_of_getElem? (i := 591) (by decide +kernel)⟩
theorem lw_p15 : lw_okq (⟨"HeatedStoriesModel", "heatOf", "(I)I"⟩, 21) := ⟨⟨by decide +kernel, by decide +kernel⟩, List.mem_of_getElem? (i := 445) (by decide +kernel), List.mem_of_getElem? (i := 606) (by decide +kernel), List.mem_of_getElem? (i := 607) (by decide +kernel)⟩
def lw_privs_1 : List (MethodName × Nat) := [(⟨"HeatedStories", "tryHeating", "(II)I"⟩, 9), (⟨"HeatedStoriesModel", "know", "()V"⟩, 21), (⟨"HeatedStoriesModel", "isWord", "(II)Z"⟩, 21), (⟨"HeatedStoriesModel", "isStory", "(I)Z"⟩, 21), (⟨"HeatedStoriesModel", "first", "(I)I"⟩, 21), (⟨"HeatedStoriesModel", "warm", "(II)V"⟩, 21), (⟨"HeatedStoriesModel", "react", "()I"⟩, 21), (⟨"HeatedStoriesModel", "reactOne", "(I)V"⟩, 21), (⟨"HeatedStoriesModel", "storyOf", "(I)I"⟩, 21), (⟨"HeatedStoriesModel", "split", "(II)V"⟩, 21), (⟨"HeatedStoriesModel", "theme", "(I)I"⟩, 21), (⟨"HeatedStoriesModel", "times", "(II)I"⟩, 21), (⟨"HeatedStoriesModel", "removeWords", "(II)V"⟩, 21), (⟨"HeatedStoriesModel", "removeStory", "(I)V"⟩, 21), (⟨"HeatedStoriesModel", "allHeat", "()I"⟩, 21), (⟨"HeatedStoriesModel", "heatOf", "(I)I"⟩, 21)]
theorem lw_r1 : ∀ q ∈ lw_privs_1, lw_okq q := List.forall_mem_cons.mpr ⟨lw_p0, List.forall_mem_cons.mpr ⟨lw_p1, List.forall_mem_cons.mpr ⟨lw_p2, List.forall_mem_cons.mpr ⟨lw_p3, List.forall_mem_cons.mpr ⟨lw_p4, List.forall_mem_cons.mpr ⟨lw_p5, List.forall_mem_cons.mpr ⟨lw_p6, List.forall_mem_cons.mpr ⟨lw_p7, List.forall_mem_cons.mpr ⟨lw_p8, List.forall_mem_cons.mpr ⟨lw_p9, List.forall_mem_cons.mpr ⟨lw_p10, List.forall_mem_cons.mpr ⟨lw_p11, List.forall_mem_cons.mpr ⟨lw_p12, List.forall_mem_cons.mpr ⟨lw_p13, List.forall_mem_cons.mpr ⟨lw_p14, List.forall_mem_cons.mpr ⟨lw_p15, fun _ h => absurd h List.not_mem_nil⟩⟩⟩⟩⟩⟩⟩⟩⟩⟩⟩⟩⟩⟩⟩⟩
theorem lw_p16 : lw_okq (⟨"HeatedStoriesModel", "hottest", "(I)I"⟩, 21) := ⟨⟨by decide +kernel, by decide +kernel⟩, List.mem_of_getElem? (i := 445) (by decide +kernel), List.mem_of_getElem? (i := 610) (by decide +kernel), List.mem_of_getElem? (i := 611) (by decide +kernel)⟩
theorem lw_p17 : lw_okq (⟨"HeatedStoriesModel", "unlike", "(I)I"⟩, 21) := ⟨⟨by decide +kernel, by decide +kernel⟩, List.mem_of_getElem? (i := 445) (by decide +kernel), List.mem_of_getElem? (i := 614) (by decide +kernel), List.mem_of_getElem? (i := 615) (by decide +kernel)⟩
theorem lw_p18 : lw_okq (⟨"HeatedStoriesModel", "isSameBackwards", "(I)I"⟩, 21) := ⟨⟨by decide +kernel, by decide +kernel⟩, List.mem_of_getElem? (i := 445) (by decide +kernel), List.mem_of_getElem? (i := 618) (by decide +kernel), List.mem_of_getElem? (i := 619) (by decide +kernel)⟩
theorem lw_p19 : lw_okq (⟨"HeatedStoriesModel", "families", "()I"⟩, 21) := ⟨⟨by decide +kernel, by decide +kernel⟩, List.mem_of_getElem? (i := 445) (by decide +kernel), List.mem_of_getElem? (i := 626) (by decide +kernel), List.mem_of_getElem? (i := 627) (by decide +kernel)⟩
theorem lw_p20 : lw_okq (⟨"HeatedStoriesModel", "greatest", "()I"⟩, 21) := ⟨⟨by decide +kernel, by decide +kernel⟩, List.mem_of_getElem? (i := 445) (by decide +kernel), List.mem_of_getElem? (i := 630) (by decide +kernel), List.mem_of_getElem? (i := 631) (by decide +kernel)⟩
theorem lw_p21 : lw_okq (⟨"HeatedStoriesModel", "tryHeat", "(II)V"⟩, 21) := ⟨⟨by decide +kernel, by decide +kernel⟩, List.mem_of_getElem? (i := 445) (by decide +kernel), List.mem_of_getElem? (i := 650) (by decide +kernel), List.mem_of_getElem? (i := 651) (by decide +kernel)⟩
theorem lw_p22 : lw_okq (⟨"HeatedStoriesModel", "putAside", "()V"⟩, 21) := ⟨⟨by decide +kernel, by decide +kernel⟩, List.mem_of_getElem? (i := 445) (by decide +kernel), List.mem_of_getElem? (i := 654) (by decide +kernel), List.mem_of_getElem? (i := 655) (by decide +kernel)⟩
theorem lw_p23 : lw_okq (⟨"HeatedStoriesModel", "putBack", "()V"⟩, 21) := ⟨⟨by decide +kernel, by decide +kernel⟩, List.mem_of_getElem? (i := 445) (by decide +kernel), List.mem_of_getElem? (i := 658) (by decide +kernel), List.mem_of_getElem? (i := 659) (by decide +kernel)⟩
theorem lw_p24 : lw_okq (⟨"HeatedStoriesModel", "readPad", "()V"⟩, 21) := ⟨⟨by decide +kernel, by decide +kernel⟩, List.mem_of_getElem? (i := 445) (by decide +kernel), List.mem_of_getElem? (i := 687) (by decide +kernel), List.mem_of_getElem? (i := 688) (by decide +kernel)⟩
theorem lw_p25 : lw_okq (⟨"HeatedStoriesModel", "sign", "(II)I"⟩, 21) := ⟨⟨by decide +kernel, by decide +kernel⟩, List.mem_of_getElem? (i := 445) (by decide +kernel), List.mem_of_getElem? (i := 691) (by decide +kernel), List.mem_of_getElem? (i := 692) (by decide +kernel)⟩
theorem lw_p26 : lw_okq (⟨"HeatedStoriesModel", "isNext", "(II)Z"⟩, 21) := ⟨⟨by decide +kernel, by decide +kernel⟩, List.mem_of_getElem? (i := 445) (by decide +kernel), List.mem_of_getElem? (i := 695) (by decide +kernel), List.mem_of_getElem? (i := 696) (by decide +kernel)⟩
def lw_privs_2 : List (MethodName × Nat) := [(⟨"HeatedStoriesModel", "hottest", "(I)I"⟩, 21), (⟨"HeatedStoriesModel", "unlike", "(I)I"⟩, 21), (⟨"HeatedStoriesModel", "isSameBackwards", "(I)I"⟩, 21), (⟨"HeatedStoriesModel", "families", "()I"⟩, 21), (⟨"HeatedStoriesModel", "greatest", "()I"⟩, 21), (⟨"HeatedStoriesModel", "tryHeat", "(II)V"⟩, 21), (⟨"HeatedStoriesModel", "putAside", "()V"⟩, 21), (⟨"HeatedStoriesModel", "putBack", "()V"⟩, 21), (⟨"HeatedStoriesModel", "readPad", "()V"⟩, 21), (⟨"HeatedStoriesModel", "sign", "(II)I"⟩, 21), (⟨"HeatedStoriesModel", "isNext", "(II)Z"⟩, 21)]
theorem lw_r2 : ∀ q ∈ lw_privs_2, lw_okq q := List.forall_mem_cons.mpr ⟨lw_p16, List.forall_mem_cons.mpr ⟨lw_p17, List.forall_mem_cons.mpr ⟨lw_p18, List.forall_mem_cons.mpr ⟨lw_p19, List.forall_mem_cons.mpr ⟨lw_p20, List.forall_mem_cons.mpr ⟨lw_p21, List.forall_mem_cons.mpr ⟨lw_p22, List.forall_mem_cons.mpr ⟨lw_p23, List.forall_mem_cons.mpr ⟨lw_p24, List.forall_mem_cons.mpr ⟨lw_p25, List.forall_mem_cons.mpr ⟨lw_p26, fun _ h => absurd h List.not_mem_nil⟩⟩⟩⟩⟩⟩⟩⟩⟩⟩⟩
def lw_privs : List (MethodName × Nat) := lw_privs_1 ++ (lw_privs_2)
def lw_tbl : List Cond := k2_sels lw_privs ++ tables_1
theorem lw_privs_ok : ∀ q ∈ lw_privs, lw_okq q := by
  show ∀ q ∈ lw_privs_1 ++ (lw_privs_2), lw_okq q
  exact List.forall_mem_append.mpr ⟨lw_r1, lw_r2⟩
end
section
/-! ===== BEGIN words of one list among another's, by their places ===== -/
theorem goodIn_r {big : List Cond} (ws : List Cond) (ps : List Nat) (hp : ws = ps.filterMap (fun i => big[i]?)) (h : ws.all goodWord = true) : GoodIn big ws := by
  intro w hw
  have h1 := List.all_eq_true.mp h w hw
  rw [hp] at hw
  obtain ⟨i, -, hi⟩ := List.mem_filterMap.mp hw
  have hm : w ∈ big := by first | exact List.mem_of_getElem? hi | exact List.getElem?_mem hi
  exact ⟨hm, good_of_word h1⟩
theorem goodIn_app {big a b : List Cond} (ha : GoodIn big a) (hb : GoodIn big b) : GoodIn big (a ++ b) := fun w h => (List.mem_append.mp h).elim (ha w) (hb w)
theorem goodIn_ca {big a b : List Cond} {c : Cond} (ha : GoodIn big (c :: a)) (hb : GoodIn big b) : GoodIn big (c :: (a ++ b)) := fun w h => (List.mem_cons.mp h).elim (fun e => ha w (List.mem_cons.mpr (Or.inl e))) (fun h => (List.mem_append.mp h).elim (fun h => ha w (List.mem_cons.mpr (Or.inr h))) (hb w))
theorem goodIn_sub {big ws : List Cond} (hm : ∀ w ∈ ws, w ∈ big) (h : ws.all goodWord = true) : GoodIn big ws := fun w hw => ⟨hm w hw, good_of_word (List.all_eq_true.mp h w hw)⟩
/-! ===== END ===== -/

/-! ===== BEGIN printed: names, fields, word lists, decode rows ===== -/
def RX0 : String := "HeatedStories$History"
def TX0 : u_T := fun k => match k with
  | 0 => ("HeatedStories$History", "states", "[LHeatedStories$Shelf;", true)
  | 1 => ("HeatedStories$History", "oldest", "I", false)
  | _ => ("HeatedStories$History", "size", "I", false)
def tyX0 : Nat → FieldType := fun k => match k with
  | 0 => .array (.object "HeatedStories$Shelf")
  | 1 => .int
  | _ => .int
abbrev wsX00 : List Cond := u_ws RX0 TX0 3
theorem nmX0 : ∀ a, a < 3 → ∀ b, b < 3 → a ≠ b → (TX0 a).2.1 ≠ (TX0 b).2.1 := by decide +kernel
theorem tyX0_ok : ∀ k, k < 3 → parseFieldDescriptor (TX0 k).2.2.1 = some (tyX0 k) := by decide +kernel
abbrev cX0_init : ByteArray := prog_2_method_1_code
def yX0_init : MethodName := ⟨RX0, "<init>", "()V"⟩
abbrev cX0_record : ByteArray := prog_2_method_2_code
def yX0_record : MethodName := ⟨RX0, "record", "(LHeatedStories$Shelf;)V"⟩
abbrev cX0_takeBack : ByteArray := prog_2_method_3_code
def yX0_takeBack : MethodName := ⟨RX0, "takeBack", "(LHeatedStories$Shelf;)V"⟩
def RX1 : String := "HeatedStories$Pad"
def TX1 : u_T := fun k => match k with
  | 0 => ("HeatedStories$Pad", "characters", "[C", true)
  | _ => ("HeatedStories$Pad", "length", "I", false)
def tyX1 : Nat → FieldType := fun k => match k with
  | 0 => .array .char
  | _ => .int
abbrev wsX10 : List Cond := u_ws RX1 TX1 2
theorem nmX1 : ∀ a, a < 2 → ∀ b, b < 2 → a ≠ b → (TX1 a).2.1 ≠ (TX1 b).2.1 := by decide +kernel
theorem tyX1_ok : ∀ k, k < 2 → parseFieldDescriptor (TX1 k).2.2.1 = some (tyX1 k) := by decide +kernel
abbrev cX1_init : ByteArray := prog_3_method_1_code
def yX1_init : MethodName := ⟨RX1, "<init>", "()V"⟩
abbrev cX1_charactersIn : ByteArray := prog_3_method_2_code
def yX1_charactersIn : MethodName := ⟨RX1, "charactersIn", "(J)I"⟩
abbrev cX1_add : ByteArray := prog_3_method_3_code
def yX1_add : MethodName := ⟨RX1, "add", "(JI)V"⟩
abbrev cX1_firstFault : ByteArray := prog_3_method_4_code
def yX1_firstFault : MethodName := ⟨RX1, "firstFault", "()I"⟩
abbrev cX1_placeBehind : ByteArray := prog_3_method_5_code
def yX1_placeBehind : MethodName := ⟨RX1, "placeBehind", "(IC)I"⟩
abbrev cX1_isWord : ByteArray := prog_3_method_6_code
def yX1_isWord : MethodName := ⟨RX1, "isWord", "(C)Z"⟩
abbrev cX1_storiesIn : ByteArray := prog_3_method_7_code
def yX1_storiesIn : MethodName := ⟨RX1, "storiesIn", "()I"⟩
abbrev cX1_wordsIn : ByteArray := prog_3_method_8_code
def yX1_wordsIn : MethodName := ⟨RX1, "wordsIn", "()I"⟩
abbrev cX1_writeTo : ByteArray := prog_3_method_9_code
def yX1_writeTo : MethodName := ⟨RX1, "writeTo", "(LHeatedStories$Shelf;)V"⟩
def RX2 : String := "HeatedStories$Shelf"
def TX2 : u_T := fun k => match k with
  | 0 => ("HeatedStories$Shelf", "settings", "[I", true)
  | 1 => ("HeatedStories$Shelf", "letters", "[I", true)
  | 2 => ("HeatedStories$Shelf", "heats", "[I", true)
  | 3 => ("HeatedStories$Shelf", "starts", "[I", true)
  | 4 => ("HeatedStories$Shelf", "families", "[I", true)
  | 5 => ("HeatedStories$Shelf", "generations", "[I", true)
  | 6 => ("HeatedStories$Shelf", "tally", "[I", true)
  | 7 => ("HeatedStories$Shelf", "stories", "I", false)
  | 8 => ("HeatedStories$Shelf", "nextFamily", "I", false)
  | 9 => ("HeatedStories$Shelf", "splits", "I", false)
  | 10 => ("HeatedStories$Shelf", "boilings", "I", false)
  | _ => ("HeatedStories$Shelf", "fizzles", "I", false)
def tyX2 : Nat → FieldType := fun k => match k with
  | 0 => .array .int
  | 1 => .array .int
  | 2 => .array .int
  | 3 => .array .int
  | 4 => .array .int
  | 5 => .array .int
  | 6 => .array .int
  | 7 => .int
  | 8 => .int
  | 9 => .int
  | 10 => .int
  | _ => .int
abbrev wsX20 : List Cond := u_ws RX2 TX2 12
theorem nmX2 : ∀ a, a < 12 → ∀ b, b < 12 → a ≠ b → (TX2 a).2.1 ≠ (TX2 b).2.1 := by decide +kernel
theorem tyX2_ok : ∀ k, k < 12 → parseFieldDescriptor (TX2 k).2.2.1 = some (tyX2 k) := by decide +kernel
abbrev cX2_init : ByteArray := prog_4_method_1_code
def yX2_init : MethodName := ⟨RX2, "<init>", "()V"⟩
abbrev cX2_copyFrom : ByteArray := prog_4_method_2_code
def yX2_copyFrom : MethodName := ⟨RX2, "copyFrom", "(LHeatedStories$Shelf;)V"⟩
abbrev cX2_words : ByteArray := prog_4_method_3_code
def yX2_words : MethodName := ⟨RX2, "words", "()I"⟩
abbrev cX2_hasStory : ByteArray := prog_4_method_4_code
def yX2_hasStory : MethodName := ⟨RX2, "hasStory", "(I)Z"⟩
abbrev cX2_hasWord : ByteArray := prog_4_method_5_code
def yX2_hasWord : MethodName := ⟨RX2, "hasWord", "(II)Z"⟩
abbrev cX2_sizeOf : ByteArray := prog_4_method_6_code
def yX2_sizeOf : MethodName := ⟨RX2, "sizeOf", "(I)I"⟩
abbrev cX2_storyAt : ByteArray := prog_4_method_7_code
def yX2_storyAt : MethodName := ⟨RX2, "storyAt", "(I)I"⟩
abbrev cX2_placeOf : ByteArray := prog_4_method_8_code
def yX2_placeOf : MethodName := ⟨RX2, "placeOf", "(I)I"⟩
abbrev cX2_addStory : ByteArray := prog_4_method_9_code
def yX2_addStory : MethodName := ⟨RX2, "addStory", "()V"⟩
abbrev cX2_addWord : ByteArray := prog_4_method_10_code
def yX2_addWord : MethodName := ⟨RX2, "addWord", "(I)V"⟩
abbrev cX2_addDigit : ByteArray := prog_4_method_11_code
def yX2_addDigit : MethodName := ⟨RX2, "addDigit", "(I)V"⟩
abbrev cX2_warm : ByteArray := prog_4_method_12_code
def yX2_warm : MethodName := ⟨RX2, "warm", "(II)V"⟩
abbrev cX2_remove : ByteArray := prog_4_method_13_code
def yX2_remove : MethodName := ⟨RX2, "remove", "(I)V"⟩
abbrev cX2_append : ByteArray := prog_4_method_14_code
def yX2_append : MethodName := ⟨RX2, "append", "(ILHeatedStories$Shelf;I)V"⟩
abbrev cX2_isCalm : ByteArray := prog_4_method_15_code
def yX2_isCalm : MethodName := ⟨RX2, "isCalm", "()Z"⟩
abbrev cX2_react : ByteArray := prog_4_method_16_code
def yX2_react : MethodName := ⟨RX2, "react", "()I"⟩
abbrev cX2_reactAt : ByteArray := prog_4_method_17_code
def yX2_reactAt : MethodName := ⟨RX2, "reactAt", "(I)V"⟩
abbrev cX2_split : ByteArray := prog_4_method_18_code
def yX2_split : MethodName := ⟨RX2, "split", "(II)V"⟩
abbrev cX2_heatBetween : ByteArray := prog_4_method_19_code
def yX2_heatBetween : MethodName := ⟨RX2, "heatBetween", "(II)I"⟩
abbrev cX2_heatOf : ByteArray := prog_4_method_20_code
def yX2_heatOf : MethodName := ⟨RX2, "heatOf", "(I)I"⟩
abbrev cX2_heatOfAll : ByteArray := prog_4_method_21_code
def yX2_heatOfAll : MethodName := ⟨RX2, "heatOfAll", "()I"⟩
abbrev cX2_timesBetween : ByteArray := prog_4_method_22_code
def yX2_timesBetween : MethodName := ⟨RX2, "timesBetween", "(III)I"⟩
abbrev cX2_timesIn : ByteArray := prog_4_method_23_code
def yX2_timesIn : MethodName := ⟨RX2, "timesIn", "(II)I"⟩
abbrev cX2_timesInAll : ByteArray := prog_4_method_24_code
def yX2_timesInAll : MethodName := ⟨RX2, "timesInAll", "(I)I"⟩
abbrev cX2_tallyOf : ByteArray := prog_4_method_25_code
def yX2_tallyOf : MethodName := ⟨RX2, "tallyOf", "(I)V"⟩
abbrev cX2_themeOf : ByteArray := prog_4_method_26_code
def yX2_themeOf : MethodName := ⟨RX2, "themeOf", "(I)I"⟩
abbrev cX2_unlikeLettersOf : ByteArray := prog_4_method_27_code
def yX2_unlikeLettersOf : MethodName := ⟨RX2, "unlikeLettersOf", "(I)I"⟩
abbrev cX2_hottestOf : ByteArray := prog_4_method_28_code
def yX2_hottestOf : MethodName := ⟨RX2, "hottestOf", "(I)I"⟩
abbrev cX2_readsFromBothEnds : ByteArray := prog_4_method_29_code
def yX2_readsFromBothEnds : MethodName := ⟨RX2, "readsFromBothEnds", "(I)Z"⟩
abbrev cX2_unlikeFamilies : ByteArray := prog_4_method_30_code
def yX2_unlikeFamilies : MethodName := ⟨RX2, "unlikeFamilies", "()I"⟩
abbrev cX2_isFirstOfFamily : ByteArray := prog_4_method_31_code
def yX2_isFirstOfFamily : MethodName := ⟨RX2, "isFirstOfFamily", "(I)Z"⟩
abbrev cX2_greatestGeneration : ByteArray := prog_4_method_32_code
def yX2_greatestGeneration : MethodName := ⟨RX2, "greatestGeneration", "()I"⟩
abbrev cX2_storiesWith : ByteArray := prog_4_method_33_code
def yX2_storiesWith : MethodName := ⟨RX2, "storiesWith", "(I)I"⟩
abbrev cX2_storiesOfTheme : ByteArray := prog_4_method_34_code
def yX2_storiesOfTheme : MethodName := ⟨RX2, "storiesOfTheme", "(I)I"⟩
abbrev cX2_heatOfLetter : ByteArray := prog_4_method_35_code
def yX2_heatOfLetter : MethodName := ⟨RX2, "heatOfLetter", "(I)I"⟩
abbrev cX2_isPair : ByteArray := prog_4_method_36_code
def yX2_isPair : MethodName := ⟨RX2, "isPair", "(III)Z"⟩
def RX3 : String := "HeatedStories"
def TX3 : u_T := fun k => match k with
  | 0 => ("HeatedStories", "now", "LHeatedStories$Shelf;", true)
  | 1 => ("HeatedStories", "trial", "LHeatedStories$Shelf;", true)
  | 2 => ("HeatedStories", "history", "LHeatedStories$History;", true)
  | 3 => ("HeatedStories", "slots", "[LHeatedStories$Shelf;", true)
  | 4 => ("HeatedStories", "saved", "[Z", true)
  | 5 => ("HeatedStories", "pad", "LHeatedStories$Pad;", true)
  | 6 => ("HeatedStories", "runs", "[I", true)
  | 7 => ("HeatedStories", "themes", "[I", true)
  | _ => ("HeatedStories", "storyHeats", "[I", true)
def tyX3 : Nat → FieldType := fun k => match k with
  | 0 => .object "HeatedStories$Shelf"
  | 1 => .object "HeatedStories$Shelf"
  | 2 => .object "HeatedStories$History"
  | 3 => .array (.object "HeatedStories$Shelf")
  | 4 => .array .boolean
  | 5 => .object "HeatedStories$Pad"
  | 6 => .array .int
  | 7 => .array .int
  | _ => .array .int
abbrev wsX30 : List Cond := u_ws RX3 TX3 9
theorem nmX3 : ∀ a, a < 9 → ∀ b, b < 9 → a ≠ b → (TX3 a).2.1 ≠ (TX3 b).2.1 := by decide +kernel
theorem tyX3_ok : ∀ k, k < 9 → parseFieldDescriptor (TX3 k).2.2.1 = some (tyX3 k) := by decide +kernel
abbrev cX3_init : ByteArray := prog_1_method_1_code
def yX3_init : MethodName := ⟨RX3, "<init>", "()V"⟩
abbrev cX3_set : ByteArray := prog_1_method_2_code
def yX3_set : MethodName := ⟨RX3, "set", "(II)I"⟩
abbrev cX3_write : ByteArray := prog_1_method_3_code
def yX3_write : MethodName := ⟨RX3, "write", "()I"⟩
abbrev cX3_heat : ByteArray := prog_1_method_4_code
def yX3_heat : MethodName := ⟨RX3, "heat", "(III)I"⟩
abbrev cX3_read : ByteArray := prog_1_method_5_code
def yX3_read : MethodName := ⟨RX3, "read", "(II)I"⟩
abbrev cX3_fuse : ByteArray := prog_1_method_6_code
def yX3_fuse : MethodName := ⟨RX3, "fuse", "(II)I"⟩
abbrev cX3_pass : ByteArray := prog_1_method_7_code
def yX3_pass : MethodName := ⟨RX3, "pass", "(I)I"⟩
abbrev cX3_burn : ByteArray := prog_1_method_8_code
def yX3_burn : MethodName := ⟨RX3, "burn", "(I)I"⟩
abbrev cX3_word : ByteArray := prog_1_method_9_code
def yX3_word : MethodName := ⟨RX3, "word", "(III)I"⟩
abbrev cX3_story : ByteArray := prog_1_method_10_code
def yX3_story : MethodName := ⟨RX3, "story", "(II)I"⟩
abbrev cX3_count : ByteArray := prog_1_method_11_code
def yX3_count : MethodName := ⟨RX3, "count", "(I)I"⟩
abbrev cX3_letter : ByteArray := prog_1_method_12_code
def yX3_letter : MethodName := ⟨RX3, "letter", "(II)I"⟩
abbrev cX3_sideBySide : ByteArray := prog_1_method_13_code
def yX3_sideBySide : MethodName := ⟨RX3, "sideBySide", "(III)I"⟩
abbrev cX3_common : ByteArray := prog_1_method_14_code
def yX3_common : MethodName := ⟨RX3, "common", "(II)I"⟩
abbrev cX3_ifHeated : ByteArray := prog_1_method_15_code
def yX3_ifHeated : MethodName := ⟨RX3, "ifHeated", "(IIII)I"⟩
abbrev cX3_critical : ByteArray := prog_1_method_16_code
def yX3_critical : MethodName := ⟨RX3, "critical", "(II)I"⟩
abbrev cX3_touchiest : ByteArray := prog_1_method_17_code
def yX3_touchiest : MethodName := ⟨RX3, "touchiest", "(II)I"⟩
abbrev cX3_coolestPair : ByteArray := prog_1_method_18_code
def yX3_coolestPair : MethodName := ⟨RX3, "coolestPair", "(I)I"⟩
abbrev cX3_put : ByteArray := prog_1_method_19_code
def yX3_put : MethodName := ⟨RX3, "put", "(J)I"⟩
abbrev cX3_wipe : ByteArray := prog_1_method_20_code
def yX3_wipe : MethodName := ⟨RX3, "wipe", "()I"⟩
abbrev cX3_fault : ByteArray := prog_1_method_21_code
def yX3_fault : MethodName := ⟨RX3, "fault", "()I"⟩
abbrev cX3_undo : ByteArray := prog_1_method_22_code
def yX3_undo : MethodName := ⟨RX3, "undo", "()I"⟩
abbrev cX3_save : ByteArray := prog_1_method_23_code
def yX3_save : MethodName := ⟨RX3, "save", "(I)I"⟩
abbrev cX3_restore : ByteArray := prog_1_method_24_code
def yX3_restore : MethodName := ⟨RX3, "restore", "(I)I"⟩
abbrev cX3_tryHeating : ByteArray := prog_1_method_25_code
def yX3_tryHeating : MethodName := ⟨RX3, "tryHeating", "(II)I"⟩
abbrev cX3_isWithin : ByteArray := prog_1_method_26_code
def yX3_isWithin : MethodName := ⟨RX3, "isWithin", "(III)Z"⟩
abbrev cX3_isLetter : ByteArray := prog_1_method_27_code
def yX3_isLetter : MethodName := ⟨RX3, "isLetter", "(I)Z"⟩
def RX4 : String := "HeatedStoriesModel"
def TX4 : u_T := fun k => match k with
  | 0 => ("HeatedStoriesModel", "s", "[I", true)
  | 1 => ("HeatedStoriesModel", "aside", "[I", true)
  | 2 => ("HeatedStoriesModel", "before", "[I", true)
  | 3 => ("HeatedStoriesModel", "known", "I", false)
  | 4 => ("HeatedStoriesModel", "slots", "[I", true)
  | 5 => ("HeatedStoriesModel", "isSaved", "[Z", true)
  | 6 => ("HeatedStoriesModel", "pad", "[I", true)
  | 7 => ("HeatedStoriesModel", "length", "I", false)
  | 8 => ("HeatedStoriesModel", "letters", "[I", true)
  | 9 => ("HeatedStoriesModel", "heats", "[I", true)
  | 10 => ("HeatedStoriesModel", "reactions", "I", false)
  | 11 => ("HeatedStoriesModel", "newSplits", "I", false)
  | 12 => ("HeatedStoriesModel", "storiesThen", "I", false)
  | 13 => ("HeatedStoriesModel", "heatThen", "I", false)
  | 14 => ("HeatedStoriesModel", "place", "I", false)
  | 15 => ("HeatedStoriesModel", "isWrong", "Z", false)
  | 16 => ("HeatedStoriesModel", "toldLetter", "[I", true)
  | 17 => ("HeatedStoriesModel", "toldHeat", "[I", true)
  | 18 => ("HeatedStoriesModel", "toldStory", "[I", true)
  | 19 => ("HeatedStoriesModel", "toldWords", "I", false)
  | _ => ("HeatedStoriesModel", "toldStories", "I", false)
def tyX4 : Nat → FieldType := fun k => match k with
  | 0 => .array .int
  | 1 => .array .int
  | 2 => .array .int
  | 3 => .int
  | 4 => .array .int
  | 5 => .array .boolean
  | 6 => .array .int
  | 7 => .int
  | 8 => .array .int
  | 9 => .array .int
  | 10 => .int
  | 11 => .int
  | 12 => .int
  | 13 => .int
  | 14 => .int
  | 15 => .boolean
  | 16 => .array .int
  | 17 => .array .int
  | 18 => .array .int
  | 19 => .int
  | _ => .int
abbrev wsX40 : List Cond := u_ws RX4 TX4 21
theorem nmX4 : ∀ a, a < 21 → ∀ b, b < 21 → a ≠ b → (TX4 a).2.1 ≠ (TX4 b).2.1 := by decide +kernel
theorem tyX4_ok : ∀ k, k < 21 → parseFieldDescriptor (TX4 k).2.2.1 = some (tyX4 k) := by decide +kernel
abbrev cX4_init : ByteArray := prog_6_method_1_code
def yX4_init : MethodName := ⟨RX4, "<init>", "()V"⟩
abbrev cX4_in : ByteArray := prog_6_method_3_code
def yX4_in : MethodName := ⟨RX4, "in", "(III)Z"⟩
abbrev cX4_isStory : ByteArray := prog_6_method_4_code
def yX4_isStory : MethodName := ⟨RX4, "isStory", "(I)Z"⟩
abbrev cX4_isWord : ByteArray := prog_6_method_5_code
def yX4_isWord : MethodName := ⟨RX4, "isWord", "(II)Z"⟩
abbrev cX4_first : ByteArray := prog_6_method_6_code
def yX4_first : MethodName := ⟨RX4, "first", "(I)I"⟩
abbrev cX4_know : ByteArray := prog_6_method_7_code
def yX4_know : MethodName := ⟨RX4, "know", "()V"⟩
abbrev cX4_putAside : ByteArray := prog_6_method_8_code
def yX4_putAside : MethodName := ⟨RX4, "putAside", "()V"⟩
abbrev cX4_putBack : ByteArray := prog_6_method_9_code
def yX4_putBack : MethodName := ⟨RX4, "putBack", "()V"⟩
abbrev cX4_warm : ByteArray := prog_6_method_10_code
def yX4_warm : MethodName := ⟨RX4, "warm", "(II)V"⟩
abbrev cX4_storyOf : ByteArray := prog_6_method_11_code
def yX4_storyOf : MethodName := ⟨RX4, "storyOf", "(I)I"⟩
abbrev cX4_split : ByteArray := prog_6_method_12_code
def yX4_split : MethodName := ⟨RX4, "split", "(II)V"⟩
abbrev cX4_reactOne : ByteArray := prog_6_method_13_code
def yX4_reactOne : MethodName := ⟨RX4, "reactOne", "(I)V"⟩
abbrev cX4_react : ByteArray := prog_6_method_14_code
def yX4_react : MethodName := ⟨RX4, "react", "()I"⟩
abbrev cX4_removeStory : ByteArray := prog_6_method_15_code
def yX4_removeStory : MethodName := ⟨RX4, "removeStory", "(I)V"⟩
abbrev cX4_removeWords : ByteArray := prog_6_method_16_code
def yX4_removeWords : MethodName := ⟨RX4, "removeWords", "(II)V"⟩
abbrev cX4_times : ByteArray := prog_6_method_17_code
def yX4_times : MethodName := ⟨RX4, "times", "(II)I"⟩
abbrev cX4_theme : ByteArray := prog_6_method_18_code
def yX4_theme : MethodName := ⟨RX4, "theme", "(I)I"⟩
abbrev cX4_heatOf : ByteArray := prog_6_method_19_code
def yX4_heatOf : MethodName := ⟨RX4, "heatOf", "(I)I"⟩
abbrev cX4_allHeat : ByteArray := prog_6_method_20_code
def yX4_allHeat : MethodName := ⟨RX4, "allHeat", "()I"⟩
abbrev cX4_set : ByteArray := prog_6_method_21_code
def yX4_set : MethodName := ⟨RX4, "set", "(II)I"⟩
abbrev cX4_heat : ByteArray := prog_6_method_22_code
def yX4_heat : MethodName := ⟨RX4, "heat", "(III)I"⟩
abbrev cX4_read : ByteArray := prog_6_method_23_code
def yX4_read : MethodName := ⟨RX4, "read", "(II)I"⟩
abbrev cX4_fuse : ByteArray := prog_6_method_24_code
def yX4_fuse : MethodName := ⟨RX4, "fuse", "(II)I"⟩
abbrev cX4_pass : ByteArray := prog_6_method_25_code
def yX4_pass : MethodName := ⟨RX4, "pass", "(I)I"⟩
abbrev cX4_burn : ByteArray := prog_6_method_26_code
def yX4_burn : MethodName := ⟨RX4, "burn", "(I)I"⟩
abbrev cX4_word : ByteArray := prog_6_method_27_code
def yX4_word : MethodName := ⟨RX4, "word", "(III)I"⟩
abbrev cX4_hottest : ByteArray := prog_6_method_28_code
def yX4_hottest : MethodName := ⟨RX4, "hottest", "(I)I"⟩
abbrev cX4_unlike : ByteArray := prog_6_method_29_code
def yX4_unlike : MethodName := ⟨RX4, "unlike", "(I)I"⟩
abbrev cX4_isSameBackwards : ByteArray := prog_6_method_30_code
def yX4_isSameBackwards : MethodName := ⟨RX4, "isSameBackwards", "(I)I"⟩
abbrev cX4_story : ByteArray := prog_6_method_31_code
def yX4_story : MethodName := ⟨RX4, "story", "(II)I"⟩
abbrev cX4_families : ByteArray := prog_6_method_32_code
def yX4_families : MethodName := ⟨RX4, "families", "()I"⟩
abbrev cX4_greatest : ByteArray := prog_6_method_33_code
def yX4_greatest : MethodName := ⟨RX4, "greatest", "()I"⟩
abbrev cX4_count : ByteArray := prog_6_method_34_code
def yX4_count : MethodName := ⟨RX4, "count", "(I)I"⟩
abbrev cX4_letter : ByteArray := prog_6_method_35_code
def yX4_letter : MethodName := ⟨RX4, "letter", "(II)I"⟩
abbrev cX4_sideBySide : ByteArray := prog_6_method_36_code
def yX4_sideBySide : MethodName := ⟨RX4, "sideBySide", "(III)I"⟩
abbrev cX4_common : ByteArray := prog_6_method_37_code
def yX4_common : MethodName := ⟨RX4, "common", "(II)I"⟩
abbrev cX4_tryHeat : ByteArray := prog_6_method_38_code
def yX4_tryHeat : MethodName := ⟨RX4, "tryHeat", "(II)V"⟩
abbrev cX4_ifHeated : ByteArray := prog_6_method_39_code
def yX4_ifHeated : MethodName := ⟨RX4, "ifHeated", "(IIII)I"⟩
abbrev cX4_critical : ByteArray := prog_6_method_40_code
def yX4_critical : MethodName := ⟨RX4, "critical", "(II)I"⟩
abbrev cX4_touchiest : ByteArray := prog_6_method_41_code
def yX4_touchiest : MethodName := ⟨RX4, "touchiest", "(II)I"⟩
abbrev cX4_coolestPair : ByteArray := prog_6_method_42_code
def yX4_coolestPair : MethodName := ⟨RX4, "coolestPair", "(I)I"⟩
abbrev cX4_put : ByteArray := prog_6_method_43_code
def yX4_put : MethodName := ⟨RX4, "put", "(J)I"⟩
abbrev cX4_wipe : ByteArray := prog_6_method_44_code
def yX4_wipe : MethodName := ⟨RX4, "wipe", "()I"⟩
abbrev cX4_sign : ByteArray := prog_6_method_45_code
def yX4_sign : MethodName := ⟨RX4, "sign", "(II)I"⟩
abbrev cX4_isNext : ByteArray := prog_6_method_46_code
def yX4_isNext : MethodName := ⟨RX4, "isNext", "(II)Z"⟩
abbrev cX4_readPad : ByteArray := prog_6_method_47_code
def yX4_readPad : MethodName := ⟨RX4, "readPad", "()V"⟩
abbrev cX4_fault : ByteArray := prog_6_method_48_code
def yX4_fault : MethodName := ⟨RX4, "fault", "()I"⟩
abbrev cX4_write : ByteArray := prog_6_method_49_code
def yX4_write : MethodName := ⟨RX4, "write", "()I"⟩
abbrev cX4_undo : ByteArray := prog_6_method_50_code
def yX4_undo : MethodName := ⟨RX4, "undo", "()I"⟩
abbrev cX4_save : ByteArray := prog_6_method_51_code
def yX4_save : MethodName := ⟨RX4, "save", "(I)I"⟩
abbrev cX4_restore : ByteArray := prog_6_method_52_code
def yX4_restore : MethodName := ⟨RX4, "restore", "(I)I"⟩
def RJ9 : String := "java/lang/Math"
def TJ9 : u_T := fun k => match k with
  | _ => ("", "", "", false)
def tyJ9 : Nat → FieldType := fun k => match k with
  | _ => .int
abbrev wsJ90 : List Cond := u_ws RJ9 TJ9 0
theorem nmJ9 : ∀ a, a < 0 → ∀ b, b < 0 → a ≠ b → (TJ9 a).2.1 ≠ (TJ9 b).2.1 := by decide +kernel
theorem tyJ9_ok : ∀ k, k < 0 → parseFieldDescriptor (TJ9 k).2.2.1 = some (tyJ9 k) := by decide +kernel
abbrev cJ9_max_7cf53 : ByteArray := prog_7_method_65_code
def yJ9_max_7cf53 : MethodName := ⟨RJ9, "max", "(II)I"⟩
abbrev cJ9_min_7cf53 : ByteArray := prog_7_method_69_code
def yJ9_min_7cf53 : MethodName := ⟨RJ9, "min", "(II)I"⟩
def RJ10 : String := "java/lang/System"
def TJ10 : u_T := fun k => match k with
  | _ => ("", "", "", false)
def tyJ10 : Nat → FieldType := fun k => match k with
  | _ => .int
abbrev wsJ100 : List Cond := u_ws RJ10 TJ10 0
theorem nmJ10 : ∀ a, a < 0 → ∀ b, b < 0 → a ≠ b → (TJ10 a).2.1 ≠ (TJ10 b).2.1 := by decide +kernel
theorem tyJ10_ok : ∀ k, k < 0 → parseFieldDescriptor (TJ10 k).2.2.1 = some (tyJ10 k) := by decide +kernel
def RJ7 : String := "java/util/Arrays"
def TJ7 : u_T := fun k => match k with
  | _ => ("", "", "", false)
def tyJ7 : Nat → FieldType := fun k => match k with
  | _ => .int
abbrev wsJ70 : List Cond := u_ws RJ7 TJ7 0
theorem nmJ7 : ∀ a, a < 0 → ∀ b, b < 0 → a ≠ b → (TJ7 a).2.1 ≠ (TJ7 b).2.1 := by decide +kernel
theorem tyJ7_ok : ∀ k, k < 0 → parseFieldDescriptor (TJ7 k).2.2.1 = some (tyJ7 k) := by decide +kernel
abbrev cJ7_fill_53178 : ByteArray := prog_9_method_103_code
def yJ7_fill_53178 : MethodName := ⟨RJ7, "fill", "([II)V"⟩
def RL : String := "HeatedStoriesLaw"
abbrev cL_law : ByteArray := code
def yL_law : MethodName := ⟨RL, "law", "([I)Z"⟩
def wsX2_init : List Cond := .code yX2_init cX2_init 1 none :: ([.methodLink RX2 3 objectInit, .instanceMethod objectInit, .code objectInit ⟨#[0xb1]⟩ 1 none, .arrayClass .int, .fieldLink RX2 9 "HeatedStories$Shelf" "settings" "[I", .fieldLink RX2 15 "HeatedStories$Shelf" "letters" "[I", .fieldLink RX2 18 "HeatedStories$Shelf" "heats" "[I", .fieldLink RX2 21 "HeatedStories$Shelf" "starts" "[I", .fieldLink RX2 24 "HeatedStories$Shelf" "families" "[I", .fieldLink RX2 27 "HeatedStories$Shelf" "generations" "[I", .fieldLink RX2 30 "HeatedStories$Shelf" "tally" "[I"] ++ wsX20)
def wsX0_init : List Cond := .code yX0_init cX0_init 2 none :: ([.methodLink RX0 3 objectInit, .instanceMethod objectInit, .code objectInit ⟨#[0xb1]⟩ 1 none, .classLink RX0 9 RX2, .fieldLink RX0 11 "HeatedStories$History" "states" "[LHeatedStories$Shelf;", .instantiable RX2 12, .initialized RX2, .instanceMethod yX2_init, .code yX2_init cX2_init 1 none, .methodLink RX2 3 objectInit, .arrayClass .int, .fieldLink RX2 9 "HeatedStories$Shelf" "settings" "[I", .fieldLink RX2 15 "HeatedStories$Shelf" "letters" "[I", .fieldLink RX2 18 "HeatedStories$Shelf" "heats" "[I", .fieldLink RX2 21 "HeatedStories$Shelf" "starts" "[I", .fieldLink RX2 24 "HeatedStories$Shelf" "families" "[I", .fieldLink RX2 27 "HeatedStories$Shelf" "generations" "[I", .fieldLink RX2 30 "HeatedStories$Shelf" "tally" "[I"] ++ wsX00 ++ wsX20)
def wsX2_words : List Cond := .code yX2_words cX2_words 1 (some .int) :: ([.fieldLink RX2 21 "HeatedStories$Shelf" "starts" "[I", .fieldLink RX2 43 "HeatedStories$Shelf" "stories" "I"] ++ wsX20)
def wsX2_copyFrom : List Cond := .code yX2_copyFrom cX2_copyFrom 3 none :: ([.fieldLink RX2 9 "HeatedStories$Shelf" "settings" "[I", .methodLink RX2 37 arraycopyName, .native arraycopyName, .static arraycopyName, .initialized "java/lang/System", .fieldLink RX2 15 "HeatedStories$Shelf" "letters" "[I", .fieldLink RX2 18 "HeatedStories$Shelf" "heats" "[I", .fieldLink RX2 21 "HeatedStories$Shelf" "starts" "[I", .fieldLink RX2 43 "HeatedStories$Shelf" "stories" "I", .fieldLink RX2 24 "HeatedStories$Shelf" "families" "[I", .fieldLink RX2 27 "HeatedStories$Shelf" "generations" "[I", .fieldLink RX2 47 "HeatedStories$Shelf" "nextFamily" "I", .fieldLink RX2 50 "HeatedStories$Shelf" "splits" "I", .fieldLink RX2 53 "HeatedStories$Shelf" "boilings" "I", .fieldLink RX2 56 "HeatedStories$Shelf" "fizzles" "I", .methodLink RX2 33 yX2_words, .instanceMethod yX2_words, .selects RX2 yX2_words yX2_words, .initialized RX2, .code yX2_words cX2_words 1 (some .int)] ++ wsX20)
def wsX0_record_r1 : List Cond := [Cond.fieldLink RX0 11 "HeatedStories$History" "states" "[LHeatedStories$Shelf;", Cond.fieldLink RX0 18 "HeatedStories$History" "oldest" "I", Cond.fieldLink RX0 22 "HeatedStories$History" "size" "I", Cond.methodLink RX0 25 yX2_copyFrom, Cond.instanceMethod yX2_copyFrom, Cond.selects RX2 yX2_copyFrom yX2_copyFrom, Cond.initialized RX2, Cond.code yX2_copyFrom cX2_copyFrom 3 none, Cond.fieldLink RX2 9 "HeatedStories$Shelf" "settings" "[I", Cond.methodLink RX2 37 arraycopyName, Cond.native arraycopyName, Cond.static arraycopyName, Cond.initialized "java/lang/System", Cond.fieldLink RX2 15 "HeatedStories$Shelf" "letters" "[I", Cond.fieldLink RX2 18 "HeatedStories$Shelf" "heats" "[I", Cond.fieldLink RX2 21 "HeatedStories$Shelf" "starts" "[I", Cond.fieldLink RX2 43 "HeatedStories$Shelf" "stories" "I", Cond.fieldLink RX2 24 "HeatedStories$Shelf" "families" "[I", Cond.fieldLink RX2 27 "HeatedStories$Shelf" "generations" "[I", Cond.fieldLink RX2 47 "HeatedStories$Shelf" "nextFamily" "I", Cond.fieldLink RX2 50 "HeatedStories$Shelf" "splits" "I", Cond.fieldLink RX2 53 "HeatedStories$Shelf" "boilings" "I", Cond.fieldLink RX2 56 "HeatedStories$Shelf" "fizzles" "I", Cond.methodLink RX2 33 yX2_words]
def wsX0_record_r2 : List Cond := [Cond.instanceMethod yX2_words, Cond.selects RX2 yX2_words yX2_words, Cond.code yX2_words cX2_words 1 (some .int)]
def wsX0_record : List Cond := .code yX0_record cX0_record 2 none :: ((wsX0_record_r1 ++ wsX0_record_r2) ++ wsX00 ++ wsX20)
def wsX0_takeBack_r1 : List Cond := [Cond.fieldLink RX0 22 "HeatedStories$History" "size" "I", Cond.fieldLink RX0 11 "HeatedStories$History" "states" "[LHeatedStories$Shelf;", Cond.fieldLink RX0 18 "HeatedStories$History" "oldest" "I", Cond.methodLink RX0 25 yX2_copyFrom, Cond.instanceMethod yX2_copyFrom, Cond.selects RX2 yX2_copyFrom yX2_copyFrom, Cond.initialized RX2, Cond.code yX2_copyFrom cX2_copyFrom 3 none, Cond.fieldLink RX2 9 "HeatedStories$Shelf" "settings" "[I", Cond.methodLink RX2 37 arraycopyName, Cond.native arraycopyName, Cond.static arraycopyName, Cond.initialized "java/lang/System", Cond.fieldLink RX2 15 "HeatedStories$Shelf" "letters" "[I", Cond.fieldLink RX2 18 "HeatedStories$Shelf" "heats" "[I", Cond.fieldLink RX2 21 "HeatedStories$Shelf" "starts" "[I", Cond.fieldLink RX2 43 "HeatedStories$Shelf" "stories" "I", Cond.fieldLink RX2 24 "HeatedStories$Shelf" "families" "[I", Cond.fieldLink RX2 27 "HeatedStories$Shelf" "generations" "[I", Cond.fieldLink RX2 47 "HeatedStories$Shelf" "nextFamily" "I", Cond.fieldLink RX2 50 "HeatedStories$Shelf" "splits" "I", Cond.fieldLink RX2 53 "HeatedStories$Shelf" "boilings" "I", Cond.fieldLink RX2 56 "HeatedStories$Shelf" "fizzles" "I", Cond.methodLink RX2 33 yX2_words]
def wsX0_takeBack_r2 : List Cond := [Cond.instanceMethod yX2_words, Cond.selects RX2 yX2_words yX2_words, Cond.code yX2_words cX2_words 1 (some .int)]
def wsX0_takeBack : List Cond := .code yX0_takeBack cX0_takeBack 2 none :: ((wsX0_takeBack_r1 ++ wsX0_takeBack_r2) ++ wsX00 ++ wsX20)
def wsX1_init : List Cond := .code yX1_init cX1_init 1 none :: ([.methodLink RX1 3 objectInit, .instanceMethod objectInit, .code objectInit ⟨#[0xb1]⟩ 1 none, .arrayClass .char, .fieldLink RX1 11 "HeatedStories$Pad" "characters" "[C"] ++ wsX10)
def wsX3_isWithin : List Cond := .code yX3_isWithin cX3_isWithin 3 (some .boolean) :: ([])
def wsX1_charactersIn : List Cond := .code yX1_charactersIn cX1_charactersIn 5 (some .int) :: ([.constantLong RX1 15 (255), .static yX3_isWithin, .initialized RX3, .code yX3_isWithin cX3_isWithin 3 (some .boolean)])
def wsX1_add : List Cond := .code yX1_add cX1_add 5 none :: ([.fieldLink RX1 11 "HeatedStories$Pad" "characters" "[C", .fieldLink RX1 21 "HeatedStories$Pad" "length" "I", .constantLong RX1 15 (255)] ++ wsX10)
def wsX1_isWord : List Cond := .code yX1_isWord cX1_isWord 1 (some .boolean) :: ([.static yX3_isWithin, .initialized RX3, .code yX3_isWithin cX3_isWithin 3 (some .boolean)])
def wsX1_placeBehind : List Cond := .code yX1_placeBehind cX1_placeBehind 2 (some .int) :: ([.methodLink RX1 29 yX1_isWord, .static yX1_isWord, .initialized RX1, .code yX1_isWord cX1_isWord 1 (some .boolean), .static yX3_isWithin, .initialized RX3, .code yX3_isWithin cX3_isWithin 3 (some .boolean)])
def wsX1_firstFault : List Cond := .code yX1_firstFault cX1_firstFault 3 (some .int) :: ([.fieldLink RX1 21 "HeatedStories$Pad" "length" "I", .fieldLink RX1 11 "HeatedStories$Pad" "characters" "[C", .methodLink RX1 25 yX1_placeBehind, .static yX1_placeBehind, .initialized RX1, .code yX1_placeBehind cX1_placeBehind 2 (some .int), .methodLink RX1 29 yX1_isWord, .static yX1_isWord, .code yX1_isWord cX1_isWord 1 (some .boolean), .static yX3_isWithin, .initialized RX3, .code yX3_isWithin cX3_isWithin 3 (some .boolean)] ++ wsX10)
def wsX1_storiesIn : List Cond := .code yX1_storiesIn cX1_storiesIn 3 (some .int) :: ([.fieldLink RX1 21 "HeatedStories$Pad" "length" "I", .fieldLink RX1 11 "HeatedStories$Pad" "characters" "[C"] ++ wsX10)
def wsX1_wordsIn : List Cond := .code yX1_wordsIn cX1_wordsIn 3 (some .int) :: ([.fieldLink RX1 21 "HeatedStories$Pad" "length" "I", .fieldLink RX1 11 "HeatedStories$Pad" "characters" "[C", .methodLink RX1 29 yX1_isWord, .static yX1_isWord, .initialized RX1, .code yX1_isWord cX1_isWord 1 (some .boolean), .static yX3_isWithin, .initialized RX3, .code yX3_isWithin cX3_isWithin 3 (some .boolean)] ++ wsX10)
def wsX2_addStory : List Cond := .code yX2_addStory cX2_addStory 1 none :: ([.fieldLink RX2 24 "HeatedStories$Shelf" "families" "[I", .fieldLink RX2 43 "HeatedStories$Shelf" "stories" "I", .fieldLink RX2 47 "HeatedStories$Shelf" "nextFamily" "I", .fieldLink RX2 27 "HeatedStories$Shelf" "generations" "[I", .fieldLink RX2 21 "HeatedStories$Shelf" "starts" "[I"] ++ wsX20)
def wsX2_addWord : List Cond := .code yX2_addWord cX2_addWord 3 none :: ([.fieldLink RX2 15 "HeatedStories$Shelf" "letters" "[I", .fieldLink RX2 18 "HeatedStories$Shelf" "heats" "[I", .fieldLink RX2 21 "HeatedStories$Shelf" "starts" "[I", .fieldLink RX2 43 "HeatedStories$Shelf" "stories" "I", .methodLink RX2 33 yX2_words, .instanceMethod yX2_words, .selects RX2 yX2_words yX2_words, .initialized RX2, .code yX2_words cX2_words 1 (some .int)] ++ wsX20)
def wsX2_addDigit : List Cond := .code yX2_addDigit cX2_addDigit 3 none :: ([.fieldLink RX2 18 "HeatedStories$Shelf" "heats" "[I", .methodLink RX2 33 yX2_words, .instanceMethod yX2_words, .selects RX2 yX2_words yX2_words, .initialized RX2, .code yX2_words cX2_words 1 (some .int), .fieldLink RX2 21 "HeatedStories$Shelf" "starts" "[I", .fieldLink RX2 43 "HeatedStories$Shelf" "stories" "I"] ++ wsX20)
def wsX1_writeTo_r1 : List Cond := [Cond.fieldLink RX1 21 "HeatedStories$Pad" "length" "I", Cond.fieldLink RX1 11 "HeatedStories$Pad" "characters" "[C", Cond.methodLink RX1 33 yX2_addStory, Cond.instanceMethod yX2_addStory, Cond.selects RX2 yX2_addStory yX2_addStory, Cond.initialized RX2, Cond.code yX2_addStory cX2_addStory 1 none, Cond.fieldLink RX2 24 "HeatedStories$Shelf" "families" "[I", Cond.fieldLink RX2 43 "HeatedStories$Shelf" "stories" "I", Cond.fieldLink RX2 47 "HeatedStories$Shelf" "nextFamily" "I", Cond.fieldLink RX2 27 "HeatedStories$Shelf" "generations" "[I", Cond.fieldLink RX2 21 "HeatedStories$Shelf" "starts" "[I", Cond.methodLink RX1 29 yX1_isWord, Cond.static yX1_isWord, Cond.initialized RX1, Cond.code yX1_isWord cX1_isWord 1 (some .boolean), Cond.static yX3_isWithin, Cond.initialized RX3, Cond.code yX3_isWithin cX3_isWithin 3 (some .boolean), Cond.methodLink RX1 38 yX2_addWord, Cond.instanceMethod yX2_addWord, Cond.selects RX2 yX2_addWord yX2_addWord, Cond.code yX2_addWord cX2_addWord 3 none, Cond.fieldLink RX2 15 "HeatedStories$Shelf" "letters" "[I"]
def wsX1_writeTo_r2 : List Cond := [Cond.fieldLink RX2 18 "HeatedStories$Shelf" "heats" "[I", Cond.methodLink RX2 33 yX2_words, Cond.instanceMethod yX2_words, Cond.selects RX2 yX2_words yX2_words, Cond.code yX2_words cX2_words 1 (some .int), Cond.methodLink RX1 42 yX2_addDigit, Cond.instanceMethod yX2_addDigit, Cond.selects RX2 yX2_addDigit yX2_addDigit, Cond.code yX2_addDigit cX2_addDigit 3 none]
def wsX1_writeTo : List Cond := .code yX1_writeTo cX1_writeTo 4 none :: ((wsX1_writeTo_r1 ++ wsX1_writeTo_r2) ++ wsX10 ++ wsX20)
def wsX2_hasStory : List Cond := .code yX2_hasStory cX2_hasStory 2 (some .boolean) :: ([.fieldLink RX2 43 "HeatedStories$Shelf" "stories" "I", .static yX3_isWithin, .initialized RX3, .code yX3_isWithin cX3_isWithin 3 (some .boolean)] ++ wsX20)
def wsX2_sizeOf : List Cond := .code yX2_sizeOf cX2_sizeOf 2 (some .int) :: ([.fieldLink RX2 21 "HeatedStories$Shelf" "starts" "[I"] ++ wsX20)
def wsX2_hasWord : List Cond := .code yX2_hasWord cX2_hasWord 3 (some .boolean) :: ([.methodLink RX2 63 yX2_hasStory, .instanceMethod yX2_hasStory, .selects RX2 yX2_hasStory yX2_hasStory, .initialized RX2, .code yX2_hasStory cX2_hasStory 2 (some .boolean), .fieldLink RX2 43 "HeatedStories$Shelf" "stories" "I", .static yX3_isWithin, .initialized RX3, .code yX3_isWithin cX3_isWithin 3 (some .boolean), .methodLink RX2 67 yX2_sizeOf, .instanceMethod yX2_sizeOf, .selects RX2 yX2_sizeOf yX2_sizeOf, .code yX2_sizeOf cX2_sizeOf 2 (some .int), .fieldLink RX2 21 "HeatedStories$Shelf" "starts" "[I"] ++ wsX20)
def wsX2_storyAt : List Cond := .code yX2_storyAt cX2_storyAt 3 (some .int) :: ([.fieldLink RX2 43 "HeatedStories$Shelf" "stories" "I", .fieldLink RX2 21 "HeatedStories$Shelf" "starts" "[I"] ++ wsX20)
def wsX2_placeOf : List Cond := .code yX2_placeOf cX2_placeOf 2 (some .int) :: ([.fieldLink RX2 21 "HeatedStories$Shelf" "starts" "[I", .methodLink RX2 71 yX2_storyAt, .instanceMethod yX2_storyAt, .selects RX2 yX2_storyAt yX2_storyAt, .initialized RX2, .code yX2_storyAt cX2_storyAt 3 (some .int), .fieldLink RX2 43 "HeatedStories$Shelf" "stories" "I"] ++ wsX20)
def wsX2_warm : List Cond := .code yX2_warm cX2_warm 3 none :: ([.fieldLink RX2 18 "HeatedStories$Shelf" "heats" "[I", .methodLink RX2 74 Lib.Math.min.name, .static Lib.Math.min.name, .initialized "java/lang/Math", .code Lib.Math.min.name Lib.Math.min.code 2 (some .int)] ++ wsX20)
def wsX2_remove : List Cond := .code yX2_remove cX2_remove 7 none :: ([.fieldLink RX2 21 "HeatedStories$Shelf" "starts" "[I", .fieldLink RX2 43 "HeatedStories$Shelf" "stories" "I", .fieldLink RX2 15 "HeatedStories$Shelf" "letters" "[I", .methodLink RX2 37 arraycopyName, .native arraycopyName, .static arraycopyName, .initialized "java/lang/System", .fieldLink RX2 18 "HeatedStories$Shelf" "heats" "[I", .fieldLink RX2 24 "HeatedStories$Shelf" "families" "[I", .fieldLink RX2 27 "HeatedStories$Shelf" "generations" "[I", .methodLink RX2 33 yX2_words, .instanceMethod yX2_words, .selects RX2 yX2_words yX2_words, .initialized RX2, .code yX2_words cX2_words 1 (some .int)] ++ wsX20)
def wsX2_append : List Cond := .code yX2_append cX2_append 9 none :: ([.fieldLink RX2 21 "HeatedStories$Shelf" "starts" "[I", .fieldLink RX2 15 "HeatedStories$Shelf" "letters" "[I", .methodLink RX2 37 arraycopyName, .native arraycopyName, .static arraycopyName, .initialized "java/lang/System", .fieldLink RX2 18 "HeatedStories$Shelf" "heats" "[I", .fieldLink RX2 43 "HeatedStories$Shelf" "stories" "I", .methodLink RX2 67 yX2_sizeOf, .instanceMethod yX2_sizeOf, .selects RX2 yX2_sizeOf yX2_sizeOf, .initialized RX2, .code yX2_sizeOf cX2_sizeOf 2 (some .int), .methodLink RX2 33 yX2_words, .instanceMethod yX2_words, .selects RX2 yX2_words yX2_words, .code yX2_words cX2_words 1 (some .int)] ++ wsX20)
def wsX2_isCalm : List Cond := .code yX2_isCalm cX2_isCalm 2 (some .boolean) :: ([.fieldLink RX2 18 "HeatedStories$Shelf" "heats" "[I", .fieldLink RX2 9 "HeatedStories$Shelf" "settings" "[I", .methodLink RX2 33 yX2_words, .instanceMethod yX2_words, .selects RX2 yX2_words yX2_words, .initialized RX2, .code yX2_words cX2_words 1 (some .int), .fieldLink RX2 21 "HeatedStories$Shelf" "starts" "[I", .fieldLink RX2 43 "HeatedStories$Shelf" "stories" "I"] ++ wsX20)
def wsX2_split : List Cond := .code yX2_split cX2_split 4 none :: ([.fieldLink RX2 43 "HeatedStories$Shelf" "stories" "I", .fieldLink RX2 21 "HeatedStories$Shelf" "starts" "[I", .methodLink RX2 37 arraycopyName, .native arraycopyName, .static arraycopyName, .initialized "java/lang/System", .fieldLink RX2 24 "HeatedStories$Shelf" "families" "[I", .fieldLink RX2 27 "HeatedStories$Shelf" "generations" "[I"] ++ wsX20)
def wsX2_reactAt_r1 : List Cond := [Cond.fieldLink RX2 21 "HeatedStories$Shelf" "starts" "[I", Cond.fieldLink RX2 53 "HeatedStories$Shelf" "boilings" "I", Cond.fieldLink RX2 43 "HeatedStories$Shelf" "stories" "I", Cond.fieldLink RX2 50 "HeatedStories$Shelf" "splits" "I", Cond.fieldLink RX2 56 "HeatedStories$Shelf" "fizzles" "I", Cond.fieldLink RX2 18 "HeatedStories$Shelf" "heats" "[I", Cond.fieldLink RX2 9 "HeatedStories$Shelf" "settings" "[I", Cond.methodLink RX2 71 yX2_storyAt, Cond.instanceMethod yX2_storyAt, Cond.selects RX2 yX2_storyAt yX2_storyAt, Cond.initialized RX2, Cond.code yX2_storyAt cX2_storyAt 3 (some .int), Cond.methodLink RX2 88 yX2_split, Cond.instanceMethod yX2_split, Cond.selects RX2 yX2_split yX2_split, Cond.code yX2_split cX2_split 4 none, Cond.methodLink RX2 37 arraycopyName, Cond.native arraycopyName, Cond.static arraycopyName, Cond.initialized "java/lang/System", Cond.fieldLink RX2 24 "HeatedStories$Shelf" "families" "[I", Cond.fieldLink RX2 27 "HeatedStories$Shelf" "generations" "[I", Cond.methodLink RX2 92 yX2_warm, Cond.instanceMethod yX2_warm]
def wsX2_reactAt_r2 : List Cond := [Cond.selects RX2 yX2_warm yX2_warm, Cond.code yX2_warm cX2_warm 3 none, Cond.methodLink RX2 74 Lib.Math.min.name, Cond.static Lib.Math.min.name, Cond.initialized "java/lang/Math", Cond.code Lib.Math.min.name Lib.Math.min.code 2 (some .int)]
def wsX2_reactAt : List Cond := .code yX2_reactAt cX2_reactAt 5 none :: ((wsX2_reactAt_r1 ++ wsX2_reactAt_r2) ++ wsX20)
def wsX2_react_r1 : List Cond := [Cond.constant RX2 80 (1000000), Cond.fieldLink RX2 18 "HeatedStories$Shelf" "heats" "[I", Cond.fieldLink RX2 9 "HeatedStories$Shelf" "settings" "[I", Cond.methodLink RX2 85 Lib.Math.max.name, Cond.static Lib.Math.max.name, Cond.initialized "java/lang/Math", Cond.code Lib.Math.max.name Lib.Math.max.code 2 (some .int), Cond.methodLink RX2 33 yX2_words, Cond.instanceMethod yX2_words, Cond.selects RX2 yX2_words yX2_words, Cond.initialized RX2, Cond.code yX2_words cX2_words 1 (some .int), Cond.fieldLink RX2 21 "HeatedStories$Shelf" "starts" "[I", Cond.fieldLink RX2 43 "HeatedStories$Shelf" "stories" "I", Cond.methodLink RX2 81 yX2_reactAt, Cond.instanceMethod yX2_reactAt, Cond.selects RX2 yX2_reactAt yX2_reactAt, Cond.code yX2_reactAt cX2_reactAt 5 none, Cond.fieldLink RX2 53 "HeatedStories$Shelf" "boilings" "I", Cond.fieldLink RX2 50 "HeatedStories$Shelf" "splits" "I", Cond.fieldLink RX2 56 "HeatedStories$Shelf" "fizzles" "I", Cond.methodLink RX2 71 yX2_storyAt, Cond.instanceMethod yX2_storyAt, Cond.selects RX2 yX2_storyAt yX2_storyAt]
def wsX2_react_r2 : List Cond := [Cond.code yX2_storyAt cX2_storyAt 3 (some .int), Cond.methodLink RX2 88 yX2_split, Cond.instanceMethod yX2_split, Cond.selects RX2 yX2_split yX2_split, Cond.code yX2_split cX2_split 4 none, Cond.methodLink RX2 37 arraycopyName, Cond.native arraycopyName, Cond.static arraycopyName, Cond.initialized "java/lang/System", Cond.fieldLink RX2 24 "HeatedStories$Shelf" "families" "[I", Cond.fieldLink RX2 27 "HeatedStories$Shelf" "generations" "[I", Cond.methodLink RX2 92 yX2_warm, Cond.instanceMethod yX2_warm, Cond.selects RX2 yX2_warm yX2_warm, Cond.code yX2_warm cX2_warm 3 none, Cond.methodLink RX2 74 Lib.Math.min.name, Cond.static Lib.Math.min.name, Cond.code Lib.Math.min.name Lib.Math.min.code 2 (some .int)]
def wsX2_react : List Cond := .code yX2_react cX2_react 4 (some .int) :: ((wsX2_react_r1 ++ wsX2_react_r2) ++ wsX20)
def wsX2_heatBetween : List Cond := .code yX2_heatBetween cX2_heatBetween 5 (some .int) :: ([.fieldLink RX2 18 "HeatedStories$Shelf" "heats" "[I"] ++ wsX20)
def wsX2_heatOf : List Cond := .code yX2_heatOf cX2_heatOf 2 (some .int) :: ([.fieldLink RX2 21 "HeatedStories$Shelf" "starts" "[I", .methodLink RX2 95 yX2_heatBetween, .instanceMethod yX2_heatBetween, .selects RX2 yX2_heatBetween yX2_heatBetween, .initialized RX2, .code yX2_heatBetween cX2_heatBetween 5 (some .int), .fieldLink RX2 18 "HeatedStories$Shelf" "heats" "[I"] ++ wsX20)
def wsX2_heatOfAll : List Cond := .code yX2_heatOfAll cX2_heatOfAll 1 (some .int) :: ([.methodLink RX2 33 yX2_words, .instanceMethod yX2_words, .selects RX2 yX2_words yX2_words, .initialized RX2, .code yX2_words cX2_words 1 (some .int), .fieldLink RX2 21 "HeatedStories$Shelf" "starts" "[I", .fieldLink RX2 43 "HeatedStories$Shelf" "stories" "I", .methodLink RX2 95 yX2_heatBetween, .instanceMethod yX2_heatBetween, .selects RX2 yX2_heatBetween yX2_heatBetween, .code yX2_heatBetween cX2_heatBetween 5 (some .int), .fieldLink RX2 18 "HeatedStories$Shelf" "heats" "[I"] ++ wsX20)
def wsX2_timesBetween : List Cond := .code yX2_timesBetween cX2_timesBetween 6 (some .int) :: ([.fieldLink RX2 15 "HeatedStories$Shelf" "letters" "[I"] ++ wsX20)
def wsX2_timesIn : List Cond := .code yX2_timesIn cX2_timesIn 3 (some .int) :: ([.fieldLink RX2 21 "HeatedStories$Shelf" "starts" "[I", .methodLink RX2 98 yX2_timesBetween, .instanceMethod yX2_timesBetween, .selects RX2 yX2_timesBetween yX2_timesBetween, .initialized RX2, .code yX2_timesBetween cX2_timesBetween 6 (some .int), .fieldLink RX2 15 "HeatedStories$Shelf" "letters" "[I"] ++ wsX20)
def wsX2_timesInAll : List Cond := .code yX2_timesInAll cX2_timesInAll 2 (some .int) :: ([.methodLink RX2 33 yX2_words, .instanceMethod yX2_words, .selects RX2 yX2_words yX2_words, .initialized RX2, .code yX2_words cX2_words 1 (some .int), .fieldLink RX2 21 "HeatedStories$Shelf" "starts" "[I", .fieldLink RX2 43 "HeatedStories$Shelf" "stories" "I", .methodLink RX2 98 yX2_timesBetween, .instanceMethod yX2_timesBetween, .selects RX2 yX2_timesBetween yX2_timesBetween, .code yX2_timesBetween cX2_timesBetween 6 (some .int), .fieldLink RX2 15 "HeatedStories$Shelf" "letters" "[I"] ++ wsX20)
def wsJ7_fill_53178 : List Cond := .code yJ7_fill_53178 cJ7_fill_53178 4 none :: ([])
def wsX2_tallyOf : List Cond := .code yX2_tallyOf cX2_tallyOf 3 none :: ([.fieldLink RX2 30 "HeatedStories$Shelf" "tally" "[I", .fieldLink RX2 21 "HeatedStories$Shelf" "starts" "[I", .fieldLink RX2 15 "HeatedStories$Shelf" "letters" "[I", .methodLink RX2 102 yJ7_fill_53178, .static yJ7_fill_53178, .initialized RJ7, .code yJ7_fill_53178 cJ7_fill_53178 4 none] ++ wsX20)
def wsX2_themeOf : List Cond := .code yX2_themeOf cX2_themeOf 4 (some .int) :: ([.fieldLink RX2 30 "HeatedStories$Shelf" "tally" "[I", .methodLink RX2 108 yX2_tallyOf, .instanceMethod yX2_tallyOf, .selects RX2 yX2_tallyOf yX2_tallyOf, .initialized RX2, .code yX2_tallyOf cX2_tallyOf 3 none, .fieldLink RX2 21 "HeatedStories$Shelf" "starts" "[I", .fieldLink RX2 15 "HeatedStories$Shelf" "letters" "[I", .methodLink RX2 102 yJ7_fill_53178, .static yJ7_fill_53178, .initialized RJ7, .code yJ7_fill_53178 cJ7_fill_53178 4 none] ++ wsX20)
def wsX2_unlikeLettersOf : List Cond := .code yX2_unlikeLettersOf cX2_unlikeLettersOf 4 (some .int) :: ([.fieldLink RX2 30 "HeatedStories$Shelf" "tally" "[I", .methodLink RX2 108 yX2_tallyOf, .instanceMethod yX2_tallyOf, .selects RX2 yX2_tallyOf yX2_tallyOf, .initialized RX2, .code yX2_tallyOf cX2_tallyOf 3 none, .fieldLink RX2 21 "HeatedStories$Shelf" "starts" "[I", .fieldLink RX2 15 "HeatedStories$Shelf" "letters" "[I", .methodLink RX2 102 yJ7_fill_53178, .static yJ7_fill_53178, .initialized RJ7, .code yJ7_fill_53178 cJ7_fill_53178 4 none] ++ wsX20)
def wsX2_hottestOf : List Cond := .code yX2_hottestOf cX2_hottestOf 4 (some .int) :: ([.fieldLink RX2 21 "HeatedStories$Shelf" "starts" "[I", .fieldLink RX2 18 "HeatedStories$Shelf" "heats" "[I"] ++ wsX20)
def wsX2_readsFromBothEnds : List Cond := .code yX2_readsFromBothEnds cX2_readsFromBothEnds 4 (some .boolean) :: ([.fieldLink RX2 21 "HeatedStories$Shelf" "starts" "[I", .fieldLink RX2 15 "HeatedStories$Shelf" "letters" "[I", .methodLink RX2 67 yX2_sizeOf, .instanceMethod yX2_sizeOf, .selects RX2 yX2_sizeOf yX2_sizeOf, .initialized RX2, .code yX2_sizeOf cX2_sizeOf 2 (some .int)] ++ wsX20)
def wsX2_isFirstOfFamily : List Cond := .code yX2_isFirstOfFamily cX2_isFirstOfFamily 3 (some .boolean) :: ([.fieldLink RX2 24 "HeatedStories$Shelf" "families" "[I"] ++ wsX20)
def wsX2_unlikeFamilies : List Cond := .code yX2_unlikeFamilies cX2_unlikeFamilies 3 (some .int) :: ([.fieldLink RX2 43 "HeatedStories$Shelf" "stories" "I", .methodLink RX2 111 yX2_isFirstOfFamily, .instanceMethod yX2_isFirstOfFamily, .selects RX2 yX2_isFirstOfFamily yX2_isFirstOfFamily, .initialized RX2, .code yX2_isFirstOfFamily cX2_isFirstOfFamily 3 (some .boolean), .fieldLink RX2 24 "HeatedStories$Shelf" "families" "[I"] ++ wsX20)
def wsX2_greatestGeneration : List Cond := .code yX2_greatestGeneration cX2_greatestGeneration 3 (some .int) :: ([.fieldLink RX2 43 "HeatedStories$Shelf" "stories" "I", .fieldLink RX2 27 "HeatedStories$Shelf" "generations" "[I", .methodLink RX2 85 Lib.Math.max.name, .static Lib.Math.max.name, .initialized "java/lang/Math", .code Lib.Math.max.name Lib.Math.max.code 2 (some .int)] ++ wsX20)
def wsX2_storiesWith : List Cond := .code yX2_storiesWith cX2_storiesWith 4 (some .int) :: ([.fieldLink RX2 43 "HeatedStories$Shelf" "stories" "I", .methodLink RX2 114 yX2_timesIn, .instanceMethod yX2_timesIn, .selects RX2 yX2_timesIn yX2_timesIn, .initialized RX2, .code yX2_timesIn cX2_timesIn 3 (some .int), .fieldLink RX2 21 "HeatedStories$Shelf" "starts" "[I", .methodLink RX2 98 yX2_timesBetween, .instanceMethod yX2_timesBetween, .selects RX2 yX2_timesBetween yX2_timesBetween, .code yX2_timesBetween cX2_timesBetween 6 (some .int), .fieldLink RX2 15 "HeatedStories$Shelf" "letters" "[I"] ++ wsX20)
def wsX2_storiesOfTheme : List Cond := .code yX2_storiesOfTheme cX2_storiesOfTheme 4 (some .int) :: ([.fieldLink RX2 43 "HeatedStories$Shelf" "stories" "I", .methodLink RX2 117 yX2_themeOf, .instanceMethod yX2_themeOf, .selects RX2 yX2_themeOf yX2_themeOf, .initialized RX2, .code yX2_themeOf cX2_themeOf 4 (some .int), .fieldLink RX2 30 "HeatedStories$Shelf" "tally" "[I", .methodLink RX2 108 yX2_tallyOf, .instanceMethod yX2_tallyOf, .selects RX2 yX2_tallyOf yX2_tallyOf, .code yX2_tallyOf cX2_tallyOf 3 none, .fieldLink RX2 21 "HeatedStories$Shelf" "starts" "[I", .fieldLink RX2 15 "HeatedStories$Shelf" "letters" "[I", .methodLink RX2 102 yJ7_fill_53178, .static yJ7_fill_53178, .initialized RJ7, .code yJ7_fill_53178 cJ7_fill_53178 4 none] ++ wsX20)
def wsX2_heatOfLetter : List Cond := .code yX2_heatOfLetter cX2_heatOfLetter 4 (some .int) :: ([.fieldLink RX2 15 "HeatedStories$Shelf" "letters" "[I", .fieldLink RX2 18 "HeatedStories$Shelf" "heats" "[I", .methodLink RX2 33 yX2_words, .instanceMethod yX2_words, .selects RX2 yX2_words yX2_words, .initialized RX2, .code yX2_words cX2_words 1 (some .int), .fieldLink RX2 21 "HeatedStories$Shelf" "starts" "[I", .fieldLink RX2 43 "HeatedStories$Shelf" "stories" "I"] ++ wsX20)
def wsX2_isPair : List Cond := .code yX2_isPair cX2_isPair 4 (some .boolean) :: ([.fieldLink RX2 15 "HeatedStories$Shelf" "letters" "[I", .methodLink RX2 71 yX2_storyAt, .instanceMethod yX2_storyAt, .selects RX2 yX2_storyAt yX2_storyAt, .initialized RX2, .code yX2_storyAt cX2_storyAt 3 (some .int), .fieldLink RX2 43 "HeatedStories$Shelf" "stories" "I", .fieldLink RX2 21 "HeatedStories$Shelf" "starts" "[I"] ++ wsX20)
def wsX3_init_r1 : List Cond := [Cond.methodLink RX3 1 objectInit, Cond.instanceMethod objectInit, Cond.code objectInit ⟨#[0xb1]⟩ 1 none, Cond.classLink RX3 7 RX2, Cond.instantiable RX2 12, Cond.initialized RX2, Cond.fieldLink RX3 10 "HeatedStories" "now" "LHeatedStories$Shelf;", Cond.fieldLink RX3 16 "HeatedStories" "trial" "LHeatedStories$Shelf;", Cond.classLink RX3 19 RX0, Cond.instantiable RX0 3, Cond.initialized RX0, Cond.fieldLink RX3 22 "HeatedStories" "history" "LHeatedStories$History;", Cond.fieldLink RX3 26 "HeatedStories" "slots" "[LHeatedStories$Shelf;", Cond.arrayClass .boolean, Cond.fieldLink RX3 30 "HeatedStories" "saved" "[Z", Cond.classLink RX3 34 RX1, Cond.instantiable RX1 2, Cond.initialized RX1, Cond.fieldLink RX3 37 "HeatedStories" "pad" "LHeatedStories$Pad;", Cond.arrayClass .int, Cond.fieldLink RX3 41 "HeatedStories" "runs" "[I", Cond.fieldLink RX3 45 "HeatedStories" "themes" "[I", Cond.fieldLink RX3 48 "HeatedStories" "storyHeats" "[I", Cond.instanceMethod yX2_init]
def wsX3_init_r2 : List Cond := [Cond.code yX2_init cX2_init 1 none, Cond.methodLink RX2 3 objectInit, Cond.fieldLink RX2 9 "HeatedStories$Shelf" "settings" "[I", Cond.fieldLink RX2 15 "HeatedStories$Shelf" "letters" "[I", Cond.fieldLink RX2 18 "HeatedStories$Shelf" "heats" "[I", Cond.fieldLink RX2 21 "HeatedStories$Shelf" "starts" "[I", Cond.fieldLink RX2 24 "HeatedStories$Shelf" "families" "[I", Cond.fieldLink RX2 27 "HeatedStories$Shelf" "generations" "[I", Cond.fieldLink RX2 30 "HeatedStories$Shelf" "tally" "[I", Cond.methodLink RX3 21 yX0_init, Cond.instanceMethod yX0_init, Cond.code yX0_init cX0_init 2 none, Cond.methodLink RX0 3 objectInit, Cond.classLink RX0 9 RX2, Cond.fieldLink RX0 11 "HeatedStories$History" "states" "[LHeatedStories$Shelf;", Cond.instanceMethod yX1_init, Cond.code yX1_init cX1_init 1 none, Cond.methodLink RX1 3 objectInit, Cond.arrayClass .char, Cond.fieldLink RX1 11 "HeatedStories$Pad" "characters" "[C"]
def wsX3_init : List Cond := .code yX3_init cX3_init 2 none :: ((wsX3_init_r1 ++ wsX3_init_r2) ++ wsX20 ++ wsX30 ++ wsX00 ++ wsX10)
def wsX3_set_r1 : List Cond := [Cond.fieldLink RX3 55 "HeatedStories" "LOWEST" "[I", Cond.fieldLink RX3 58 "HeatedStories" "HIGHEST" "[I", Cond.fieldLink RX3 22 "HeatedStories" "history" "LHeatedStories$History;", Cond.fieldLink RX3 10 "HeatedStories" "now" "LHeatedStories$Shelf;", Cond.fieldLink RX3 65 "HeatedStories$Shelf" "settings" "[I", Cond.methodLink RX3 51 yX3_isWithin, Cond.static yX3_isWithin, Cond.initialized RX3, Cond.code yX3_isWithin cX3_isWithin 3 (some .boolean), Cond.methodLink RX3 61 yX0_record, Cond.instanceMethod yX0_record, Cond.selects RX0 yX0_record yX0_record, Cond.initialized RX0, Cond.code yX0_record cX0_record 2 none, Cond.fieldLink RX0 11 "HeatedStories$History" "states" "[LHeatedStories$Shelf;", Cond.fieldLink RX0 18 "HeatedStories$History" "oldest" "I", Cond.fieldLink RX0 22 "HeatedStories$History" "size" "I", Cond.methodLink RX0 25 yX2_copyFrom, Cond.instanceMethod yX2_copyFrom, Cond.selects RX2 yX2_copyFrom yX2_copyFrom, Cond.initialized RX2, Cond.code yX2_copyFrom cX2_copyFrom 3 none, Cond.fieldLink RX2 9 "HeatedStories$Shelf" "settings" "[I", Cond.methodLink RX2 37 arraycopyName]
def wsX3_set_r2 : List Cond := [Cond.native arraycopyName, Cond.static arraycopyName, Cond.initialized "java/lang/System", Cond.fieldLink RX2 15 "HeatedStories$Shelf" "letters" "[I", Cond.fieldLink RX2 18 "HeatedStories$Shelf" "heats" "[I", Cond.fieldLink RX2 21 "HeatedStories$Shelf" "starts" "[I", Cond.fieldLink RX2 43 "HeatedStories$Shelf" "stories" "I", Cond.fieldLink RX2 24 "HeatedStories$Shelf" "families" "[I", Cond.fieldLink RX2 27 "HeatedStories$Shelf" "generations" "[I", Cond.fieldLink RX2 47 "HeatedStories$Shelf" "nextFamily" "I", Cond.fieldLink RX2 50 "HeatedStories$Shelf" "splits" "I", Cond.fieldLink RX2 53 "HeatedStories$Shelf" "boilings" "I", Cond.fieldLink RX2 56 "HeatedStories$Shelf" "fizzles" "I", Cond.methodLink RX2 33 yX2_words, Cond.instanceMethod yX2_words, Cond.selects RX2 yX2_words yX2_words, Cond.code yX2_words cX2_words 1 (some .int)]
def wsX3_set : List Cond := .code yX3_set cX3_set 4 (some .int) :: ((wsX3_set_r1 ++ wsX3_set_r2) ++ wsX30 ++ wsX20 ++ wsX00)
def wsX3_write_r1 : List Cond := [Cond.fieldLink RX3 37 "HeatedStories" "pad" "LHeatedStories$Pad;", Cond.fieldLink RX3 10 "HeatedStories" "now" "LHeatedStories$Shelf;", Cond.fieldLink RX3 72 "HeatedStories$Shelf" "stories" "I", Cond.fieldLink RX3 22 "HeatedStories" "history" "LHeatedStories$History;", Cond.fieldLink RX3 88 "HeatedStories$Pad" "length" "I", Cond.methodLink RX3 68 yX1_firstFault, Cond.instanceMethod yX1_firstFault, Cond.selects RX1 yX1_firstFault yX1_firstFault, Cond.initialized RX1, Cond.code yX1_firstFault cX1_firstFault 3 (some .int), Cond.fieldLink RX1 21 "HeatedStories$Pad" "length" "I", Cond.fieldLink RX1 11 "HeatedStories$Pad" "characters" "[C", Cond.methodLink RX1 25 yX1_placeBehind, Cond.static yX1_placeBehind, Cond.code yX1_placeBehind cX1_placeBehind 2 (some .int), Cond.methodLink RX1 29 yX1_isWord, Cond.static yX1_isWord, Cond.code yX1_isWord cX1_isWord 1 (some .boolean), Cond.static yX3_isWithin, Cond.initialized RX3, Cond.code yX3_isWithin cX3_isWithin 3 (some .boolean), Cond.methodLink RX3 76 yX1_storiesIn, Cond.instanceMethod yX1_storiesIn, Cond.selects RX1 yX1_storiesIn yX1_storiesIn]
def wsX3_write_r2 : List Cond := [Cond.code yX1_storiesIn cX1_storiesIn 3 (some .int), Cond.methodLink RX3 79 yX2_words, Cond.instanceMethod yX2_words, Cond.selects RX2 yX2_words yX2_words, Cond.initialized RX2, Cond.code yX2_words cX2_words 1 (some .int), Cond.fieldLink RX2 21 "HeatedStories$Shelf" "starts" "[I", Cond.fieldLink RX2 43 "HeatedStories$Shelf" "stories" "I", Cond.methodLink RX3 82 yX1_wordsIn, Cond.instanceMethod yX1_wordsIn, Cond.selects RX1 yX1_wordsIn yX1_wordsIn, Cond.code yX1_wordsIn cX1_wordsIn 3 (some .int), Cond.methodLink RX3 61 yX0_record, Cond.instanceMethod yX0_record, Cond.selects RX0 yX0_record yX0_record, Cond.initialized RX0, Cond.code yX0_record cX0_record 2 none, Cond.fieldLink RX0 11 "HeatedStories$History" "states" "[LHeatedStories$Shelf;", Cond.fieldLink RX0 18 "HeatedStories$History" "oldest" "I", Cond.fieldLink RX0 22 "HeatedStories$History" "size" "I", Cond.methodLink RX0 25 yX2_copyFrom, Cond.instanceMethod yX2_copyFrom, Cond.selects RX2 yX2_copyFrom yX2_copyFrom, Cond.code yX2_copyFrom cX2_copyFrom 3 none]
def wsX3_write_r3 : List Cond := [Cond.fieldLink RX2 9 "HeatedStories$Shelf" "settings" "[I", Cond.methodLink RX2 37 arraycopyName, Cond.native arraycopyName, Cond.static arraycopyName, Cond.initialized "java/lang/System", Cond.fieldLink RX2 15 "HeatedStories$Shelf" "letters" "[I", Cond.fieldLink RX2 18 "HeatedStories$Shelf" "heats" "[I", Cond.fieldLink RX2 24 "HeatedStories$Shelf" "families" "[I", Cond.fieldLink RX2 27 "HeatedStories$Shelf" "generations" "[I", Cond.fieldLink RX2 47 "HeatedStories$Shelf" "nextFamily" "I", Cond.fieldLink RX2 50 "HeatedStories$Shelf" "splits" "I", Cond.fieldLink RX2 53 "HeatedStories$Shelf" "boilings" "I", Cond.fieldLink RX2 56 "HeatedStories$Shelf" "fizzles" "I", Cond.methodLink RX2 33 yX2_words, Cond.methodLink RX3 85 yX1_writeTo, Cond.instanceMethod yX1_writeTo, Cond.selects RX1 yX1_writeTo yX1_writeTo, Cond.code yX1_writeTo cX1_writeTo 4 none, Cond.methodLink RX1 33 yX2_addStory, Cond.instanceMethod yX2_addStory, Cond.selects RX2 yX2_addStory yX2_addStory, Cond.code yX2_addStory cX2_addStory 1 none, Cond.methodLink RX1 38 yX2_addWord, Cond.instanceMethod yX2_addWord]
def wsX3_write_r4 : List Cond := [Cond.selects RX2 yX2_addWord yX2_addWord, Cond.code yX2_addWord cX2_addWord 3 none, Cond.methodLink RX1 42 yX2_addDigit, Cond.instanceMethod yX2_addDigit, Cond.selects RX2 yX2_addDigit yX2_addDigit, Cond.code yX2_addDigit cX2_addDigit 3 none, Cond.methodLink RX3 91 yX2_react, Cond.instanceMethod yX2_react, Cond.selects RX2 yX2_react yX2_react, Cond.code yX2_react cX2_react 4 (some .int), Cond.constant RX2 80 (1000000), Cond.methodLink RX2 85 Lib.Math.max.name, Cond.static Lib.Math.max.name, Cond.initialized "java/lang/Math", Cond.code Lib.Math.max.name Lib.Math.max.code 2 (some .int), Cond.methodLink RX2 81 yX2_reactAt, Cond.instanceMethod yX2_reactAt, Cond.selects RX2 yX2_reactAt yX2_reactAt, Cond.code yX2_reactAt cX2_reactAt 5 none, Cond.methodLink RX2 71 yX2_storyAt, Cond.instanceMethod yX2_storyAt, Cond.selects RX2 yX2_storyAt yX2_storyAt, Cond.code yX2_storyAt cX2_storyAt 3 (some .int), Cond.methodLink RX2 88 yX2_split]
def wsX3_write_r5 : List Cond := [Cond.instanceMethod yX2_split, Cond.selects RX2 yX2_split yX2_split, Cond.code yX2_split cX2_split 4 none, Cond.methodLink RX2 92 yX2_warm, Cond.instanceMethod yX2_warm, Cond.selects RX2 yX2_warm yX2_warm, Cond.code yX2_warm cX2_warm 3 none, Cond.methodLink RX2 74 Lib.Math.min.name, Cond.static Lib.Math.min.name, Cond.code Lib.Math.min.name Lib.Math.min.code 2 (some .int)]
def wsX3_write : List Cond := .code yX3_write cX3_write 1 (some .int) :: ((wsX3_write_r1 ++ (wsX3_write_r2 ++ (wsX3_write_r3 ++ (wsX3_write_r4 ++ wsX3_write_r5)))) ++ wsX30 ++ wsX20 ++ wsX10 ++ wsX00)
def wsX3_heat_r1 : List Cond := [Cond.fieldLink RX3 10 "HeatedStories" "now" "LHeatedStories$Shelf;", Cond.fieldLink RX3 22 "HeatedStories" "history" "LHeatedStories$History;", Cond.fieldLink RX3 98 "HeatedStories$Shelf" "starts" "[I", Cond.methodLink RX3 94 yX2_hasWord, Cond.instanceMethod yX2_hasWord, Cond.selects RX2 yX2_hasWord yX2_hasWord, Cond.initialized RX2, Cond.code yX2_hasWord cX2_hasWord 3 (some .boolean), Cond.methodLink RX2 63 yX2_hasStory, Cond.instanceMethod yX2_hasStory, Cond.selects RX2 yX2_hasStory yX2_hasStory, Cond.code yX2_hasStory cX2_hasStory 2 (some .boolean), Cond.fieldLink RX2 43 "HeatedStories$Shelf" "stories" "I", Cond.static yX3_isWithin, Cond.initialized RX3, Cond.code yX3_isWithin cX3_isWithin 3 (some .boolean), Cond.methodLink RX2 67 yX2_sizeOf, Cond.instanceMethod yX2_sizeOf, Cond.selects RX2 yX2_sizeOf yX2_sizeOf, Cond.code yX2_sizeOf cX2_sizeOf 2 (some .int), Cond.fieldLink RX2 21 "HeatedStories$Shelf" "starts" "[I", Cond.methodLink RX3 51 yX3_isWithin, Cond.methodLink RX3 61 yX0_record, Cond.instanceMethod yX0_record]
def wsX3_heat_r2 : List Cond := [Cond.selects RX0 yX0_record yX0_record, Cond.initialized RX0, Cond.code yX0_record cX0_record 2 none, Cond.fieldLink RX0 11 "HeatedStories$History" "states" "[LHeatedStories$Shelf;", Cond.fieldLink RX0 18 "HeatedStories$History" "oldest" "I", Cond.fieldLink RX0 22 "HeatedStories$History" "size" "I", Cond.methodLink RX0 25 yX2_copyFrom, Cond.instanceMethod yX2_copyFrom, Cond.selects RX2 yX2_copyFrom yX2_copyFrom, Cond.code yX2_copyFrom cX2_copyFrom 3 none, Cond.fieldLink RX2 9 "HeatedStories$Shelf" "settings" "[I", Cond.methodLink RX2 37 arraycopyName, Cond.native arraycopyName, Cond.static arraycopyName, Cond.initialized "java/lang/System", Cond.fieldLink RX2 15 "HeatedStories$Shelf" "letters" "[I", Cond.fieldLink RX2 18 "HeatedStories$Shelf" "heats" "[I", Cond.fieldLink RX2 24 "HeatedStories$Shelf" "families" "[I", Cond.fieldLink RX2 27 "HeatedStories$Shelf" "generations" "[I", Cond.fieldLink RX2 47 "HeatedStories$Shelf" "nextFamily" "I", Cond.fieldLink RX2 50 "HeatedStories$Shelf" "splits" "I", Cond.fieldLink RX2 53 "HeatedStories$Shelf" "boilings" "I", Cond.fieldLink RX2 56 "HeatedStories$Shelf" "fizzles" "I", Cond.methodLink RX2 33 yX2_words]
def wsX3_heat_r3 : List Cond := [Cond.instanceMethod yX2_words, Cond.selects RX2 yX2_words yX2_words, Cond.code yX2_words cX2_words 1 (some .int), Cond.methodLink RX3 101 yX2_warm, Cond.instanceMethod yX2_warm, Cond.selects RX2 yX2_warm yX2_warm, Cond.code yX2_warm cX2_warm 3 none, Cond.methodLink RX2 74 Lib.Math.min.name, Cond.static Lib.Math.min.name, Cond.initialized "java/lang/Math", Cond.code Lib.Math.min.name Lib.Math.min.code 2 (some .int), Cond.methodLink RX3 91 yX2_react, Cond.instanceMethod yX2_react, Cond.selects RX2 yX2_react yX2_react, Cond.code yX2_react cX2_react 4 (some .int), Cond.constant RX2 80 (1000000), Cond.methodLink RX2 85 Lib.Math.max.name, Cond.static Lib.Math.max.name, Cond.code Lib.Math.max.name Lib.Math.max.code 2 (some .int), Cond.methodLink RX2 81 yX2_reactAt, Cond.instanceMethod yX2_reactAt, Cond.selects RX2 yX2_reactAt yX2_reactAt, Cond.code yX2_reactAt cX2_reactAt 5 none, Cond.methodLink RX2 71 yX2_storyAt]
def wsX3_heat_r4 : List Cond := [Cond.instanceMethod yX2_storyAt, Cond.selects RX2 yX2_storyAt yX2_storyAt, Cond.code yX2_storyAt cX2_storyAt 3 (some .int), Cond.methodLink RX2 88 yX2_split, Cond.instanceMethod yX2_split, Cond.selects RX2 yX2_split yX2_split, Cond.code yX2_split cX2_split 4 none, Cond.methodLink RX2 92 yX2_warm]
def wsX3_heat : List Cond := .code yX3_heat cX3_heat 4 (some .int) :: ((wsX3_heat_r1 ++ (wsX3_heat_r2 ++ (wsX3_heat_r3 ++ wsX3_heat_r4))) ++ wsX30 ++ wsX20 ++ wsX00)
def wsX3_read_r1 : List Cond := [Cond.fieldLink RX3 10 "HeatedStories" "now" "LHeatedStories$Shelf;", Cond.fieldLink RX3 22 "HeatedStories" "history" "LHeatedStories$History;", Cond.fieldLink RX3 98 "HeatedStories$Shelf" "starts" "[I", Cond.methodLink RX3 105 yX2_hasStory, Cond.instanceMethod yX2_hasStory, Cond.selects RX2 yX2_hasStory yX2_hasStory, Cond.initialized RX2, Cond.code yX2_hasStory cX2_hasStory 2 (some .boolean), Cond.fieldLink RX2 43 "HeatedStories$Shelf" "stories" "I", Cond.static yX3_isWithin, Cond.initialized RX3, Cond.code yX3_isWithin cX3_isWithin 3 (some .boolean), Cond.methodLink RX3 51 yX3_isWithin, Cond.methodLink RX3 61 yX0_record, Cond.instanceMethod yX0_record, Cond.selects RX0 yX0_record yX0_record, Cond.initialized RX0, Cond.code yX0_record cX0_record 2 none, Cond.fieldLink RX0 11 "HeatedStories$History" "states" "[LHeatedStories$Shelf;", Cond.fieldLink RX0 18 "HeatedStories$History" "oldest" "I", Cond.fieldLink RX0 22 "HeatedStories$History" "size" "I", Cond.methodLink RX0 25 yX2_copyFrom, Cond.instanceMethod yX2_copyFrom, Cond.selects RX2 yX2_copyFrom yX2_copyFrom]
def wsX3_read_r2 : List Cond := [Cond.code yX2_copyFrom cX2_copyFrom 3 none, Cond.fieldLink RX2 9 "HeatedStories$Shelf" "settings" "[I", Cond.methodLink RX2 37 arraycopyName, Cond.native arraycopyName, Cond.static arraycopyName, Cond.initialized "java/lang/System", Cond.fieldLink RX2 15 "HeatedStories$Shelf" "letters" "[I", Cond.fieldLink RX2 18 "HeatedStories$Shelf" "heats" "[I", Cond.fieldLink RX2 21 "HeatedStories$Shelf" "starts" "[I", Cond.fieldLink RX2 24 "HeatedStories$Shelf" "families" "[I", Cond.fieldLink RX2 27 "HeatedStories$Shelf" "generations" "[I", Cond.fieldLink RX2 47 "HeatedStories$Shelf" "nextFamily" "I", Cond.fieldLink RX2 50 "HeatedStories$Shelf" "splits" "I", Cond.fieldLink RX2 53 "HeatedStories$Shelf" "boilings" "I", Cond.fieldLink RX2 56 "HeatedStories$Shelf" "fizzles" "I", Cond.methodLink RX2 33 yX2_words, Cond.instanceMethod yX2_words, Cond.selects RX2 yX2_words yX2_words, Cond.code yX2_words cX2_words 1 (some .int), Cond.methodLink RX3 101 yX2_warm, Cond.instanceMethod yX2_warm, Cond.selects RX2 yX2_warm yX2_warm, Cond.code yX2_warm cX2_warm 3 none, Cond.methodLink RX2 74 Lib.Math.min.name]
def wsX3_read_r3 : List Cond := [Cond.static Lib.Math.min.name, Cond.initialized "java/lang/Math", Cond.code Lib.Math.min.name Lib.Math.min.code 2 (some .int), Cond.methodLink RX3 91 yX2_react, Cond.instanceMethod yX2_react, Cond.selects RX2 yX2_react yX2_react, Cond.code yX2_react cX2_react 4 (some .int), Cond.constant RX2 80 (1000000), Cond.methodLink RX2 85 Lib.Math.max.name, Cond.static Lib.Math.max.name, Cond.code Lib.Math.max.name Lib.Math.max.code 2 (some .int), Cond.methodLink RX2 81 yX2_reactAt, Cond.instanceMethod yX2_reactAt, Cond.selects RX2 yX2_reactAt yX2_reactAt, Cond.code yX2_reactAt cX2_reactAt 5 none, Cond.methodLink RX2 71 yX2_storyAt, Cond.instanceMethod yX2_storyAt, Cond.selects RX2 yX2_storyAt yX2_storyAt, Cond.code yX2_storyAt cX2_storyAt 3 (some .int), Cond.methodLink RX2 88 yX2_split, Cond.instanceMethod yX2_split, Cond.selects RX2 yX2_split yX2_split, Cond.code yX2_split cX2_split 4 none, Cond.methodLink RX2 92 yX2_warm]
def wsX3_read : List Cond := .code yX3_read cX3_read 4 (some .int) :: ((wsX3_read_r1 ++ (wsX3_read_r2 ++ wsX3_read_r3)) ++ wsX30 ++ wsX20 ++ wsX00)
def wsX3_fuse_r1 : List Cond := [Cond.fieldLink RX3 10 "HeatedStories" "now" "LHeatedStories$Shelf;", Cond.fieldLink RX3 22 "HeatedStories" "history" "LHeatedStories$History;", Cond.fieldLink RX3 16 "HeatedStories" "trial" "LHeatedStories$Shelf;", Cond.fieldLink RX3 98 "HeatedStories$Shelf" "starts" "[I", Cond.fieldLink RX3 124 "HeatedStories$Shelf" "generations" "[I", Cond.methodLink RX3 127 Lib.Math.max.name, Cond.static Lib.Math.max.name, Cond.initialized "java/lang/Math", Cond.code Lib.Math.max.name Lib.Math.max.code 2 (some .int), Cond.fieldLink RX3 65 "HeatedStories$Shelf" "settings" "[I", Cond.methodLink RX3 105 yX2_hasStory, Cond.instanceMethod yX2_hasStory, Cond.selects RX2 yX2_hasStory yX2_hasStory, Cond.initialized RX2, Cond.code yX2_hasStory cX2_hasStory 2 (some .boolean), Cond.fieldLink RX2 43 "HeatedStories$Shelf" "stories" "I", Cond.static yX3_isWithin, Cond.initialized RX3, Cond.code yX3_isWithin cX3_isWithin 3 (some .boolean), Cond.methodLink RX3 109 yX2_themeOf, Cond.instanceMethod yX2_themeOf, Cond.selects RX2 yX2_themeOf yX2_themeOf, Cond.code yX2_themeOf cX2_themeOf 4 (some .int), Cond.fieldLink RX2 30 "HeatedStories$Shelf" "tally" "[I"]
def wsX3_fuse_r2 : List Cond := [Cond.methodLink RX2 108 yX2_tallyOf, Cond.instanceMethod yX2_tallyOf, Cond.selects RX2 yX2_tallyOf yX2_tallyOf, Cond.code yX2_tallyOf cX2_tallyOf 3 none, Cond.fieldLink RX2 21 "HeatedStories$Shelf" "starts" "[I", Cond.fieldLink RX2 15 "HeatedStories$Shelf" "letters" "[I", Cond.methodLink RX2 102 yJ7_fill_53178, Cond.static yJ7_fill_53178, Cond.initialized RJ7, Cond.code yJ7_fill_53178 cJ7_fill_53178 4 none, Cond.methodLink RX3 61 yX0_record, Cond.instanceMethod yX0_record, Cond.selects RX0 yX0_record yX0_record, Cond.initialized RX0, Cond.code yX0_record cX0_record 2 none, Cond.fieldLink RX0 11 "HeatedStories$History" "states" "[LHeatedStories$Shelf;", Cond.fieldLink RX0 18 "HeatedStories$History" "oldest" "I", Cond.fieldLink RX0 22 "HeatedStories$History" "size" "I", Cond.methodLink RX0 25 yX2_copyFrom, Cond.instanceMethod yX2_copyFrom, Cond.selects RX2 yX2_copyFrom yX2_copyFrom, Cond.code yX2_copyFrom cX2_copyFrom 3 none, Cond.fieldLink RX2 9 "HeatedStories$Shelf" "settings" "[I", Cond.methodLink RX2 37 arraycopyName]
def wsX3_fuse_r3 : List Cond := [Cond.native arraycopyName, Cond.static arraycopyName, Cond.initialized "java/lang/System", Cond.fieldLink RX2 18 "HeatedStories$Shelf" "heats" "[I", Cond.fieldLink RX2 24 "HeatedStories$Shelf" "families" "[I", Cond.fieldLink RX2 27 "HeatedStories$Shelf" "generations" "[I", Cond.fieldLink RX2 47 "HeatedStories$Shelf" "nextFamily" "I", Cond.fieldLink RX2 50 "HeatedStories$Shelf" "splits" "I", Cond.fieldLink RX2 53 "HeatedStories$Shelf" "boilings" "I", Cond.fieldLink RX2 56 "HeatedStories$Shelf" "fizzles" "I", Cond.methodLink RX2 33 yX2_words, Cond.instanceMethod yX2_words, Cond.selects RX2 yX2_words yX2_words, Cond.code yX2_words cX2_words 1 (some .int), Cond.methodLink RX3 113 yX2_copyFrom, Cond.methodLink RX3 116 yX2_remove, Cond.instanceMethod yX2_remove, Cond.selects RX2 yX2_remove yX2_remove, Cond.code yX2_remove cX2_remove 7 none, Cond.methodLink RX3 120 yX2_append, Cond.instanceMethod yX2_append, Cond.selects RX2 yX2_append yX2_append, Cond.code yX2_append cX2_append 9 none, Cond.methodLink RX2 67 yX2_sizeOf]
def wsX3_fuse_r4 : List Cond := [Cond.instanceMethod yX2_sizeOf, Cond.selects RX2 yX2_sizeOf yX2_sizeOf, Cond.code yX2_sizeOf cX2_sizeOf 2 (some .int), Cond.methodLink RX3 101 yX2_warm, Cond.instanceMethod yX2_warm, Cond.selects RX2 yX2_warm yX2_warm, Cond.code yX2_warm cX2_warm 3 none, Cond.methodLink RX2 74 Lib.Math.min.name, Cond.static Lib.Math.min.name, Cond.code Lib.Math.min.name Lib.Math.min.code 2 (some .int), Cond.methodLink RX3 91 yX2_react, Cond.instanceMethod yX2_react, Cond.selects RX2 yX2_react yX2_react, Cond.code yX2_react cX2_react 4 (some .int), Cond.constant RX2 80 (1000000), Cond.methodLink RX2 85 Lib.Math.max.name, Cond.methodLink RX2 81 yX2_reactAt, Cond.instanceMethod yX2_reactAt, Cond.selects RX2 yX2_reactAt yX2_reactAt, Cond.code yX2_reactAt cX2_reactAt 5 none, Cond.methodLink RX2 71 yX2_storyAt, Cond.instanceMethod yX2_storyAt, Cond.selects RX2 yX2_storyAt yX2_storyAt, Cond.code yX2_storyAt cX2_storyAt 3 (some .int)]
def wsX3_fuse_r5 : List Cond := [Cond.methodLink RX2 88 yX2_split, Cond.instanceMethod yX2_split, Cond.selects RX2 yX2_split yX2_split, Cond.code yX2_split cX2_split 4 none, Cond.methodLink RX2 92 yX2_warm]
def wsX3_fuse : List Cond := .code yX3_fuse cX3_fuse 5 (some .int) :: ((wsX3_fuse_r1 ++ (wsX3_fuse_r2 ++ (wsX3_fuse_r3 ++ (wsX3_fuse_r4 ++ wsX3_fuse_r5)))) ++ wsX30 ++ wsX20 ++ wsX00)
def wsX3_pass_r1 : List Cond := [Cond.fieldLink RX3 22 "HeatedStories" "history" "LHeatedStories$History;", Cond.fieldLink RX3 10 "HeatedStories" "now" "LHeatedStories$Shelf;", Cond.fieldLink RX3 65 "HeatedStories$Shelf" "settings" "[I", Cond.fieldLink RX3 133 "HeatedStories$Shelf" "heats" "[I", Cond.methodLink RX3 127 Lib.Math.max.name, Cond.static Lib.Math.max.name, Cond.initialized "java/lang/Math", Cond.code Lib.Math.max.name Lib.Math.max.code 2 (some .int), Cond.methodLink RX3 51 yX3_isWithin, Cond.static yX3_isWithin, Cond.initialized RX3, Cond.code yX3_isWithin cX3_isWithin 3 (some .boolean), Cond.methodLink RX3 61 yX0_record, Cond.instanceMethod yX0_record, Cond.selects RX0 yX0_record yX0_record, Cond.initialized RX0, Cond.code yX0_record cX0_record 2 none, Cond.fieldLink RX0 11 "HeatedStories$History" "states" "[LHeatedStories$Shelf;", Cond.fieldLink RX0 18 "HeatedStories$History" "oldest" "I", Cond.fieldLink RX0 22 "HeatedStories$History" "size" "I", Cond.methodLink RX0 25 yX2_copyFrom, Cond.instanceMethod yX2_copyFrom, Cond.selects RX2 yX2_copyFrom yX2_copyFrom, Cond.initialized RX2]
def wsX3_pass_r2 : List Cond := [Cond.code yX2_copyFrom cX2_copyFrom 3 none, Cond.fieldLink RX2 9 "HeatedStories$Shelf" "settings" "[I", Cond.methodLink RX2 37 arraycopyName, Cond.native arraycopyName, Cond.static arraycopyName, Cond.initialized "java/lang/System", Cond.fieldLink RX2 15 "HeatedStories$Shelf" "letters" "[I", Cond.fieldLink RX2 18 "HeatedStories$Shelf" "heats" "[I", Cond.fieldLink RX2 21 "HeatedStories$Shelf" "starts" "[I", Cond.fieldLink RX2 43 "HeatedStories$Shelf" "stories" "I", Cond.fieldLink RX2 24 "HeatedStories$Shelf" "families" "[I", Cond.fieldLink RX2 27 "HeatedStories$Shelf" "generations" "[I", Cond.fieldLink RX2 47 "HeatedStories$Shelf" "nextFamily" "I", Cond.fieldLink RX2 50 "HeatedStories$Shelf" "splits" "I", Cond.fieldLink RX2 53 "HeatedStories$Shelf" "boilings" "I", Cond.fieldLink RX2 56 "HeatedStories$Shelf" "fizzles" "I", Cond.methodLink RX2 33 yX2_words, Cond.instanceMethod yX2_words, Cond.selects RX2 yX2_words yX2_words, Cond.code yX2_words cX2_words 1 (some .int), Cond.methodLink RX3 79 yX2_words, Cond.methodLink RX3 136 yX2_heatOfAll, Cond.instanceMethod yX2_heatOfAll, Cond.selects RX2 yX2_heatOfAll yX2_heatOfAll]
def wsX3_pass_r3 : List Cond := [Cond.code yX2_heatOfAll cX2_heatOfAll 1 (some .int), Cond.methodLink RX2 95 yX2_heatBetween, Cond.instanceMethod yX2_heatBetween, Cond.selects RX2 yX2_heatBetween yX2_heatBetween, Cond.code yX2_heatBetween cX2_heatBetween 5 (some .int)]
def wsX3_pass : List Cond := .code yX3_pass cX3_pass 4 (some .int) :: ((wsX3_pass_r1 ++ (wsX3_pass_r2 ++ wsX3_pass_r3)) ++ wsX30 ++ wsX20 ++ wsX00)
def wsX3_burn_r1 : List Cond := [Cond.fieldLink RX3 10 "HeatedStories" "now" "LHeatedStories$Shelf;", Cond.fieldLink RX3 22 "HeatedStories" "history" "LHeatedStories$History;", Cond.methodLink RX3 105 yX2_hasStory, Cond.instanceMethod yX2_hasStory, Cond.selects RX2 yX2_hasStory yX2_hasStory, Cond.initialized RX2, Cond.code yX2_hasStory cX2_hasStory 2 (some .boolean), Cond.fieldLink RX2 43 "HeatedStories$Shelf" "stories" "I", Cond.static yX3_isWithin, Cond.initialized RX3, Cond.code yX3_isWithin cX3_isWithin 3 (some .boolean), Cond.methodLink RX3 61 yX0_record, Cond.instanceMethod yX0_record, Cond.selects RX0 yX0_record yX0_record, Cond.initialized RX0, Cond.code yX0_record cX0_record 2 none, Cond.fieldLink RX0 11 "HeatedStories$History" "states" "[LHeatedStories$Shelf;", Cond.fieldLink RX0 18 "HeatedStories$History" "oldest" "I", Cond.fieldLink RX0 22 "HeatedStories$History" "size" "I", Cond.methodLink RX0 25 yX2_copyFrom, Cond.instanceMethod yX2_copyFrom, Cond.selects RX2 yX2_copyFrom yX2_copyFrom, Cond.code yX2_copyFrom cX2_copyFrom 3 none, Cond.fieldLink RX2 9 "HeatedStories$Shelf" "settings" "[I"]
def wsX3_burn_r2 : List Cond := [Cond.methodLink RX2 37 arraycopyName, Cond.native arraycopyName, Cond.static arraycopyName, Cond.initialized "java/lang/System", Cond.fieldLink RX2 15 "HeatedStories$Shelf" "letters" "[I", Cond.fieldLink RX2 18 "HeatedStories$Shelf" "heats" "[I", Cond.fieldLink RX2 21 "HeatedStories$Shelf" "starts" "[I", Cond.fieldLink RX2 24 "HeatedStories$Shelf" "families" "[I", Cond.fieldLink RX2 27 "HeatedStories$Shelf" "generations" "[I", Cond.fieldLink RX2 47 "HeatedStories$Shelf" "nextFamily" "I", Cond.fieldLink RX2 50 "HeatedStories$Shelf" "splits" "I", Cond.fieldLink RX2 53 "HeatedStories$Shelf" "boilings" "I", Cond.fieldLink RX2 56 "HeatedStories$Shelf" "fizzles" "I", Cond.methodLink RX2 33 yX2_words, Cond.instanceMethod yX2_words, Cond.selects RX2 yX2_words yX2_words, Cond.code yX2_words cX2_words 1 (some .int), Cond.methodLink RX3 139 yX2_sizeOf, Cond.instanceMethod yX2_sizeOf, Cond.selects RX2 yX2_sizeOf yX2_sizeOf, Cond.code yX2_sizeOf cX2_sizeOf 2 (some .int), Cond.methodLink RX3 116 yX2_remove, Cond.instanceMethod yX2_remove, Cond.selects RX2 yX2_remove yX2_remove]
def wsX3_burn_r3 : List Cond := [Cond.code yX2_remove cX2_remove 7 none]
def wsX3_burn : List Cond := .code yX3_burn cX3_burn 3 (some .int) :: ((wsX3_burn_r1 ++ (wsX3_burn_r2 ++ wsX3_burn_r3)) ++ wsX30 ++ wsX20 ++ wsX00)
def wsX3_word_r1 : List Cond := [Cond.fieldLink RX3 10 "HeatedStories" "now" "LHeatedStories$Shelf;", Cond.fieldLink RX3 98 "HeatedStories$Shelf" "starts" "[I", Cond.fieldLink RX3 142 "HeatedStories$Shelf" "letters" "[I", Cond.fieldLink RX3 133 "HeatedStories$Shelf" "heats" "[I", Cond.methodLink RX3 94 yX2_hasWord, Cond.instanceMethod yX2_hasWord, Cond.selects RX2 yX2_hasWord yX2_hasWord, Cond.initialized RX2, Cond.code yX2_hasWord cX2_hasWord 3 (some .boolean), Cond.methodLink RX2 63 yX2_hasStory, Cond.instanceMethod yX2_hasStory, Cond.selects RX2 yX2_hasStory yX2_hasStory, Cond.code yX2_hasStory cX2_hasStory 2 (some .boolean), Cond.fieldLink RX2 43 "HeatedStories$Shelf" "stories" "I", Cond.static yX3_isWithin, Cond.initialized RX3, Cond.code yX3_isWithin cX3_isWithin 3 (some .boolean), Cond.methodLink RX2 67 yX2_sizeOf, Cond.instanceMethod yX2_sizeOf, Cond.selects RX2 yX2_sizeOf yX2_sizeOf, Cond.code yX2_sizeOf cX2_sizeOf 2 (some .int), Cond.fieldLink RX2 21 "HeatedStories$Shelf" "starts" "[I", Cond.methodLink RX3 145 yX2_timesIn, Cond.instanceMethod yX2_timesIn]
def wsX3_word_r2 : List Cond := [Cond.selects RX2 yX2_timesIn yX2_timesIn, Cond.code yX2_timesIn cX2_timesIn 3 (some .int), Cond.methodLink RX2 98 yX2_timesBetween, Cond.instanceMethod yX2_timesBetween, Cond.selects RX2 yX2_timesBetween yX2_timesBetween, Cond.code yX2_timesBetween cX2_timesBetween 6 (some .int), Cond.fieldLink RX2 15 "HeatedStories$Shelf" "letters" "[I"]
def wsX3_word : List Cond := .code yX3_word cX3_word 5 (some .int) :: ((wsX3_word_r1 ++ wsX3_word_r2) ++ wsX30 ++ wsX20)
def wsX3_story_r1 : List Cond := [Cond.fieldLink RX3 10 "HeatedStories" "now" "LHeatedStories$Shelf;", Cond.fieldLink RX3 151 "HeatedStories$Shelf" "families" "[I", Cond.fieldLink RX3 124 "HeatedStories$Shelf" "generations" "[I", Cond.methodLink RX3 105 yX2_hasStory, Cond.instanceMethod yX2_hasStory, Cond.selects RX2 yX2_hasStory yX2_hasStory, Cond.initialized RX2, Cond.code yX2_hasStory cX2_hasStory 2 (some .boolean), Cond.fieldLink RX2 43 "HeatedStories$Shelf" "stories" "I", Cond.static yX3_isWithin, Cond.initialized RX3, Cond.code yX3_isWithin cX3_isWithin 3 (some .boolean), Cond.methodLink RX3 139 yX2_sizeOf, Cond.instanceMethod yX2_sizeOf, Cond.selects RX2 yX2_sizeOf yX2_sizeOf, Cond.code yX2_sizeOf cX2_sizeOf 2 (some .int), Cond.fieldLink RX2 21 "HeatedStories$Shelf" "starts" "[I", Cond.methodLink RX3 148 yX2_heatOf, Cond.instanceMethod yX2_heatOf, Cond.selects RX2 yX2_heatOf yX2_heatOf, Cond.code yX2_heatOf cX2_heatOf 2 (some .int), Cond.methodLink RX2 95 yX2_heatBetween, Cond.instanceMethod yX2_heatBetween, Cond.selects RX2 yX2_heatBetween yX2_heatBetween]
def wsX3_story_r2 : List Cond := [Cond.code yX2_heatBetween cX2_heatBetween 5 (some .int), Cond.fieldLink RX2 18 "HeatedStories$Shelf" "heats" "[I", Cond.methodLink RX3 109 yX2_themeOf, Cond.instanceMethod yX2_themeOf, Cond.selects RX2 yX2_themeOf yX2_themeOf, Cond.code yX2_themeOf cX2_themeOf 4 (some .int), Cond.fieldLink RX2 30 "HeatedStories$Shelf" "tally" "[I", Cond.methodLink RX2 108 yX2_tallyOf, Cond.instanceMethod yX2_tallyOf, Cond.selects RX2 yX2_tallyOf yX2_tallyOf, Cond.code yX2_tallyOf cX2_tallyOf 3 none, Cond.fieldLink RX2 15 "HeatedStories$Shelf" "letters" "[I", Cond.methodLink RX2 102 yJ7_fill_53178, Cond.static yJ7_fill_53178, Cond.initialized RJ7, Cond.code yJ7_fill_53178 cJ7_fill_53178 4 none, Cond.methodLink RX3 154 yX2_hottestOf, Cond.instanceMethod yX2_hottestOf, Cond.selects RX2 yX2_hottestOf yX2_hottestOf, Cond.code yX2_hottestOf cX2_hottestOf 4 (some .int), Cond.methodLink RX3 157 yX2_unlikeLettersOf, Cond.instanceMethod yX2_unlikeLettersOf, Cond.selects RX2 yX2_unlikeLettersOf yX2_unlikeLettersOf, Cond.code yX2_unlikeLettersOf cX2_unlikeLettersOf 4 (some .int)]
def wsX3_story_r3 : List Cond := [Cond.methodLink RX3 160 yX2_readsFromBothEnds, Cond.instanceMethod yX2_readsFromBothEnds, Cond.selects RX2 yX2_readsFromBothEnds yX2_readsFromBothEnds, Cond.code yX2_readsFromBothEnds cX2_readsFromBothEnds 4 (some .boolean), Cond.methodLink RX2 67 yX2_sizeOf]
def wsX3_story : List Cond := .code yX3_story cX3_story 3 (some .int) :: ((wsX3_story_r1 ++ (wsX3_story_r2 ++ wsX3_story_r3)) ++ wsX30 ++ wsX20)
def wsX3_count_r1 : List Cond := [Cond.fieldLink RX3 10 "HeatedStories" "now" "LHeatedStories$Shelf;", Cond.fieldLink RX3 72 "HeatedStories$Shelf" "stories" "I", Cond.fieldLink RX3 166 "HeatedStories$Shelf" "splits" "I", Cond.fieldLink RX3 169 "HeatedStories$Shelf" "boilings" "I", Cond.fieldLink RX3 172 "HeatedStories$Shelf" "fizzles" "I", Cond.fieldLink RX3 65 "HeatedStories$Shelf" "settings" "[I", Cond.fieldLink RX3 37 "HeatedStories" "pad" "LHeatedStories$Pad;", Cond.fieldLink RX3 88 "HeatedStories$Pad" "length" "I", Cond.fieldLink RX3 22 "HeatedStories" "history" "LHeatedStories$History;", Cond.fieldLink RX3 178 "HeatedStories$History" "size" "I", Cond.methodLink RX3 79 yX2_words, Cond.instanceMethod yX2_words, Cond.selects RX2 yX2_words yX2_words, Cond.initialized RX2, Cond.code yX2_words cX2_words 1 (some .int), Cond.fieldLink RX2 21 "HeatedStories$Shelf" "starts" "[I", Cond.fieldLink RX2 43 "HeatedStories$Shelf" "stories" "I", Cond.methodLink RX3 136 yX2_heatOfAll, Cond.instanceMethod yX2_heatOfAll, Cond.selects RX2 yX2_heatOfAll yX2_heatOfAll, Cond.code yX2_heatOfAll cX2_heatOfAll 1 (some .int), Cond.methodLink RX2 33 yX2_words, Cond.methodLink RX2 95 yX2_heatBetween, Cond.instanceMethod yX2_heatBetween]
def wsX3_count_r2 : List Cond := [Cond.selects RX2 yX2_heatBetween yX2_heatBetween, Cond.code yX2_heatBetween cX2_heatBetween 5 (some .int), Cond.fieldLink RX2 18 "HeatedStories$Shelf" "heats" "[I", Cond.methodLink RX3 163 yX2_unlikeFamilies, Cond.instanceMethod yX2_unlikeFamilies, Cond.selects RX2 yX2_unlikeFamilies yX2_unlikeFamilies, Cond.code yX2_unlikeFamilies cX2_unlikeFamilies 3 (some .int), Cond.methodLink RX2 111 yX2_isFirstOfFamily, Cond.instanceMethod yX2_isFirstOfFamily, Cond.selects RX2 yX2_isFirstOfFamily yX2_isFirstOfFamily, Cond.code yX2_isFirstOfFamily cX2_isFirstOfFamily 3 (some .boolean), Cond.fieldLink RX2 24 "HeatedStories$Shelf" "families" "[I", Cond.methodLink RX3 175 yX2_greatestGeneration, Cond.instanceMethod yX2_greatestGeneration, Cond.selects RX2 yX2_greatestGeneration yX2_greatestGeneration, Cond.code yX2_greatestGeneration cX2_greatestGeneration 3 (some .int), Cond.fieldLink RX2 27 "HeatedStories$Shelf" "generations" "[I", Cond.methodLink RX2 85 Lib.Math.max.name, Cond.static Lib.Math.max.name, Cond.initialized "java/lang/Math", Cond.code Lib.Math.max.name Lib.Math.max.code 2 (some .int)]
def wsX3_count : List Cond := .code yX3_count cX3_count 2 (some .int) :: ((wsX3_count_r1 ++ wsX3_count_r2) ++ wsX30 ++ wsX20 ++ wsX10 ++ wsX00)
def wsX3_isLetter : List Cond := .code yX3_isLetter cX3_isLetter 1 (some .boolean) :: ([.methodLink RX3 51 yX3_isWithin, .static yX3_isWithin, .initialized RX3, .code yX3_isWithin cX3_isWithin 3 (some .boolean)])
def wsX3_letter_r1 : List Cond := [Cond.fieldLink RX3 10 "HeatedStories" "now" "LHeatedStories$Shelf;", Cond.methodLink RX3 181 yX3_isLetter, Cond.static yX3_isLetter, Cond.initialized RX3, Cond.code yX3_isLetter cX3_isLetter 1 (some .boolean), Cond.methodLink RX3 51 yX3_isWithin, Cond.static yX3_isWithin, Cond.code yX3_isWithin cX3_isWithin 3 (some .boolean), Cond.methodLink RX3 184 yX2_timesInAll, Cond.instanceMethod yX2_timesInAll, Cond.selects RX2 yX2_timesInAll yX2_timesInAll, Cond.initialized RX2, Cond.code yX2_timesInAll cX2_timesInAll 2 (some .int), Cond.methodLink RX2 33 yX2_words, Cond.instanceMethod yX2_words, Cond.selects RX2 yX2_words yX2_words, Cond.code yX2_words cX2_words 1 (some .int), Cond.fieldLink RX2 21 "HeatedStories$Shelf" "starts" "[I", Cond.fieldLink RX2 43 "HeatedStories$Shelf" "stories" "I", Cond.methodLink RX2 98 yX2_timesBetween, Cond.instanceMethod yX2_timesBetween, Cond.selects RX2 yX2_timesBetween yX2_timesBetween, Cond.code yX2_timesBetween cX2_timesBetween 6 (some .int), Cond.fieldLink RX2 15 "HeatedStories$Shelf" "letters" "[I"]
def wsX3_letter_r2 : List Cond := [Cond.methodLink RX3 187 yX2_storiesWith, Cond.instanceMethod yX2_storiesWith, Cond.selects RX2 yX2_storiesWith yX2_storiesWith, Cond.code yX2_storiesWith cX2_storiesWith 4 (some .int), Cond.methodLink RX2 114 yX2_timesIn, Cond.instanceMethod yX2_timesIn, Cond.selects RX2 yX2_timesIn yX2_timesIn, Cond.code yX2_timesIn cX2_timesIn 3 (some .int), Cond.methodLink RX3 190 yX2_storiesOfTheme, Cond.instanceMethod yX2_storiesOfTheme, Cond.selects RX2 yX2_storiesOfTheme yX2_storiesOfTheme, Cond.code yX2_storiesOfTheme cX2_storiesOfTheme 4 (some .int), Cond.methodLink RX2 117 yX2_themeOf, Cond.instanceMethod yX2_themeOf, Cond.selects RX2 yX2_themeOf yX2_themeOf, Cond.code yX2_themeOf cX2_themeOf 4 (some .int), Cond.fieldLink RX2 30 "HeatedStories$Shelf" "tally" "[I", Cond.methodLink RX2 108 yX2_tallyOf, Cond.instanceMethod yX2_tallyOf, Cond.selects RX2 yX2_tallyOf yX2_tallyOf, Cond.code yX2_tallyOf cX2_tallyOf 3 none, Cond.methodLink RX2 102 yJ7_fill_53178, Cond.static yJ7_fill_53178, Cond.initialized RJ7]
def wsX3_letter_r3 : List Cond := [Cond.code yJ7_fill_53178 cJ7_fill_53178 4 none, Cond.methodLink RX3 193 yX2_heatOfLetter, Cond.instanceMethod yX2_heatOfLetter, Cond.selects RX2 yX2_heatOfLetter yX2_heatOfLetter, Cond.code yX2_heatOfLetter cX2_heatOfLetter 4 (some .int), Cond.fieldLink RX2 18 "HeatedStories$Shelf" "heats" "[I"]
def wsX3_letter : List Cond := .code yX3_letter cX3_letter 3 (some .int) :: ((wsX3_letter_r1 ++ (wsX3_letter_r2 ++ wsX3_letter_r3)) ++ wsX30 ++ wsX20)
def wsX3_sideBySide_r1 : List Cond := [Cond.fieldLink RX3 10 "HeatedStories" "now" "LHeatedStories$Shelf;", Cond.methodLink RX3 181 yX3_isLetter, Cond.static yX3_isLetter, Cond.initialized RX3, Cond.code yX3_isLetter cX3_isLetter 1 (some .boolean), Cond.methodLink RX3 51 yX3_isWithin, Cond.static yX3_isWithin, Cond.code yX3_isWithin cX3_isWithin 3 (some .boolean), Cond.methodLink RX3 79 yX2_words, Cond.instanceMethod yX2_words, Cond.selects RX2 yX2_words yX2_words, Cond.initialized RX2, Cond.code yX2_words cX2_words 1 (some .int), Cond.fieldLink RX2 21 "HeatedStories$Shelf" "starts" "[I", Cond.fieldLink RX2 43 "HeatedStories$Shelf" "stories" "I", Cond.methodLink RX3 196 yX2_isPair, Cond.instanceMethod yX2_isPair, Cond.selects RX2 yX2_isPair yX2_isPair, Cond.code yX2_isPair cX2_isPair 4 (some .boolean), Cond.fieldLink RX2 15 "HeatedStories$Shelf" "letters" "[I", Cond.methodLink RX2 71 yX2_storyAt, Cond.instanceMethod yX2_storyAt, Cond.selects RX2 yX2_storyAt yX2_storyAt, Cond.code yX2_storyAt cX2_storyAt 3 (some .int)]
def wsX3_sideBySide_r2 : List Cond := [Cond.methodLink RX3 199 yX2_storyAt, Cond.methodLink RX3 202 yX2_placeOf, Cond.instanceMethod yX2_placeOf, Cond.selects RX2 yX2_placeOf yX2_placeOf, Cond.code yX2_placeOf cX2_placeOf 2 (some .int)]
def wsX3_sideBySide : List Cond := .code yX3_sideBySide cX3_sideBySide 7 (some .int) :: ((wsX3_sideBySide_r1 ++ wsX3_sideBySide_r2) ++ wsX30 ++ wsX20)
def wsX3_common_r1 : List Cond := [Cond.fieldLink RX3 10 "HeatedStories" "now" "LHeatedStories$Shelf;", Cond.fieldLink RX3 98 "HeatedStories$Shelf" "starts" "[I", Cond.fieldLink RX3 41 "HeatedStories" "runs" "[I", Cond.fieldLink RX3 142 "HeatedStories$Shelf" "letters" "[I", Cond.methodLink RX3 127 Lib.Math.max.name, Cond.static Lib.Math.max.name, Cond.initialized "java/lang/Math", Cond.code Lib.Math.max.name Lib.Math.max.code 2 (some .int), Cond.methodLink RX3 105 yX2_hasStory, Cond.instanceMethod yX2_hasStory, Cond.selects RX2 yX2_hasStory yX2_hasStory, Cond.initialized RX2, Cond.code yX2_hasStory cX2_hasStory 2 (some .boolean), Cond.fieldLink RX2 43 "HeatedStories$Shelf" "stories" "I", Cond.static yX3_isWithin, Cond.initialized RX3, Cond.code yX3_isWithin cX3_isWithin 3 (some .boolean), Cond.methodLink RX3 139 yX2_sizeOf, Cond.instanceMethod yX2_sizeOf, Cond.selects RX2 yX2_sizeOf yX2_sizeOf, Cond.code yX2_sizeOf cX2_sizeOf 2 (some .int), Cond.fieldLink RX2 21 "HeatedStories$Shelf" "starts" "[I", Cond.methodLink RX3 205 yJ7_fill_53178, Cond.static yJ7_fill_53178]
def wsX3_common_r2 : List Cond := [Cond.initialized RJ7, Cond.code yJ7_fill_53178 cJ7_fill_53178 4 none]
def wsX3_common : List Cond := .code yX3_common cX3_common 10 (some .int) :: ((wsX3_common_r1 ++ wsX3_common_r2) ++ wsX30 ++ wsX20)
def wsX3_tryHeating_r1 : List Cond := [Cond.fieldLink RX3 16 "HeatedStories" "trial" "LHeatedStories$Shelf;", Cond.fieldLink RX3 10 "HeatedStories" "now" "LHeatedStories$Shelf;", Cond.methodLink RX3 113 yX2_copyFrom, Cond.instanceMethod yX2_copyFrom, Cond.selects RX2 yX2_copyFrom yX2_copyFrom, Cond.initialized RX2, Cond.code yX2_copyFrom cX2_copyFrom 3 none, Cond.fieldLink RX2 9 "HeatedStories$Shelf" "settings" "[I", Cond.methodLink RX2 37 arraycopyName, Cond.native arraycopyName, Cond.static arraycopyName, Cond.initialized "java/lang/System", Cond.fieldLink RX2 15 "HeatedStories$Shelf" "letters" "[I", Cond.fieldLink RX2 18 "HeatedStories$Shelf" "heats" "[I", Cond.fieldLink RX2 21 "HeatedStories$Shelf" "starts" "[I", Cond.fieldLink RX2 43 "HeatedStories$Shelf" "stories" "I", Cond.fieldLink RX2 24 "HeatedStories$Shelf" "families" "[I", Cond.fieldLink RX2 27 "HeatedStories$Shelf" "generations" "[I", Cond.fieldLink RX2 47 "HeatedStories$Shelf" "nextFamily" "I", Cond.fieldLink RX2 50 "HeatedStories$Shelf" "splits" "I", Cond.fieldLink RX2 53 "HeatedStories$Shelf" "boilings" "I", Cond.fieldLink RX2 56 "HeatedStories$Shelf" "fizzles" "I", Cond.methodLink RX2 33 yX2_words, Cond.instanceMethod yX2_words]
def wsX3_tryHeating_r2 : List Cond := [Cond.selects RX2 yX2_words yX2_words, Cond.code yX2_words cX2_words 1 (some .int), Cond.methodLink RX3 101 yX2_warm, Cond.instanceMethod yX2_warm, Cond.selects RX2 yX2_warm yX2_warm, Cond.code yX2_warm cX2_warm 3 none, Cond.methodLink RX2 74 Lib.Math.min.name, Cond.static Lib.Math.min.name, Cond.initialized "java/lang/Math", Cond.code Lib.Math.min.name Lib.Math.min.code 2 (some .int), Cond.methodLink RX3 91 yX2_react, Cond.instanceMethod yX2_react, Cond.selects RX2 yX2_react yX2_react, Cond.code yX2_react cX2_react 4 (some .int), Cond.constant RX2 80 (1000000), Cond.methodLink RX2 85 Lib.Math.max.name, Cond.static Lib.Math.max.name, Cond.code Lib.Math.max.name Lib.Math.max.code 2 (some .int), Cond.methodLink RX2 81 yX2_reactAt, Cond.instanceMethod yX2_reactAt, Cond.selects RX2 yX2_reactAt yX2_reactAt, Cond.code yX2_reactAt cX2_reactAt 5 none, Cond.methodLink RX2 71 yX2_storyAt, Cond.instanceMethod yX2_storyAt]
def wsX3_tryHeating_r3 : List Cond := [Cond.selects RX2 yX2_storyAt yX2_storyAt, Cond.code yX2_storyAt cX2_storyAt 3 (some .int), Cond.methodLink RX2 88 yX2_split, Cond.instanceMethod yX2_split, Cond.selects RX2 yX2_split yX2_split, Cond.code yX2_split cX2_split 4 none, Cond.methodLink RX2 92 yX2_warm]
def wsX3_tryHeating : List Cond := .code yX3_tryHeating cX3_tryHeating 3 (some .int) :: ((wsX3_tryHeating_r1 ++ (wsX3_tryHeating_r2 ++ wsX3_tryHeating_r3)) ++ wsX30 ++ wsX20)
def wsX3_ifHeated_r1 : List Cond := [Cond.fieldLink RX3 10 "HeatedStories" "now" "LHeatedStories$Shelf;", Cond.fieldLink RX3 98 "HeatedStories$Shelf" "starts" "[I", Cond.fieldLink RX3 16 "HeatedStories" "trial" "LHeatedStories$Shelf;", Cond.fieldLink RX3 166 "HeatedStories$Shelf" "splits" "I", Cond.fieldLink RX3 72 "HeatedStories$Shelf" "stories" "I", Cond.methodLink RX3 94 yX2_hasWord, Cond.instanceMethod yX2_hasWord, Cond.selects RX2 yX2_hasWord yX2_hasWord, Cond.initialized RX2, Cond.code yX2_hasWord cX2_hasWord 3 (some .boolean), Cond.methodLink RX2 63 yX2_hasStory, Cond.instanceMethod yX2_hasStory, Cond.selects RX2 yX2_hasStory yX2_hasStory, Cond.code yX2_hasStory cX2_hasStory 2 (some .boolean), Cond.fieldLink RX2 43 "HeatedStories$Shelf" "stories" "I", Cond.static yX3_isWithin, Cond.initialized RX3, Cond.code yX3_isWithin cX3_isWithin 3 (some .boolean), Cond.methodLink RX2 67 yX2_sizeOf, Cond.instanceMethod yX2_sizeOf, Cond.selects RX2 yX2_sizeOf yX2_sizeOf, Cond.code yX2_sizeOf cX2_sizeOf 2 (some .int), Cond.fieldLink RX2 21 "HeatedStories$Shelf" "starts" "[I", Cond.methodLink RX3 51 yX3_isWithin]
def wsX3_ifHeated_r2 : List Cond := [Cond.methodLink RX3 211 yX3_tryHeating, Cond.instanceMethod yX3_tryHeating, Cond.selects RX3 yX3_tryHeating yX3_tryHeating, Cond.code yX3_tryHeating cX3_tryHeating 3 (some .int), Cond.methodLink RX3 113 yX2_copyFrom, Cond.instanceMethod yX2_copyFrom, Cond.selects RX2 yX2_copyFrom yX2_copyFrom, Cond.code yX2_copyFrom cX2_copyFrom 3 none, Cond.fieldLink RX2 9 "HeatedStories$Shelf" "settings" "[I", Cond.methodLink RX2 37 arraycopyName, Cond.native arraycopyName, Cond.static arraycopyName, Cond.initialized "java/lang/System", Cond.fieldLink RX2 15 "HeatedStories$Shelf" "letters" "[I", Cond.fieldLink RX2 18 "HeatedStories$Shelf" "heats" "[I", Cond.fieldLink RX2 24 "HeatedStories$Shelf" "families" "[I", Cond.fieldLink RX2 27 "HeatedStories$Shelf" "generations" "[I", Cond.fieldLink RX2 47 "HeatedStories$Shelf" "nextFamily" "I", Cond.fieldLink RX2 50 "HeatedStories$Shelf" "splits" "I", Cond.fieldLink RX2 53 "HeatedStories$Shelf" "boilings" "I", Cond.fieldLink RX2 56 "HeatedStories$Shelf" "fizzles" "I", Cond.methodLink RX2 33 yX2_words, Cond.instanceMethod yX2_words, Cond.selects RX2 yX2_words yX2_words]
def wsX3_ifHeated_r3 : List Cond := [Cond.code yX2_words cX2_words 1 (some .int), Cond.methodLink RX3 101 yX2_warm, Cond.instanceMethod yX2_warm, Cond.selects RX2 yX2_warm yX2_warm, Cond.code yX2_warm cX2_warm 3 none, Cond.methodLink RX2 74 Lib.Math.min.name, Cond.static Lib.Math.min.name, Cond.initialized "java/lang/Math", Cond.code Lib.Math.min.name Lib.Math.min.code 2 (some .int), Cond.methodLink RX3 91 yX2_react, Cond.instanceMethod yX2_react, Cond.selects RX2 yX2_react yX2_react, Cond.code yX2_react cX2_react 4 (some .int), Cond.constant RX2 80 (1000000), Cond.methodLink RX2 85 Lib.Math.max.name, Cond.static Lib.Math.max.name, Cond.code Lib.Math.max.name Lib.Math.max.code 2 (some .int), Cond.methodLink RX2 81 yX2_reactAt, Cond.instanceMethod yX2_reactAt, Cond.selects RX2 yX2_reactAt yX2_reactAt, Cond.code yX2_reactAt cX2_reactAt 5 none, Cond.methodLink RX2 71 yX2_storyAt, Cond.instanceMethod yX2_storyAt, Cond.selects RX2 yX2_storyAt yX2_storyAt]
def wsX3_ifHeated_r4 : List Cond := [Cond.code yX2_storyAt cX2_storyAt 3 (some .int), Cond.methodLink RX2 88 yX2_split, Cond.instanceMethod yX2_split, Cond.selects RX2 yX2_split yX2_split, Cond.code yX2_split cX2_split 4 none, Cond.methodLink RX2 92 yX2_warm, Cond.methodLink RX3 136 yX2_heatOfAll, Cond.instanceMethod yX2_heatOfAll, Cond.selects RX2 yX2_heatOfAll yX2_heatOfAll, Cond.code yX2_heatOfAll cX2_heatOfAll 1 (some .int), Cond.methodLink RX2 95 yX2_heatBetween, Cond.instanceMethod yX2_heatBetween, Cond.selects RX2 yX2_heatBetween yX2_heatBetween, Cond.code yX2_heatBetween cX2_heatBetween 5 (some .int)]
def wsX3_ifHeated : List Cond := .code yX3_ifHeated cX3_ifHeated 6 (some .int) :: ((wsX3_ifHeated_r1 ++ (wsX3_ifHeated_r2 ++ (wsX3_ifHeated_r3 ++ wsX3_ifHeated_r4))) ++ wsX30 ++ wsX20)
def wsX3_critical_r1 : List Cond := [Cond.fieldLink RX3 10 "HeatedStories" "now" "LHeatedStories$Shelf;", Cond.fieldLink RX3 98 "HeatedStories$Shelf" "starts" "[I", Cond.fieldLink RX3 65 "HeatedStories$Shelf" "settings" "[I", Cond.fieldLink RX3 133 "HeatedStories$Shelf" "heats" "[I", Cond.methodLink RX3 127 Lib.Math.max.name, Cond.static Lib.Math.max.name, Cond.initialized "java/lang/Math", Cond.code Lib.Math.max.name Lib.Math.max.code 2 (some .int), Cond.fieldLink RX3 16 "HeatedStories" "trial" "LHeatedStories$Shelf;", Cond.fieldLink RX3 166 "HeatedStories$Shelf" "splits" "I", Cond.methodLink RX3 94 yX2_hasWord, Cond.instanceMethod yX2_hasWord, Cond.selects RX2 yX2_hasWord yX2_hasWord, Cond.initialized RX2, Cond.code yX2_hasWord cX2_hasWord 3 (some .boolean), Cond.methodLink RX2 63 yX2_hasStory, Cond.instanceMethod yX2_hasStory, Cond.selects RX2 yX2_hasStory yX2_hasStory, Cond.code yX2_hasStory cX2_hasStory 2 (some .boolean), Cond.fieldLink RX2 43 "HeatedStories$Shelf" "stories" "I", Cond.static yX3_isWithin, Cond.initialized RX3, Cond.code yX3_isWithin cX3_isWithin 3 (some .boolean), Cond.methodLink RX2 67 yX2_sizeOf]
def wsX3_critical_r2 : List Cond := [Cond.instanceMethod yX2_sizeOf, Cond.selects RX2 yX2_sizeOf yX2_sizeOf, Cond.code yX2_sizeOf cX2_sizeOf 2 (some .int), Cond.fieldLink RX2 21 "HeatedStories$Shelf" "starts" "[I", Cond.methodLink RX3 214 yX2_isCalm, Cond.instanceMethod yX2_isCalm, Cond.selects RX2 yX2_isCalm yX2_isCalm, Cond.code yX2_isCalm cX2_isCalm 2 (some .boolean), Cond.fieldLink RX2 18 "HeatedStories$Shelf" "heats" "[I", Cond.fieldLink RX2 9 "HeatedStories$Shelf" "settings" "[I", Cond.methodLink RX2 33 yX2_words, Cond.instanceMethod yX2_words, Cond.selects RX2 yX2_words yX2_words, Cond.code yX2_words cX2_words 1 (some .int), Cond.methodLink RX3 211 yX3_tryHeating, Cond.instanceMethod yX3_tryHeating, Cond.selects RX3 yX3_tryHeating yX3_tryHeating, Cond.code yX3_tryHeating cX3_tryHeating 3 (some .int), Cond.methodLink RX3 113 yX2_copyFrom, Cond.instanceMethod yX2_copyFrom, Cond.selects RX2 yX2_copyFrom yX2_copyFrom, Cond.code yX2_copyFrom cX2_copyFrom 3 none, Cond.methodLink RX2 37 arraycopyName, Cond.native arraycopyName]
def wsX3_critical_r3 : List Cond := [Cond.static arraycopyName, Cond.initialized "java/lang/System", Cond.fieldLink RX2 15 "HeatedStories$Shelf" "letters" "[I", Cond.fieldLink RX2 24 "HeatedStories$Shelf" "families" "[I", Cond.fieldLink RX2 27 "HeatedStories$Shelf" "generations" "[I", Cond.fieldLink RX2 47 "HeatedStories$Shelf" "nextFamily" "I", Cond.fieldLink RX2 50 "HeatedStories$Shelf" "splits" "I", Cond.fieldLink RX2 53 "HeatedStories$Shelf" "boilings" "I", Cond.fieldLink RX2 56 "HeatedStories$Shelf" "fizzles" "I", Cond.methodLink RX3 101 yX2_warm, Cond.instanceMethod yX2_warm, Cond.selects RX2 yX2_warm yX2_warm, Cond.code yX2_warm cX2_warm 3 none, Cond.methodLink RX2 74 Lib.Math.min.name, Cond.static Lib.Math.min.name, Cond.code Lib.Math.min.name Lib.Math.min.code 2 (some .int), Cond.methodLink RX3 91 yX2_react, Cond.instanceMethod yX2_react, Cond.selects RX2 yX2_react yX2_react, Cond.code yX2_react cX2_react 4 (some .int), Cond.constant RX2 80 (1000000), Cond.methodLink RX2 85 Lib.Math.max.name, Cond.methodLink RX2 81 yX2_reactAt, Cond.instanceMethod yX2_reactAt]
def wsX3_critical_r4 : List Cond := [Cond.selects RX2 yX2_reactAt yX2_reactAt, Cond.code yX2_reactAt cX2_reactAt 5 none, Cond.methodLink RX2 71 yX2_storyAt, Cond.instanceMethod yX2_storyAt, Cond.selects RX2 yX2_storyAt yX2_storyAt, Cond.code yX2_storyAt cX2_storyAt 3 (some .int), Cond.methodLink RX2 88 yX2_split, Cond.instanceMethod yX2_split, Cond.selects RX2 yX2_split yX2_split, Cond.code yX2_split cX2_split 4 none, Cond.methodLink RX2 92 yX2_warm]
def wsX3_critical : List Cond := .code yX3_critical cX3_critical 7 (some .int) :: ((wsX3_critical_r1 ++ (wsX3_critical_r2 ++ (wsX3_critical_r3 ++ wsX3_critical_r4))) ++ wsX30 ++ wsX20)
def wsX3_touchiest_r1 : List Cond := [Cond.fieldLink RX3 10 "HeatedStories" "now" "LHeatedStories$Shelf;", Cond.fieldLink RX3 72 "HeatedStories$Shelf" "stories" "I", Cond.fieldLink RX3 133 "HeatedStories$Shelf" "heats" "[I", Cond.fieldLink RX3 65 "HeatedStories$Shelf" "settings" "[I", Cond.methodLink RX3 51 yX3_isWithin, Cond.static yX3_isWithin, Cond.initialized RX3, Cond.code yX3_isWithin cX3_isWithin 3 (some .boolean), Cond.methodLink RX3 214 yX2_isCalm, Cond.instanceMethod yX2_isCalm, Cond.selects RX2 yX2_isCalm yX2_isCalm, Cond.initialized RX2, Cond.code yX2_isCalm cX2_isCalm 2 (some .boolean), Cond.fieldLink RX2 18 "HeatedStories$Shelf" "heats" "[I", Cond.fieldLink RX2 9 "HeatedStories$Shelf" "settings" "[I", Cond.methodLink RX2 33 yX2_words, Cond.instanceMethod yX2_words, Cond.selects RX2 yX2_words yX2_words, Cond.code yX2_words cX2_words 1 (some .int), Cond.fieldLink RX2 21 "HeatedStories$Shelf" "starts" "[I", Cond.fieldLink RX2 43 "HeatedStories$Shelf" "stories" "I", Cond.methodLink RX3 79 yX2_words, Cond.methodLink RX3 211 yX3_tryHeating, Cond.instanceMethod yX3_tryHeating]
def wsX3_touchiest_r2 : List Cond := [Cond.selects RX3 yX3_tryHeating yX3_tryHeating, Cond.code yX3_tryHeating cX3_tryHeating 3 (some .int), Cond.fieldLink RX3 16 "HeatedStories" "trial" "LHeatedStories$Shelf;", Cond.methodLink RX3 113 yX2_copyFrom, Cond.instanceMethod yX2_copyFrom, Cond.selects RX2 yX2_copyFrom yX2_copyFrom, Cond.code yX2_copyFrom cX2_copyFrom 3 none, Cond.methodLink RX2 37 arraycopyName, Cond.native arraycopyName, Cond.static arraycopyName, Cond.initialized "java/lang/System", Cond.fieldLink RX2 15 "HeatedStories$Shelf" "letters" "[I", Cond.fieldLink RX2 24 "HeatedStories$Shelf" "families" "[I", Cond.fieldLink RX2 27 "HeatedStories$Shelf" "generations" "[I", Cond.fieldLink RX2 47 "HeatedStories$Shelf" "nextFamily" "I", Cond.fieldLink RX2 50 "HeatedStories$Shelf" "splits" "I", Cond.fieldLink RX2 53 "HeatedStories$Shelf" "boilings" "I", Cond.fieldLink RX2 56 "HeatedStories$Shelf" "fizzles" "I", Cond.methodLink RX3 101 yX2_warm, Cond.instanceMethod yX2_warm, Cond.selects RX2 yX2_warm yX2_warm, Cond.code yX2_warm cX2_warm 3 none, Cond.methodLink RX2 74 Lib.Math.min.name, Cond.static Lib.Math.min.name]
def wsX3_touchiest_r3 : List Cond := [Cond.initialized "java/lang/Math", Cond.code Lib.Math.min.name Lib.Math.min.code 2 (some .int), Cond.methodLink RX3 91 yX2_react, Cond.instanceMethod yX2_react, Cond.selects RX2 yX2_react yX2_react, Cond.code yX2_react cX2_react 4 (some .int), Cond.constant RX2 80 (1000000), Cond.methodLink RX2 85 Lib.Math.max.name, Cond.static Lib.Math.max.name, Cond.code Lib.Math.max.name Lib.Math.max.code 2 (some .int), Cond.methodLink RX2 81 yX2_reactAt, Cond.instanceMethod yX2_reactAt, Cond.selects RX2 yX2_reactAt yX2_reactAt, Cond.code yX2_reactAt cX2_reactAt 5 none, Cond.methodLink RX2 71 yX2_storyAt, Cond.instanceMethod yX2_storyAt, Cond.selects RX2 yX2_storyAt yX2_storyAt, Cond.code yX2_storyAt cX2_storyAt 3 (some .int), Cond.methodLink RX2 88 yX2_split, Cond.instanceMethod yX2_split, Cond.selects RX2 yX2_split yX2_split, Cond.code yX2_split cX2_split 4 none, Cond.methodLink RX2 92 yX2_warm, Cond.methodLink RX3 199 yX2_storyAt]
def wsX3_touchiest_r4 : List Cond := [Cond.methodLink RX3 202 yX2_placeOf, Cond.instanceMethod yX2_placeOf, Cond.selects RX2 yX2_placeOf yX2_placeOf, Cond.code yX2_placeOf cX2_placeOf 2 (some .int)]
def wsX3_touchiest : List Cond := .code yX3_touchiest cX3_touchiest 9 (some .int) :: ((wsX3_touchiest_r1 ++ (wsX3_touchiest_r2 ++ (wsX3_touchiest_r3 ++ wsX3_touchiest_r4))) ++ wsX30 ++ wsX20)
def wsX3_coolestPair_r1 : List Cond := [Cond.fieldLink RX3 10 "HeatedStories" "now" "LHeatedStories$Shelf;", Cond.fieldLink RX3 72 "HeatedStories$Shelf" "stories" "I", Cond.fieldLink RX3 45 "HeatedStories" "themes" "[I", Cond.fieldLink RX3 48 "HeatedStories" "storyHeats" "[I", Cond.methodLink RX3 51 yX3_isWithin, Cond.static yX3_isWithin, Cond.initialized RX3, Cond.code yX3_isWithin cX3_isWithin 3 (some .boolean), Cond.methodLink RX3 109 yX2_themeOf, Cond.instanceMethod yX2_themeOf, Cond.selects RX2 yX2_themeOf yX2_themeOf, Cond.initialized RX2, Cond.code yX2_themeOf cX2_themeOf 4 (some .int), Cond.fieldLink RX2 30 "HeatedStories$Shelf" "tally" "[I", Cond.methodLink RX2 108 yX2_tallyOf, Cond.instanceMethod yX2_tallyOf, Cond.selects RX2 yX2_tallyOf yX2_tallyOf, Cond.code yX2_tallyOf cX2_tallyOf 3 none, Cond.fieldLink RX2 21 "HeatedStories$Shelf" "starts" "[I", Cond.fieldLink RX2 15 "HeatedStories$Shelf" "letters" "[I", Cond.methodLink RX2 102 yJ7_fill_53178, Cond.static yJ7_fill_53178, Cond.initialized RJ7, Cond.code yJ7_fill_53178 cJ7_fill_53178 4 none]
def wsX3_coolestPair_r2 : List Cond := [Cond.methodLink RX3 148 yX2_heatOf, Cond.instanceMethod yX2_heatOf, Cond.selects RX2 yX2_heatOf yX2_heatOf, Cond.code yX2_heatOf cX2_heatOf 2 (some .int), Cond.methodLink RX2 95 yX2_heatBetween, Cond.instanceMethod yX2_heatBetween, Cond.selects RX2 yX2_heatBetween yX2_heatBetween, Cond.code yX2_heatBetween cX2_heatBetween 5 (some .int), Cond.fieldLink RX2 18 "HeatedStories$Shelf" "heats" "[I"]
def wsX3_coolestPair : List Cond := .code yX3_coolestPair cX3_coolestPair 8 (some .int) :: ((wsX3_coolestPair_r1 ++ wsX3_coolestPair_r2) ++ wsX30 ++ wsX20)
def wsX3_put : List Cond := .code yX3_put cX3_put 4 (some .int) :: ([.fieldLink RX3 37 "HeatedStories" "pad" "LHeatedStories$Pad;", .fieldLink RX3 88 "HeatedStories$Pad" "length" "I", .methodLink RX3 218 yX1_charactersIn, .static yX1_charactersIn, .initialized RX1, .code yX1_charactersIn cX1_charactersIn 5 (some .int), .constantLong RX1 15 (255), .static yX3_isWithin, .initialized RX3, .code yX3_isWithin cX3_isWithin 3 (some .boolean), .methodLink RX3 222 yX1_add, .instanceMethod yX1_add, .selects RX1 yX1_add yX1_add, .code yX1_add cX1_add 5 none, .fieldLink RX1 11 "HeatedStories$Pad" "characters" "[C", .fieldLink RX1 21 "HeatedStories$Pad" "length" "I"] ++ wsX30 ++ wsX10)
def wsX3_wipe : List Cond := .code yX3_wipe cX3_wipe 2 (some .int) :: ([.fieldLink RX3 37 "HeatedStories" "pad" "LHeatedStories$Pad;", .fieldLink RX3 88 "HeatedStories$Pad" "length" "I"] ++ wsX30 ++ wsX10)
def wsX3_fault : List Cond := .code yX3_fault cX3_fault 1 (some .int) :: ([.fieldLink RX3 37 "HeatedStories" "pad" "LHeatedStories$Pad;", .methodLink RX3 68 yX1_firstFault, .instanceMethod yX1_firstFault, .selects RX1 yX1_firstFault yX1_firstFault, .initialized RX1, .code yX1_firstFault cX1_firstFault 3 (some .int), .fieldLink RX1 21 "HeatedStories$Pad" "length" "I", .fieldLink RX1 11 "HeatedStories$Pad" "characters" "[C", .methodLink RX1 25 yX1_placeBehind, .static yX1_placeBehind, .code yX1_placeBehind cX1_placeBehind 2 (some .int), .methodLink RX1 29 yX1_isWord, .static yX1_isWord, .code yX1_isWord cX1_isWord 1 (some .boolean), .static yX3_isWithin, .initialized RX3, .code yX3_isWithin cX3_isWithin 3 (some .boolean)] ++ wsX30 ++ wsX10)
def wsX3_undo_r1 : List Cond := [Cond.fieldLink RX3 22 "HeatedStories" "history" "LHeatedStories$History;", Cond.fieldLink RX3 178 "HeatedStories$History" "size" "I", Cond.fieldLink RX3 10 "HeatedStories" "now" "LHeatedStories$Shelf;", Cond.methodLink RX3 226 yX0_takeBack, Cond.instanceMethod yX0_takeBack, Cond.selects RX0 yX0_takeBack yX0_takeBack, Cond.initialized RX0, Cond.code yX0_takeBack cX0_takeBack 2 none, Cond.fieldLink RX0 22 "HeatedStories$History" "size" "I", Cond.fieldLink RX0 11 "HeatedStories$History" "states" "[LHeatedStories$Shelf;", Cond.fieldLink RX0 18 "HeatedStories$History" "oldest" "I", Cond.methodLink RX0 25 yX2_copyFrom, Cond.instanceMethod yX2_copyFrom, Cond.selects RX2 yX2_copyFrom yX2_copyFrom, Cond.initialized RX2, Cond.code yX2_copyFrom cX2_copyFrom 3 none, Cond.fieldLink RX2 9 "HeatedStories$Shelf" "settings" "[I", Cond.methodLink RX2 37 arraycopyName, Cond.native arraycopyName, Cond.static arraycopyName, Cond.initialized "java/lang/System", Cond.fieldLink RX2 15 "HeatedStories$Shelf" "letters" "[I", Cond.fieldLink RX2 18 "HeatedStories$Shelf" "heats" "[I", Cond.fieldLink RX2 21 "HeatedStories$Shelf" "starts" "[I"]
def wsX3_undo_r2 : List Cond := [Cond.fieldLink RX2 43 "HeatedStories$Shelf" "stories" "I", Cond.fieldLink RX2 24 "HeatedStories$Shelf" "families" "[I", Cond.fieldLink RX2 27 "HeatedStories$Shelf" "generations" "[I", Cond.fieldLink RX2 47 "HeatedStories$Shelf" "nextFamily" "I", Cond.fieldLink RX2 50 "HeatedStories$Shelf" "splits" "I", Cond.fieldLink RX2 53 "HeatedStories$Shelf" "boilings" "I", Cond.fieldLink RX2 56 "HeatedStories$Shelf" "fizzles" "I", Cond.methodLink RX2 33 yX2_words, Cond.instanceMethod yX2_words, Cond.selects RX2 yX2_words yX2_words, Cond.code yX2_words cX2_words 1 (some .int)]
def wsX3_undo : List Cond := .code yX3_undo cX3_undo 1 (some .int) :: ((wsX3_undo_r1 ++ wsX3_undo_r2) ++ wsX30 ++ wsX00 ++ wsX20)
def wsX3_save_r1 : List Cond := [Cond.fieldLink RX3 26 "HeatedStories" "slots" "[LHeatedStories$Shelf;", Cond.fieldLink RX3 10 "HeatedStories" "now" "LHeatedStories$Shelf;", Cond.fieldLink RX3 30 "HeatedStories" "saved" "[Z", Cond.fieldLink RX3 72 "HeatedStories$Shelf" "stories" "I", Cond.methodLink RX3 51 yX3_isWithin, Cond.static yX3_isWithin, Cond.initialized RX3, Cond.code yX3_isWithin cX3_isWithin 3 (some .boolean), Cond.methodLink RX3 113 yX2_copyFrom, Cond.instanceMethod yX2_copyFrom, Cond.selects RX2 yX2_copyFrom yX2_copyFrom, Cond.initialized RX2, Cond.code yX2_copyFrom cX2_copyFrom 3 none, Cond.fieldLink RX2 9 "HeatedStories$Shelf" "settings" "[I", Cond.methodLink RX2 37 arraycopyName, Cond.native arraycopyName, Cond.static arraycopyName, Cond.initialized "java/lang/System", Cond.fieldLink RX2 15 "HeatedStories$Shelf" "letters" "[I", Cond.fieldLink RX2 18 "HeatedStories$Shelf" "heats" "[I", Cond.fieldLink RX2 21 "HeatedStories$Shelf" "starts" "[I", Cond.fieldLink RX2 43 "HeatedStories$Shelf" "stories" "I", Cond.fieldLink RX2 24 "HeatedStories$Shelf" "families" "[I", Cond.fieldLink RX2 27 "HeatedStories$Shelf" "generations" "[I"]
def wsX3_save_r2 : List Cond := [Cond.fieldLink RX2 47 "HeatedStories$Shelf" "nextFamily" "I", Cond.fieldLink RX2 50 "HeatedStories$Shelf" "splits" "I", Cond.fieldLink RX2 53 "HeatedStories$Shelf" "boilings" "I", Cond.fieldLink RX2 56 "HeatedStories$Shelf" "fizzles" "I", Cond.methodLink RX2 33 yX2_words, Cond.instanceMethod yX2_words, Cond.selects RX2 yX2_words yX2_words, Cond.code yX2_words cX2_words 1 (some .int)]
def wsX3_save : List Cond := .code yX3_save cX3_save 2 (some .int) :: ((wsX3_save_r1 ++ wsX3_save_r2) ++ wsX30 ++ wsX20)
def wsX3_restore_r1 : List Cond := [Cond.fieldLink RX3 30 "HeatedStories" "saved" "[Z", Cond.fieldLink RX3 22 "HeatedStories" "history" "LHeatedStories$History;", Cond.fieldLink RX3 10 "HeatedStories" "now" "LHeatedStories$Shelf;", Cond.fieldLink RX3 26 "HeatedStories" "slots" "[LHeatedStories$Shelf;", Cond.fieldLink RX3 72 "HeatedStories$Shelf" "stories" "I", Cond.methodLink RX3 51 yX3_isWithin, Cond.static yX3_isWithin, Cond.initialized RX3, Cond.code yX3_isWithin cX3_isWithin 3 (some .boolean), Cond.methodLink RX3 61 yX0_record, Cond.instanceMethod yX0_record, Cond.selects RX0 yX0_record yX0_record, Cond.initialized RX0, Cond.code yX0_record cX0_record 2 none, Cond.fieldLink RX0 11 "HeatedStories$History" "states" "[LHeatedStories$Shelf;", Cond.fieldLink RX0 18 "HeatedStories$History" "oldest" "I", Cond.fieldLink RX0 22 "HeatedStories$History" "size" "I", Cond.methodLink RX0 25 yX2_copyFrom, Cond.instanceMethod yX2_copyFrom, Cond.selects RX2 yX2_copyFrom yX2_copyFrom, Cond.initialized RX2, Cond.code yX2_copyFrom cX2_copyFrom 3 none, Cond.fieldLink RX2 9 "HeatedStories$Shelf" "settings" "[I", Cond.methodLink RX2 37 arraycopyName]
def wsX3_restore_r2 : List Cond := [Cond.native arraycopyName, Cond.static arraycopyName, Cond.initialized "java/lang/System", Cond.fieldLink RX2 15 "HeatedStories$Shelf" "letters" "[I", Cond.fieldLink RX2 18 "HeatedStories$Shelf" "heats" "[I", Cond.fieldLink RX2 21 "HeatedStories$Shelf" "starts" "[I", Cond.fieldLink RX2 43 "HeatedStories$Shelf" "stories" "I", Cond.fieldLink RX2 24 "HeatedStories$Shelf" "families" "[I", Cond.fieldLink RX2 27 "HeatedStories$Shelf" "generations" "[I", Cond.fieldLink RX2 47 "HeatedStories$Shelf" "nextFamily" "I", Cond.fieldLink RX2 50 "HeatedStories$Shelf" "splits" "I", Cond.fieldLink RX2 53 "HeatedStories$Shelf" "boilings" "I", Cond.fieldLink RX2 56 "HeatedStories$Shelf" "fizzles" "I", Cond.methodLink RX2 33 yX2_words, Cond.instanceMethod yX2_words, Cond.selects RX2 yX2_words yX2_words, Cond.code yX2_words cX2_words 1 (some .int), Cond.methodLink RX3 113 yX2_copyFrom]
def wsX3_restore : List Cond := .code yX3_restore cX3_restore 2 (some .int) :: ((wsX3_restore_r1 ++ wsX3_restore_r2) ++ wsX30 ++ wsX20 ++ wsX00)
def wsX4_init : List Cond := .code yX4_init cX4_init 1 none :: ([.methodLink RX4 1 objectInit, .instanceMethod objectInit, .code objectInit ⟨#[0xb1]⟩ 1 none, .arrayClass .int, .fieldLink RX4 7 "HeatedStoriesModel" "s" "[I", .fieldLink RX4 13 "HeatedStoriesModel" "aside" "[I", .fieldLink RX4 16 "HeatedStoriesModel" "before" "[I", .fieldLink RX4 19 "HeatedStoriesModel" "slots" "[I", .arrayClass .boolean, .fieldLink RX4 22 "HeatedStoriesModel" "isSaved" "[Z", .fieldLink RX4 26 "HeatedStoriesModel" "pad" "[I", .fieldLink RX4 29 "HeatedStoriesModel" "letters" "[I", .fieldLink RX4 32 "HeatedStoriesModel" "heats" "[I", .fieldLink RX4 35 "HeatedStoriesModel" "toldLetter" "[I", .fieldLink RX4 38 "HeatedStoriesModel" "toldHeat" "[I", .fieldLink RX4 41 "HeatedStoriesModel" "toldStory" "[I"] ++ wsX40)
def wsX4_in : List Cond := .code yX4_in cX4_in 3 (some .boolean) :: ([])
def wsX4_isStory : List Cond := .code yX4_isStory cX4_isStory 2 (some .boolean) :: ([.fieldLink RX4 7 "HeatedStoriesModel" "s" "[I", .methodLink RX4 44 yX4_in, .static yX4_in, .initialized RX4, .code yX4_in cX4_in 3 (some .boolean)] ++ wsX40)
def wsX4_isWord : List Cond := .code yX4_isWord cX4_isWord 3 (some .boolean) :: ([.fieldLink RX4 7 "HeatedStoriesModel" "s" "[I", .methodLink RX4 48 yX4_isStory, .instanceMethod yX4_isStory, .selects RX4 yX4_isStory yX4_isStory, .initialized RX4, .code yX4_isStory cX4_isStory 2 (some .boolean), .methodLink RX4 44 yX4_in, .static yX4_in, .code yX4_in cX4_in 3 (some .boolean)] ++ wsX40)
def wsX4_first : List Cond := .code yX4_first cX4_first 4 (some .int) :: ([.fieldLink RX4 7 "HeatedStoriesModel" "s" "[I"] ++ wsX40)
def wsX4_know : List Cond := .code yX4_know cX4_know 2 none :: ([.fieldLink RX4 52 "HeatedStoriesModel" "known" "I", .fieldLink RX4 16 "HeatedStoriesModel" "before" "[I", .fieldLink RX4 7 "HeatedStoriesModel" "s" "[I"] ++ wsX40)
def wsX4_putAside : List Cond := .code yX4_putAside cX4_putAside 2 none :: ([.fieldLink RX4 13 "HeatedStoriesModel" "aside" "[I", .fieldLink RX4 7 "HeatedStoriesModel" "s" "[I"] ++ wsX40)
def wsX4_putBack : List Cond := .code yX4_putBack cX4_putBack 2 none :: ([.fieldLink RX4 7 "HeatedStoriesModel" "s" "[I", .fieldLink RX4 13 "HeatedStoriesModel" "aside" "[I"] ++ wsX40)
def wsX4_warm : List Cond := .code yX4_warm cX4_warm 4 none :: ([.fieldLink RX4 7 "HeatedStoriesModel" "s" "[I"] ++ wsX40)
def wsX4_storyOf : List Cond := .code yX4_storyOf cX4_storyOf 4 (some .int) :: ([.fieldLink RX4 7 "HeatedStoriesModel" "s" "[I"] ++ wsX40)
def wsX4_split : List Cond := .code yX4_split cX4_split 4 none :: ([.fieldLink RX4 7 "HeatedStoriesModel" "s" "[I"] ++ wsX40)
def wsX4_reactOne : List Cond := .code yX4_reactOne cX4_reactOne 5 none :: ([.fieldLink RX4 7 "HeatedStoriesModel" "s" "[I", .methodLink RX4 56 yX4_storyOf, .instanceMethod yX4_storyOf, .selects RX4 yX4_storyOf yX4_storyOf, .initialized RX4, .code yX4_storyOf cX4_storyOf 4 (some .int), .methodLink RX4 60 yX4_first, .instanceMethod yX4_first, .selects RX4 yX4_first yX4_first, .code yX4_first cX4_first 4 (some .int), .methodLink RX4 63 yX4_split, .instanceMethod yX4_split, .selects RX4 yX4_split yX4_split, .code yX4_split cX4_split 4 none, .methodLink RX4 67 yX4_warm, .instanceMethod yX4_warm, .selects RX4 yX4_warm yX4_warm, .code yX4_warm cX4_warm 4 none] ++ wsX40)
def wsX4_react : List Cond := .code yX4_react cX4_react 3 (some .int) :: ([.fieldLink RX4 7 "HeatedStoriesModel" "s" "[I", .methodLink RX4 70 yX4_reactOne, .instanceMethod yX4_reactOne, .selects RX4 yX4_reactOne yX4_reactOne, .initialized RX4, .code yX4_reactOne cX4_reactOne 5 none, .methodLink RX4 56 yX4_storyOf, .instanceMethod yX4_storyOf, .selects RX4 yX4_storyOf yX4_storyOf, .code yX4_storyOf cX4_storyOf 4 (some .int), .methodLink RX4 60 yX4_first, .instanceMethod yX4_first, .selects RX4 yX4_first yX4_first, .code yX4_first cX4_first 4 (some .int), .methodLink RX4 63 yX4_split, .instanceMethod yX4_split, .selects RX4 yX4_split yX4_split, .code yX4_split cX4_split 4 none, .methodLink RX4 67 yX4_warm, .instanceMethod yX4_warm, .selects RX4 yX4_warm yX4_warm, .code yX4_warm cX4_warm 4 none] ++ wsX40)
def wsX4_removeStory : List Cond := .code yX4_removeStory cX4_removeStory 3 none :: ([.fieldLink RX4 7 "HeatedStoriesModel" "s" "[I"] ++ wsX40)
def wsX4_removeWords : List Cond := .code yX4_removeWords cX4_removeWords 4 none :: ([.fieldLink RX4 7 "HeatedStoriesModel" "s" "[I"] ++ wsX40)
def wsX4_times : List Cond := .code yX4_times cX4_times 5 (some .int) :: ([.fieldLink RX4 7 "HeatedStoriesModel" "s" "[I", .methodLink RX4 60 yX4_first, .instanceMethod yX4_first, .selects RX4 yX4_first yX4_first, .initialized RX4, .code yX4_first cX4_first 4 (some .int)] ++ wsX40)
def wsX4_theme : List Cond := .code yX4_theme cX4_theme 4 (some .int) :: ([.methodLink RX4 74 yX4_times, .instanceMethod yX4_times, .selects RX4 yX4_times yX4_times, .initialized RX4, .code yX4_times cX4_times 5 (some .int), .fieldLink RX4 7 "HeatedStoriesModel" "s" "[I", .methodLink RX4 60 yX4_first, .instanceMethod yX4_first, .selects RX4 yX4_first yX4_first, .code yX4_first cX4_first 4 (some .int)] ++ wsX40)
def wsX4_heatOf : List Cond := .code yX4_heatOf cX4_heatOf 4 (some .int) :: ([.fieldLink RX4 7 "HeatedStoriesModel" "s" "[I", .methodLink RX4 60 yX4_first, .instanceMethod yX4_first, .selects RX4 yX4_first yX4_first, .initialized RX4, .code yX4_first cX4_first 4 (some .int)] ++ wsX40)
def wsX4_allHeat : List Cond := .code yX4_allHeat cX4_allHeat 3 (some .int) :: ([.fieldLink RX4 7 "HeatedStoriesModel" "s" "[I"] ++ wsX40)
def wsX4_set : List Cond := .code yX4_set cX4_set 6 (some .int) :: ([.fieldLink RX4 7 "HeatedStoriesModel" "s" "[I", .methodLink RX4 44 yX4_in, .static yX4_in, .initialized RX4, .code yX4_in cX4_in 3 (some .boolean), .methodLink RX4 78 yX4_know, .instanceMethod yX4_know, .selects RX4 yX4_know yX4_know, .code yX4_know cX4_know 2 none, .fieldLink RX4 52 "HeatedStoriesModel" "known" "I", .fieldLink RX4 16 "HeatedStoriesModel" "before" "[I"] ++ wsX40)
def wsX4_heat_r1 : List Cond := [Cond.methodLink RX4 81 yX4_isWord, Cond.instanceMethod yX4_isWord, Cond.selects RX4 yX4_isWord yX4_isWord, Cond.initialized RX4, Cond.code yX4_isWord cX4_isWord 3 (some .boolean), Cond.fieldLink RX4 7 "HeatedStoriesModel" "s" "[I", Cond.methodLink RX4 48 yX4_isStory, Cond.instanceMethod yX4_isStory, Cond.selects RX4 yX4_isStory yX4_isStory, Cond.code yX4_isStory cX4_isStory 2 (some .boolean), Cond.methodLink RX4 44 yX4_in, Cond.static yX4_in, Cond.code yX4_in cX4_in 3 (some .boolean), Cond.methodLink RX4 78 yX4_know, Cond.instanceMethod yX4_know, Cond.selects RX4 yX4_know yX4_know, Cond.code yX4_know cX4_know 2 none, Cond.fieldLink RX4 52 "HeatedStoriesModel" "known" "I", Cond.fieldLink RX4 16 "HeatedStoriesModel" "before" "[I", Cond.methodLink RX4 60 yX4_first, Cond.instanceMethod yX4_first, Cond.selects RX4 yX4_first yX4_first, Cond.code yX4_first cX4_first 4 (some .int), Cond.methodLink RX4 67 yX4_warm]
def wsX4_heat_r2 : List Cond := [Cond.instanceMethod yX4_warm, Cond.selects RX4 yX4_warm yX4_warm, Cond.code yX4_warm cX4_warm 4 none, Cond.methodLink RX4 85 yX4_react, Cond.instanceMethod yX4_react, Cond.selects RX4 yX4_react yX4_react, Cond.code yX4_react cX4_react 3 (some .int), Cond.methodLink RX4 70 yX4_reactOne, Cond.instanceMethod yX4_reactOne, Cond.selects RX4 yX4_reactOne yX4_reactOne, Cond.code yX4_reactOne cX4_reactOne 5 none, Cond.methodLink RX4 56 yX4_storyOf, Cond.instanceMethod yX4_storyOf, Cond.selects RX4 yX4_storyOf yX4_storyOf, Cond.code yX4_storyOf cX4_storyOf 4 (some .int), Cond.methodLink RX4 63 yX4_split, Cond.instanceMethod yX4_split, Cond.selects RX4 yX4_split yX4_split, Cond.code yX4_split cX4_split 4 none]
def wsX4_heat : List Cond := .code yX4_heat cX4_heat 4 (some .int) :: ((wsX4_heat_r1 ++ wsX4_heat_r2) ++ wsX40)
def wsX4_read_r1 : List Cond := [Cond.fieldLink RX4 7 "HeatedStoriesModel" "s" "[I", Cond.methodLink RX4 48 yX4_isStory, Cond.instanceMethod yX4_isStory, Cond.selects RX4 yX4_isStory yX4_isStory, Cond.initialized RX4, Cond.code yX4_isStory cX4_isStory 2 (some .boolean), Cond.methodLink RX4 44 yX4_in, Cond.static yX4_in, Cond.code yX4_in cX4_in 3 (some .boolean), Cond.methodLink RX4 78 yX4_know, Cond.instanceMethod yX4_know, Cond.selects RX4 yX4_know yX4_know, Cond.code yX4_know cX4_know 2 none, Cond.fieldLink RX4 52 "HeatedStoriesModel" "known" "I", Cond.fieldLink RX4 16 "HeatedStoriesModel" "before" "[I", Cond.methodLink RX4 60 yX4_first, Cond.instanceMethod yX4_first, Cond.selects RX4 yX4_first yX4_first, Cond.code yX4_first cX4_first 4 (some .int), Cond.methodLink RX4 67 yX4_warm, Cond.instanceMethod yX4_warm, Cond.selects RX4 yX4_warm yX4_warm, Cond.code yX4_warm cX4_warm 4 none, Cond.methodLink RX4 85 yX4_react]
def wsX4_read_r2 : List Cond := [Cond.instanceMethod yX4_react, Cond.selects RX4 yX4_react yX4_react, Cond.code yX4_react cX4_react 3 (some .int), Cond.methodLink RX4 70 yX4_reactOne, Cond.instanceMethod yX4_reactOne, Cond.selects RX4 yX4_reactOne yX4_reactOne, Cond.code yX4_reactOne cX4_reactOne 5 none, Cond.methodLink RX4 56 yX4_storyOf, Cond.instanceMethod yX4_storyOf, Cond.selects RX4 yX4_storyOf yX4_storyOf, Cond.code yX4_storyOf cX4_storyOf 4 (some .int), Cond.methodLink RX4 63 yX4_split, Cond.instanceMethod yX4_split, Cond.selects RX4 yX4_split yX4_split, Cond.code yX4_split cX4_split 4 none]
def wsX4_read : List Cond := .code yX4_read cX4_read 4 (some .int) :: ((wsX4_read_r1 ++ wsX4_read_r2) ++ wsX40)
def wsX4_fuse_r1 : List Cond := [Cond.fieldLink RX4 7 "HeatedStoriesModel" "s" "[I", Cond.fieldLink RX4 29 "HeatedStoriesModel" "letters" "[I", Cond.fieldLink RX4 32 "HeatedStoriesModel" "heats" "[I", Cond.methodLink RX4 48 yX4_isStory, Cond.instanceMethod yX4_isStory, Cond.selects RX4 yX4_isStory yX4_isStory, Cond.initialized RX4, Cond.code yX4_isStory cX4_isStory 2 (some .boolean), Cond.methodLink RX4 44 yX4_in, Cond.static yX4_in, Cond.code yX4_in cX4_in 3 (some .boolean), Cond.methodLink RX4 89 yX4_theme, Cond.instanceMethod yX4_theme, Cond.selects RX4 yX4_theme yX4_theme, Cond.code yX4_theme cX4_theme 4 (some .int), Cond.methodLink RX4 74 yX4_times, Cond.instanceMethod yX4_times, Cond.selects RX4 yX4_times yX4_times, Cond.code yX4_times cX4_times 5 (some .int), Cond.methodLink RX4 60 yX4_first, Cond.instanceMethod yX4_first, Cond.selects RX4 yX4_first yX4_first, Cond.code yX4_first cX4_first 4 (some .int), Cond.methodLink RX4 78 yX4_know]
def wsX4_fuse_r2 : List Cond := [Cond.instanceMethod yX4_know, Cond.selects RX4 yX4_know yX4_know, Cond.code yX4_know cX4_know 2 none, Cond.fieldLink RX4 52 "HeatedStoriesModel" "known" "I", Cond.fieldLink RX4 16 "HeatedStoriesModel" "before" "[I", Cond.methodLink RX4 92 yX4_removeWords, Cond.instanceMethod yX4_removeWords, Cond.selects RX4 yX4_removeWords yX4_removeWords, Cond.code yX4_removeWords cX4_removeWords 4 none, Cond.methodLink RX4 95 yX4_removeStory, Cond.instanceMethod yX4_removeStory, Cond.selects RX4 yX4_removeStory yX4_removeStory, Cond.code yX4_removeStory cX4_removeStory 3 none, Cond.methodLink RX4 67 yX4_warm, Cond.instanceMethod yX4_warm, Cond.selects RX4 yX4_warm yX4_warm, Cond.code yX4_warm cX4_warm 4 none, Cond.methodLink RX4 85 yX4_react, Cond.instanceMethod yX4_react, Cond.selects RX4 yX4_react yX4_react, Cond.code yX4_react cX4_react 3 (some .int), Cond.methodLink RX4 70 yX4_reactOne, Cond.instanceMethod yX4_reactOne, Cond.selects RX4 yX4_reactOne yX4_reactOne]
def wsX4_fuse_r3 : List Cond := [Cond.code yX4_reactOne cX4_reactOne 5 none, Cond.methodLink RX4 56 yX4_storyOf, Cond.instanceMethod yX4_storyOf, Cond.selects RX4 yX4_storyOf yX4_storyOf, Cond.code yX4_storyOf cX4_storyOf 4 (some .int), Cond.methodLink RX4 63 yX4_split, Cond.instanceMethod yX4_split, Cond.selects RX4 yX4_split yX4_split, Cond.code yX4_split cX4_split 4 none]
def wsX4_fuse : List Cond := .code yX4_fuse cX4_fuse 8 (some .int) :: ((wsX4_fuse_r1 ++ (wsX4_fuse_r2 ++ wsX4_fuse_r3)) ++ wsX40)
def wsX4_pass : List Cond := .code yX4_pass cX4_pass 4 (some .int) :: ([.fieldLink RX4 7 "HeatedStoriesModel" "s" "[I", .methodLink RX4 44 yX4_in, .static yX4_in, .initialized RX4, .code yX4_in cX4_in 3 (some .boolean), .methodLink RX4 78 yX4_know, .instanceMethod yX4_know, .selects RX4 yX4_know yX4_know, .code yX4_know cX4_know 2 none, .fieldLink RX4 52 "HeatedStoriesModel" "known" "I", .fieldLink RX4 16 "HeatedStoriesModel" "before" "[I", .methodLink RX4 98 yX4_allHeat, .instanceMethod yX4_allHeat, .selects RX4 yX4_allHeat yX4_allHeat, .code yX4_allHeat cX4_allHeat 3 (some .int)] ++ wsX40)
def wsX4_burn_r1 : List Cond := [Cond.fieldLink RX4 7 "HeatedStoriesModel" "s" "[I", Cond.methodLink RX4 48 yX4_isStory, Cond.instanceMethod yX4_isStory, Cond.selects RX4 yX4_isStory yX4_isStory, Cond.initialized RX4, Cond.code yX4_isStory cX4_isStory 2 (some .boolean), Cond.methodLink RX4 44 yX4_in, Cond.static yX4_in, Cond.code yX4_in cX4_in 3 (some .boolean), Cond.methodLink RX4 78 yX4_know, Cond.instanceMethod yX4_know, Cond.selects RX4 yX4_know yX4_know, Cond.code yX4_know cX4_know 2 none, Cond.fieldLink RX4 52 "HeatedStoriesModel" "known" "I", Cond.fieldLink RX4 16 "HeatedStoriesModel" "before" "[I", Cond.methodLink RX4 60 yX4_first, Cond.instanceMethod yX4_first, Cond.selects RX4 yX4_first yX4_first, Cond.code yX4_first cX4_first 4 (some .int), Cond.methodLink RX4 92 yX4_removeWords, Cond.instanceMethod yX4_removeWords, Cond.selects RX4 yX4_removeWords yX4_removeWords, Cond.code yX4_removeWords cX4_removeWords 4 none, Cond.methodLink RX4 95 yX4_removeStory]
def wsX4_burn_r2 : List Cond := [Cond.instanceMethod yX4_removeStory, Cond.selects RX4 yX4_removeStory yX4_removeStory, Cond.code yX4_removeStory cX4_removeStory 3 none]
def wsX4_burn : List Cond := .code yX4_burn cX4_burn 3 (some .int) :: ((wsX4_burn_r1 ++ wsX4_burn_r2) ++ wsX40)
def wsX4_word : List Cond := .code yX4_word cX4_word 5 (some .int) :: ([.fieldLink RX4 7 "HeatedStoriesModel" "s" "[I", .methodLink RX4 81 yX4_isWord, .instanceMethod yX4_isWord, .selects RX4 yX4_isWord yX4_isWord, .initialized RX4, .code yX4_isWord cX4_isWord 3 (some .boolean), .methodLink RX4 48 yX4_isStory, .instanceMethod yX4_isStory, .selects RX4 yX4_isStory yX4_isStory, .code yX4_isStory cX4_isStory 2 (some .boolean), .methodLink RX4 44 yX4_in, .static yX4_in, .code yX4_in cX4_in 3 (some .boolean), .methodLink RX4 60 yX4_first, .instanceMethod yX4_first, .selects RX4 yX4_first yX4_first, .code yX4_first cX4_first 4 (some .int), .methodLink RX4 74 yX4_times, .instanceMethod yX4_times, .selects RX4 yX4_times yX4_times, .code yX4_times cX4_times 5 (some .int)] ++ wsX40)
def wsX4_hottest : List Cond := .code yX4_hottest cX4_hottest 4 (some .int) :: ([.fieldLink RX4 7 "HeatedStoriesModel" "s" "[I", .methodLink RX4 60 yX4_first, .instanceMethod yX4_first, .selects RX4 yX4_first yX4_first, .initialized RX4, .code yX4_first cX4_first 4 (some .int)] ++ wsX40)
def wsX4_unlike : List Cond := .code yX4_unlike cX4_unlike 4 (some .int) :: ([.methodLink RX4 74 yX4_times, .instanceMethod yX4_times, .selects RX4 yX4_times yX4_times, .initialized RX4, .code yX4_times cX4_times 5 (some .int), .fieldLink RX4 7 "HeatedStoriesModel" "s" "[I", .methodLink RX4 60 yX4_first, .instanceMethod yX4_first, .selects RX4 yX4_first yX4_first, .code yX4_first cX4_first 4 (some .int)] ++ wsX40)
def wsX4_isSameBackwards : List Cond := .code yX4_isSameBackwards cX4_isSameBackwards 6 (some .int) :: ([.fieldLink RX4 7 "HeatedStoriesModel" "s" "[I", .methodLink RX4 60 yX4_first, .instanceMethod yX4_first, .selects RX4 yX4_first yX4_first, .initialized RX4, .code yX4_first cX4_first 4 (some .int)] ++ wsX40)
def wsX4_story_r1 : List Cond := [Cond.fieldLink RX4 7 "HeatedStoriesModel" "s" "[I", Cond.methodLink RX4 48 yX4_isStory, Cond.instanceMethod yX4_isStory, Cond.selects RX4 yX4_isStory yX4_isStory, Cond.initialized RX4, Cond.code yX4_isStory cX4_isStory 2 (some .boolean), Cond.methodLink RX4 44 yX4_in, Cond.static yX4_in, Cond.code yX4_in cX4_in 3 (some .boolean), Cond.methodLink RX4 101 yX4_heatOf, Cond.instanceMethod yX4_heatOf, Cond.selects RX4 yX4_heatOf yX4_heatOf, Cond.code yX4_heatOf cX4_heatOf 4 (some .int), Cond.methodLink RX4 60 yX4_first, Cond.instanceMethod yX4_first, Cond.selects RX4 yX4_first yX4_first, Cond.code yX4_first cX4_first 4 (some .int), Cond.methodLink RX4 89 yX4_theme, Cond.instanceMethod yX4_theme, Cond.selects RX4 yX4_theme yX4_theme, Cond.code yX4_theme cX4_theme 4 (some .int), Cond.methodLink RX4 74 yX4_times, Cond.instanceMethod yX4_times, Cond.selects RX4 yX4_times yX4_times]
def wsX4_story_r2 : List Cond := [Cond.code yX4_times cX4_times 5 (some .int), Cond.methodLink RX4 104 yX4_hottest, Cond.instanceMethod yX4_hottest, Cond.selects RX4 yX4_hottest yX4_hottest, Cond.code yX4_hottest cX4_hottest 4 (some .int), Cond.methodLink RX4 107 yX4_unlike, Cond.instanceMethod yX4_unlike, Cond.selects RX4 yX4_unlike yX4_unlike, Cond.code yX4_unlike cX4_unlike 4 (some .int), Cond.methodLink RX4 110 yX4_isSameBackwards, Cond.instanceMethod yX4_isSameBackwards, Cond.selects RX4 yX4_isSameBackwards yX4_isSameBackwards, Cond.code yX4_isSameBackwards cX4_isSameBackwards 6 (some .int)]
def wsX4_story : List Cond := .code yX4_story cX4_story 3 (some .int) :: ((wsX4_story_r1 ++ wsX4_story_r2) ++ wsX40)
def wsX4_families : List Cond := .code yX4_families cX4_families 5 (some .int) :: ([.fieldLink RX4 7 "HeatedStoriesModel" "s" "[I"] ++ wsX40)
def wsX4_greatest : List Cond := .code yX4_greatest cX4_greatest 3 (some .int) :: ([.fieldLink RX4 7 "HeatedStoriesModel" "s" "[I"] ++ wsX40)
def wsX4_count : List Cond := .code yX4_count cX4_count 2 (some .int) :: ([.fieldLink RX4 7 "HeatedStoriesModel" "s" "[I", .fieldLink RX4 119 "HeatedStoriesModel" "length" "I", .fieldLink RX4 52 "HeatedStoriesModel" "known" "I", .methodLink RX4 98 yX4_allHeat, .instanceMethod yX4_allHeat, .selects RX4 yX4_allHeat yX4_allHeat, .initialized RX4, .code yX4_allHeat cX4_allHeat 3 (some .int), .methodLink RX4 113 yX4_families, .instanceMethod yX4_families, .selects RX4 yX4_families yX4_families, .code yX4_families cX4_families 5 (some .int), .methodLink RX4 116 yX4_greatest, .instanceMethod yX4_greatest, .selects RX4 yX4_greatest yX4_greatest, .code yX4_greatest cX4_greatest 3 (some .int)] ++ wsX40)
def wsX4_letter : List Cond := .code yX4_letter cX4_letter 5 (some .int) :: ([.fieldLink RX4 7 "HeatedStoriesModel" "s" "[I", .methodLink RX4 44 yX4_in, .static yX4_in, .initialized RX4, .code yX4_in cX4_in 3 (some .boolean), .methodLink RX4 74 yX4_times, .instanceMethod yX4_times, .selects RX4 yX4_times yX4_times, .code yX4_times cX4_times 5 (some .int), .methodLink RX4 60 yX4_first, .instanceMethod yX4_first, .selects RX4 yX4_first yX4_first, .code yX4_first cX4_first 4 (some .int), .methodLink RX4 89 yX4_theme, .instanceMethod yX4_theme, .selects RX4 yX4_theme yX4_theme, .code yX4_theme cX4_theme 4 (some .int)] ++ wsX40)
def wsX4_sideBySide : List Cond := .code yX4_sideBySide cX4_sideBySide 11 (some .int) :: ([.fieldLink RX4 7 "HeatedStoriesModel" "s" "[I", .methodLink RX4 44 yX4_in, .static yX4_in, .initialized RX4, .code yX4_in cX4_in 3 (some .boolean), .methodLink RX4 60 yX4_first, .instanceMethod yX4_first, .selects RX4 yX4_first yX4_first, .code yX4_first cX4_first 4 (some .int)] ++ wsX40)
def wsX4_common : List Cond := .code yX4_common cX4_common 9 (some .int) :: ([.fieldLink RX4 7 "HeatedStoriesModel" "s" "[I", .methodLink RX4 48 yX4_isStory, .instanceMethod yX4_isStory, .selects RX4 yX4_isStory yX4_isStory, .initialized RX4, .code yX4_isStory cX4_isStory 2 (some .boolean), .methodLink RX4 44 yX4_in, .static yX4_in, .code yX4_in cX4_in 3 (some .boolean), .methodLink RX4 60 yX4_first, .instanceMethod yX4_first, .selects RX4 yX4_first yX4_first, .code yX4_first cX4_first 4 (some .int)] ++ wsX40)
def wsX4_tryHeat_r1 : List Cond := [Cond.fieldLink RX4 125 "HeatedStoriesModel" "reactions" "I", Cond.fieldLink RX4 7 "HeatedStoriesModel" "s" "[I", Cond.fieldLink RX4 13 "HeatedStoriesModel" "aside" "[I", Cond.fieldLink RX4 128 "HeatedStoriesModel" "newSplits" "I", Cond.fieldLink RX4 131 "HeatedStoriesModel" "storiesThen" "I", Cond.fieldLink RX4 134 "HeatedStoriesModel" "heatThen" "I", Cond.methodLink RX4 122 yX4_putAside, Cond.instanceMethod yX4_putAside, Cond.selects RX4 yX4_putAside yX4_putAside, Cond.initialized RX4, Cond.code yX4_putAside cX4_putAside 2 none, Cond.methodLink RX4 67 yX4_warm, Cond.instanceMethod yX4_warm, Cond.selects RX4 yX4_warm yX4_warm, Cond.code yX4_warm cX4_warm 4 none, Cond.methodLink RX4 85 yX4_react, Cond.instanceMethod yX4_react, Cond.selects RX4 yX4_react yX4_react, Cond.code yX4_react cX4_react 3 (some .int), Cond.methodLink RX4 70 yX4_reactOne, Cond.instanceMethod yX4_reactOne, Cond.selects RX4 yX4_reactOne yX4_reactOne, Cond.code yX4_reactOne cX4_reactOne 5 none, Cond.methodLink RX4 56 yX4_storyOf]
def wsX4_tryHeat_r2 : List Cond := [Cond.instanceMethod yX4_storyOf, Cond.selects RX4 yX4_storyOf yX4_storyOf, Cond.code yX4_storyOf cX4_storyOf 4 (some .int), Cond.methodLink RX4 60 yX4_first, Cond.instanceMethod yX4_first, Cond.selects RX4 yX4_first yX4_first, Cond.code yX4_first cX4_first 4 (some .int), Cond.methodLink RX4 63 yX4_split, Cond.instanceMethod yX4_split, Cond.selects RX4 yX4_split yX4_split, Cond.code yX4_split cX4_split 4 none, Cond.methodLink RX4 98 yX4_allHeat, Cond.instanceMethod yX4_allHeat, Cond.selects RX4 yX4_allHeat yX4_allHeat, Cond.code yX4_allHeat cX4_allHeat 3 (some .int), Cond.methodLink RX4 137 yX4_putBack, Cond.instanceMethod yX4_putBack, Cond.selects RX4 yX4_putBack yX4_putBack, Cond.code yX4_putBack cX4_putBack 2 none]
def wsX4_tryHeat : List Cond := .code yX4_tryHeat cX4_tryHeat 3 none :: ((wsX4_tryHeat_r1 ++ wsX4_tryHeat_r2) ++ wsX40)
def wsX4_ifHeated_r1 : List Cond := [Cond.fieldLink RX4 125 "HeatedStoriesModel" "reactions" "I", Cond.fieldLink RX4 128 "HeatedStoriesModel" "newSplits" "I", Cond.fieldLink RX4 131 "HeatedStoriesModel" "storiesThen" "I", Cond.fieldLink RX4 134 "HeatedStoriesModel" "heatThen" "I", Cond.methodLink RX4 81 yX4_isWord, Cond.instanceMethod yX4_isWord, Cond.selects RX4 yX4_isWord yX4_isWord, Cond.initialized RX4, Cond.code yX4_isWord cX4_isWord 3 (some .boolean), Cond.fieldLink RX4 7 "HeatedStoriesModel" "s" "[I", Cond.methodLink RX4 48 yX4_isStory, Cond.instanceMethod yX4_isStory, Cond.selects RX4 yX4_isStory yX4_isStory, Cond.code yX4_isStory cX4_isStory 2 (some .boolean), Cond.methodLink RX4 44 yX4_in, Cond.static yX4_in, Cond.code yX4_in cX4_in 3 (some .boolean), Cond.methodLink RX4 60 yX4_first, Cond.instanceMethod yX4_first, Cond.selects RX4 yX4_first yX4_first, Cond.code yX4_first cX4_first 4 (some .int), Cond.methodLink RX4 140 yX4_tryHeat, Cond.instanceMethod yX4_tryHeat, Cond.selects RX4 yX4_tryHeat yX4_tryHeat]
def wsX4_ifHeated_r2 : List Cond := [Cond.code yX4_tryHeat cX4_tryHeat 3 none, Cond.fieldLink RX4 13 "HeatedStoriesModel" "aside" "[I", Cond.methodLink RX4 122 yX4_putAside, Cond.instanceMethod yX4_putAside, Cond.selects RX4 yX4_putAside yX4_putAside, Cond.code yX4_putAside cX4_putAside 2 none, Cond.methodLink RX4 67 yX4_warm, Cond.instanceMethod yX4_warm, Cond.selects RX4 yX4_warm yX4_warm, Cond.code yX4_warm cX4_warm 4 none, Cond.methodLink RX4 85 yX4_react, Cond.instanceMethod yX4_react, Cond.selects RX4 yX4_react yX4_react, Cond.code yX4_react cX4_react 3 (some .int), Cond.methodLink RX4 70 yX4_reactOne, Cond.instanceMethod yX4_reactOne, Cond.selects RX4 yX4_reactOne yX4_reactOne, Cond.code yX4_reactOne cX4_reactOne 5 none, Cond.methodLink RX4 56 yX4_storyOf, Cond.instanceMethod yX4_storyOf, Cond.selects RX4 yX4_storyOf yX4_storyOf, Cond.code yX4_storyOf cX4_storyOf 4 (some .int), Cond.methodLink RX4 63 yX4_split, Cond.instanceMethod yX4_split]
def wsX4_ifHeated_r3 : List Cond := [Cond.selects RX4 yX4_split yX4_split, Cond.code yX4_split cX4_split 4 none, Cond.methodLink RX4 98 yX4_allHeat, Cond.instanceMethod yX4_allHeat, Cond.selects RX4 yX4_allHeat yX4_allHeat, Cond.code yX4_allHeat cX4_allHeat 3 (some .int), Cond.methodLink RX4 137 yX4_putBack, Cond.instanceMethod yX4_putBack, Cond.selects RX4 yX4_putBack yX4_putBack, Cond.code yX4_putBack cX4_putBack 2 none]
def wsX4_ifHeated : List Cond := .code yX4_ifHeated cX4_ifHeated 5 (some .int) :: ((wsX4_ifHeated_r1 ++ (wsX4_ifHeated_r2 ++ wsX4_ifHeated_r3)) ++ wsX40)
def wsX4_critical_r1 : List Cond := [Cond.fieldLink RX4 128 "HeatedStoriesModel" "newSplits" "I", Cond.methodLink RX4 81 yX4_isWord, Cond.instanceMethod yX4_isWord, Cond.selects RX4 yX4_isWord yX4_isWord, Cond.initialized RX4, Cond.code yX4_isWord cX4_isWord 3 (some .boolean), Cond.fieldLink RX4 7 "HeatedStoriesModel" "s" "[I", Cond.methodLink RX4 48 yX4_isStory, Cond.instanceMethod yX4_isStory, Cond.selects RX4 yX4_isStory yX4_isStory, Cond.code yX4_isStory cX4_isStory 2 (some .boolean), Cond.methodLink RX4 44 yX4_in, Cond.static yX4_in, Cond.code yX4_in cX4_in 3 (some .boolean), Cond.methodLink RX4 60 yX4_first, Cond.instanceMethod yX4_first, Cond.selects RX4 yX4_first yX4_first, Cond.code yX4_first cX4_first 4 (some .int), Cond.methodLink RX4 140 yX4_tryHeat, Cond.instanceMethod yX4_tryHeat, Cond.selects RX4 yX4_tryHeat yX4_tryHeat, Cond.code yX4_tryHeat cX4_tryHeat 3 none, Cond.fieldLink RX4 125 "HeatedStoriesModel" "reactions" "I", Cond.fieldLink RX4 13 "HeatedStoriesModel" "aside" "[I"]
def wsX4_critical_r2 : List Cond := [Cond.fieldLink RX4 131 "HeatedStoriesModel" "storiesThen" "I", Cond.fieldLink RX4 134 "HeatedStoriesModel" "heatThen" "I", Cond.methodLink RX4 122 yX4_putAside, Cond.instanceMethod yX4_putAside, Cond.selects RX4 yX4_putAside yX4_putAside, Cond.code yX4_putAside cX4_putAside 2 none, Cond.methodLink RX4 67 yX4_warm, Cond.instanceMethod yX4_warm, Cond.selects RX4 yX4_warm yX4_warm, Cond.code yX4_warm cX4_warm 4 none, Cond.methodLink RX4 85 yX4_react, Cond.instanceMethod yX4_react, Cond.selects RX4 yX4_react yX4_react, Cond.code yX4_react cX4_react 3 (some .int), Cond.methodLink RX4 70 yX4_reactOne, Cond.instanceMethod yX4_reactOne, Cond.selects RX4 yX4_reactOne yX4_reactOne, Cond.code yX4_reactOne cX4_reactOne 5 none, Cond.methodLink RX4 56 yX4_storyOf, Cond.instanceMethod yX4_storyOf, Cond.selects RX4 yX4_storyOf yX4_storyOf, Cond.code yX4_storyOf cX4_storyOf 4 (some .int), Cond.methodLink RX4 63 yX4_split, Cond.instanceMethod yX4_split]
def wsX4_critical_r3 : List Cond := [Cond.selects RX4 yX4_split yX4_split, Cond.code yX4_split cX4_split 4 none, Cond.methodLink RX4 98 yX4_allHeat, Cond.instanceMethod yX4_allHeat, Cond.selects RX4 yX4_allHeat yX4_allHeat, Cond.code yX4_allHeat cX4_allHeat 3 (some .int), Cond.methodLink RX4 137 yX4_putBack, Cond.instanceMethod yX4_putBack, Cond.selects RX4 yX4_putBack yX4_putBack, Cond.code yX4_putBack cX4_putBack 2 none]
def wsX4_critical : List Cond := .code yX4_critical cX4_critical 4 (some .int) :: ((wsX4_critical_r1 ++ (wsX4_critical_r2 ++ wsX4_critical_r3)) ++ wsX40)
def wsX4_touchiest_r1 : List Cond := [Cond.fieldLink RX4 7 "HeatedStoriesModel" "s" "[I", Cond.fieldLink RX4 125 "HeatedStoriesModel" "reactions" "I", Cond.methodLink RX4 44 yX4_in, Cond.static yX4_in, Cond.initialized RX4, Cond.code yX4_in cX4_in 3 (some .boolean), Cond.methodLink RX4 140 yX4_tryHeat, Cond.instanceMethod yX4_tryHeat, Cond.selects RX4 yX4_tryHeat yX4_tryHeat, Cond.code yX4_tryHeat cX4_tryHeat 3 none, Cond.fieldLink RX4 13 "HeatedStoriesModel" "aside" "[I", Cond.fieldLink RX4 128 "HeatedStoriesModel" "newSplits" "I", Cond.fieldLink RX4 131 "HeatedStoriesModel" "storiesThen" "I", Cond.fieldLink RX4 134 "HeatedStoriesModel" "heatThen" "I", Cond.methodLink RX4 122 yX4_putAside, Cond.instanceMethod yX4_putAside, Cond.selects RX4 yX4_putAside yX4_putAside, Cond.code yX4_putAside cX4_putAside 2 none, Cond.methodLink RX4 67 yX4_warm, Cond.instanceMethod yX4_warm, Cond.selects RX4 yX4_warm yX4_warm, Cond.code yX4_warm cX4_warm 4 none, Cond.methodLink RX4 85 yX4_react, Cond.instanceMethod yX4_react]
def wsX4_touchiest_r2 : List Cond := [Cond.selects RX4 yX4_react yX4_react, Cond.code yX4_react cX4_react 3 (some .int), Cond.methodLink RX4 70 yX4_reactOne, Cond.instanceMethod yX4_reactOne, Cond.selects RX4 yX4_reactOne yX4_reactOne, Cond.code yX4_reactOne cX4_reactOne 5 none, Cond.methodLink RX4 56 yX4_storyOf, Cond.instanceMethod yX4_storyOf, Cond.selects RX4 yX4_storyOf yX4_storyOf, Cond.code yX4_storyOf cX4_storyOf 4 (some .int), Cond.methodLink RX4 60 yX4_first, Cond.instanceMethod yX4_first, Cond.selects RX4 yX4_first yX4_first, Cond.code yX4_first cX4_first 4 (some .int), Cond.methodLink RX4 63 yX4_split, Cond.instanceMethod yX4_split, Cond.selects RX4 yX4_split yX4_split, Cond.code yX4_split cX4_split 4 none, Cond.methodLink RX4 98 yX4_allHeat, Cond.instanceMethod yX4_allHeat, Cond.selects RX4 yX4_allHeat yX4_allHeat, Cond.code yX4_allHeat cX4_allHeat 3 (some .int), Cond.methodLink RX4 137 yX4_putBack, Cond.instanceMethod yX4_putBack]
def wsX4_touchiest_r3 : List Cond := [Cond.selects RX4 yX4_putBack yX4_putBack, Cond.code yX4_putBack cX4_putBack 2 none]
def wsX4_touchiest : List Cond := .code yX4_touchiest cX4_touchiest 6 (some .int) :: ((wsX4_touchiest_r1 ++ (wsX4_touchiest_r2 ++ wsX4_touchiest_r3)) ++ wsX40)
def wsX4_coolestPair : List Cond := .code yX4_coolestPair cX4_coolestPair 9 (some .int) :: ([.fieldLink RX4 7 "HeatedStoriesModel" "s" "[I", .methodLink RX4 44 yX4_in, .static yX4_in, .initialized RX4, .code yX4_in cX4_in 3 (some .boolean), .methodLink RX4 101 yX4_heatOf, .instanceMethod yX4_heatOf, .selects RX4 yX4_heatOf yX4_heatOf, .code yX4_heatOf cX4_heatOf 4 (some .int), .methodLink RX4 60 yX4_first, .instanceMethod yX4_first, .selects RX4 yX4_first yX4_first, .code yX4_first cX4_first 4 (some .int), .methodLink RX4 89 yX4_theme, .instanceMethod yX4_theme, .selects RX4 yX4_theme yX4_theme, .code yX4_theme cX4_theme 4 (some .int), .methodLink RX4 74 yX4_times, .instanceMethod yX4_times, .selects RX4 yX4_times yX4_times, .code yX4_times cX4_times 5 (some .int)] ++ wsX40)
def wsX4_put : List Cond := .code yX4_put cX4_put 8 (some .int) :: ([.constantLong RX4 143 (255), .fieldLink RX4 119 "HeatedStoriesModel" "length" "I", .fieldLink RX4 26 "HeatedStoriesModel" "pad" "[I", .methodLink RX4 44 yX4_in, .static yX4_in, .initialized RX4, .code yX4_in cX4_in 3 (some .boolean)] ++ wsX40)
def wsX4_wipe : List Cond := .code yX4_wipe cX4_wipe 2 (some .int) :: ([.fieldLink RX4 119 "HeatedStoriesModel" "length" "I"] ++ wsX40)
def wsX4_sign : List Cond := .code yX4_sign cX4_sign 4 (some .int) :: ([.fieldLink RX4 145 "HeatedStoriesModel" "place" "I", .fieldLink RX4 119 "HeatedStoriesModel" "length" "I", .fieldLink RX4 26 "HeatedStoriesModel" "pad" "[I", .fieldLink RX4 148 "HeatedStoriesModel" "isWrong" "Z", .methodLink RX4 44 yX4_in, .static yX4_in, .initialized RX4, .code yX4_in cX4_in 3 (some .boolean)] ++ wsX40)
def wsX4_isNext : List Cond := .code yX4_isNext cX4_isNext 3 (some .boolean) :: ([.fieldLink RX4 148 "HeatedStoriesModel" "isWrong" "Z", .fieldLink RX4 145 "HeatedStoriesModel" "place" "I", .fieldLink RX4 119 "HeatedStoriesModel" "length" "I", .fieldLink RX4 26 "HeatedStoriesModel" "pad" "[I", .methodLink RX4 44 yX4_in, .static yX4_in, .initialized RX4, .code yX4_in cX4_in 3 (some .boolean)] ++ wsX40)
def wsX4_readPad : List Cond := .code yX4_readPad cX4_readPad 5 none :: ([.fieldLink RX4 145 "HeatedStoriesModel" "place" "I", .fieldLink RX4 148 "HeatedStoriesModel" "isWrong" "Z", .fieldLink RX4 152 "HeatedStoriesModel" "toldWords" "I", .fieldLink RX4 155 "HeatedStoriesModel" "toldStories" "I", .fieldLink RX4 35 "HeatedStoriesModel" "toldLetter" "[I", .fieldLink RX4 38 "HeatedStoriesModel" "toldHeat" "[I", .fieldLink RX4 41 "HeatedStoriesModel" "toldStory" "[I", .fieldLink RX4 119 "HeatedStoriesModel" "length" "I", .methodLink RX4 158 yX4_sign, .instanceMethod yX4_sign, .selects RX4 yX4_sign yX4_sign, .initialized RX4, .code yX4_sign cX4_sign 4 (some .int), .fieldLink RX4 26 "HeatedStoriesModel" "pad" "[I", .methodLink RX4 44 yX4_in, .static yX4_in, .code yX4_in cX4_in 3 (some .boolean), .methodLink RX4 161 yX4_isNext, .instanceMethod yX4_isNext, .selects RX4 yX4_isNext yX4_isNext, .code yX4_isNext cX4_isNext 3 (some .boolean)] ++ wsX40)
def wsX4_fault_r1 : List Cond := [Cond.fieldLink RX4 148 "HeatedStoriesModel" "isWrong" "Z", Cond.fieldLink RX4 145 "HeatedStoriesModel" "place" "I", Cond.methodLink RX4 164 yX4_readPad, Cond.instanceMethod yX4_readPad, Cond.selects RX4 yX4_readPad yX4_readPad, Cond.initialized RX4, Cond.code yX4_readPad cX4_readPad 5 none, Cond.fieldLink RX4 152 "HeatedStoriesModel" "toldWords" "I", Cond.fieldLink RX4 155 "HeatedStoriesModel" "toldStories" "I", Cond.fieldLink RX4 35 "HeatedStoriesModel" "toldLetter" "[I", Cond.fieldLink RX4 38 "HeatedStoriesModel" "toldHeat" "[I", Cond.fieldLink RX4 41 "HeatedStoriesModel" "toldStory" "[I", Cond.fieldLink RX4 119 "HeatedStoriesModel" "length" "I", Cond.methodLink RX4 158 yX4_sign, Cond.instanceMethod yX4_sign, Cond.selects RX4 yX4_sign yX4_sign, Cond.code yX4_sign cX4_sign 4 (some .int), Cond.fieldLink RX4 26 "HeatedStoriesModel" "pad" "[I", Cond.methodLink RX4 44 yX4_in, Cond.static yX4_in, Cond.code yX4_in cX4_in 3 (some .boolean), Cond.methodLink RX4 161 yX4_isNext, Cond.instanceMethod yX4_isNext, Cond.selects RX4 yX4_isNext yX4_isNext]
def wsX4_fault_r2 : List Cond := [Cond.code yX4_isNext cX4_isNext 3 (some .boolean)]
def wsX4_fault : List Cond := .code yX4_fault cX4_fault 1 (some .int) :: ((wsX4_fault_r1 ++ wsX4_fault_r2) ++ wsX40)
def wsX4_write_r1 : List Cond := [Cond.fieldLink RX4 148 "HeatedStoriesModel" "isWrong" "Z", Cond.fieldLink RX4 7 "HeatedStoriesModel" "s" "[I", Cond.fieldLink RX4 155 "HeatedStoriesModel" "toldStories" "I", Cond.fieldLink RX4 152 "HeatedStoriesModel" "toldWords" "I", Cond.fieldLink RX4 35 "HeatedStoriesModel" "toldLetter" "[I", Cond.fieldLink RX4 38 "HeatedStoriesModel" "toldHeat" "[I", Cond.fieldLink RX4 41 "HeatedStoriesModel" "toldStory" "[I", Cond.fieldLink RX4 119 "HeatedStoriesModel" "length" "I", Cond.methodLink RX4 164 yX4_readPad, Cond.instanceMethod yX4_readPad, Cond.selects RX4 yX4_readPad yX4_readPad, Cond.initialized RX4, Cond.code yX4_readPad cX4_readPad 5 none, Cond.fieldLink RX4 145 "HeatedStoriesModel" "place" "I", Cond.methodLink RX4 158 yX4_sign, Cond.instanceMethod yX4_sign, Cond.selects RX4 yX4_sign yX4_sign, Cond.code yX4_sign cX4_sign 4 (some .int), Cond.fieldLink RX4 26 "HeatedStoriesModel" "pad" "[I", Cond.methodLink RX4 44 yX4_in, Cond.static yX4_in, Cond.code yX4_in cX4_in 3 (some .boolean), Cond.methodLink RX4 161 yX4_isNext, Cond.instanceMethod yX4_isNext]
def wsX4_write_r2 : List Cond := [Cond.selects RX4 yX4_isNext yX4_isNext, Cond.code yX4_isNext cX4_isNext 3 (some .boolean), Cond.methodLink RX4 78 yX4_know, Cond.instanceMethod yX4_know, Cond.selects RX4 yX4_know yX4_know, Cond.code yX4_know cX4_know 2 none, Cond.fieldLink RX4 52 "HeatedStoriesModel" "known" "I", Cond.fieldLink RX4 16 "HeatedStoriesModel" "before" "[I", Cond.methodLink RX4 85 yX4_react, Cond.instanceMethod yX4_react, Cond.selects RX4 yX4_react yX4_react, Cond.code yX4_react cX4_react 3 (some .int), Cond.methodLink RX4 70 yX4_reactOne, Cond.instanceMethod yX4_reactOne, Cond.selects RX4 yX4_reactOne yX4_reactOne, Cond.code yX4_reactOne cX4_reactOne 5 none, Cond.methodLink RX4 56 yX4_storyOf, Cond.instanceMethod yX4_storyOf, Cond.selects RX4 yX4_storyOf yX4_storyOf, Cond.code yX4_storyOf cX4_storyOf 4 (some .int), Cond.methodLink RX4 60 yX4_first, Cond.instanceMethod yX4_first, Cond.selects RX4 yX4_first yX4_first, Cond.code yX4_first cX4_first 4 (some .int)]
def wsX4_write_r3 : List Cond := [Cond.methodLink RX4 63 yX4_split, Cond.instanceMethod yX4_split, Cond.selects RX4 yX4_split yX4_split, Cond.code yX4_split cX4_split 4 none, Cond.methodLink RX4 67 yX4_warm, Cond.instanceMethod yX4_warm, Cond.selects RX4 yX4_warm yX4_warm, Cond.code yX4_warm cX4_warm 4 none]
def wsX4_write : List Cond := .code yX4_write cX4_write 3 (some .int) :: ((wsX4_write_r1 ++ (wsX4_write_r2 ++ wsX4_write_r3)) ++ wsX40)
def wsX4_undo : List Cond := .code yX4_undo cX4_undo 2 (some .int) :: ([.fieldLink RX4 52 "HeatedStoriesModel" "known" "I", .fieldLink RX4 7 "HeatedStoriesModel" "s" "[I", .fieldLink RX4 16 "HeatedStoriesModel" "before" "[I"] ++ wsX40)
def wsX4_save : List Cond := .code yX4_save cX4_save 3 (some .int) :: ([.fieldLink RX4 19 "HeatedStoriesModel" "slots" "[I", .fieldLink RX4 7 "HeatedStoriesModel" "s" "[I", .fieldLink RX4 22 "HeatedStoriesModel" "isSaved" "[Z", .methodLink RX4 44 yX4_in, .static yX4_in, .initialized RX4, .code yX4_in cX4_in 3 (some .boolean)] ++ wsX40)
def wsX4_restore : List Cond := .code yX4_restore cX4_restore 3 (some .int) :: ([.fieldLink RX4 22 "HeatedStoriesModel" "isSaved" "[Z", .fieldLink RX4 7 "HeatedStoriesModel" "s" "[I", .fieldLink RX4 19 "HeatedStoriesModel" "slots" "[I", .methodLink RX4 44 yX4_in, .static yX4_in, .initialized RX4, .code yX4_in cX4_in 3 (some .boolean), .methodLink RX4 78 yX4_know, .instanceMethod yX4_know, .selects RX4 yX4_know yX4_know, .code yX4_know cX4_know 2 none, .fieldLink RX4 52 "HeatedStoriesModel" "known" "I", .fieldLink RX4 16 "HeatedStoriesModel" "before" "[I"] ++ wsX40)
def wsJ9_max_7cf53 : List Cond := .code yJ9_max_7cf53 cJ9_max_7cf53 2 (some .int) :: ([])
def wsJ9_min_7cf53 : List Cond := .code yJ9_min_7cf53 cJ9_min_7cf53 2 (some .int) :: ([])
def wsL_law_r1 : List Cond := [Cond.classLink RL 7 RX3, Cond.instantiable RX3 9, Cond.initialized RX3, Cond.classLink RL 10 RX4, Cond.instantiable RX4 21, Cond.initialized RX4, Cond.constantLong RL 86 (4294967295), Cond.methodLink RL 9 yX3_init, Cond.instanceMethod yX3_init, Cond.code yX3_init cX3_init 2 none, Cond.methodLink RX3 1 objectInit, Cond.instanceMethod objectInit, Cond.code objectInit ⟨#[0xb1]⟩ 1 none, Cond.classLink RX3 7 RX2, Cond.instantiable RX2 12, Cond.initialized RX2, Cond.fieldLink RX3 10 "HeatedStories" "now" "LHeatedStories$Shelf;", Cond.fieldLink RX3 16 "HeatedStories" "trial" "LHeatedStories$Shelf;", Cond.classLink RX3 19 RX0, Cond.instantiable RX0 3, Cond.initialized RX0, Cond.fieldLink RX3 22 "HeatedStories" "history" "LHeatedStories$History;", Cond.fieldLink RX3 26 "HeatedStories" "slots" "[LHeatedStories$Shelf;", Cond.arrayClass .boolean]
def wsL_law_r2 : List Cond := [Cond.fieldLink RX3 30 "HeatedStories" "saved" "[Z", Cond.classLink RX3 34 RX1, Cond.instantiable RX1 2, Cond.initialized RX1, Cond.fieldLink RX3 37 "HeatedStories" "pad" "LHeatedStories$Pad;", Cond.arrayClass .int, Cond.fieldLink RX3 41 "HeatedStories" "runs" "[I", Cond.fieldLink RX3 45 "HeatedStories" "themes" "[I", Cond.fieldLink RX3 48 "HeatedStories" "storyHeats" "[I", Cond.instanceMethod yX2_init, Cond.code yX2_init cX2_init 1 none, Cond.methodLink RX2 3 objectInit, Cond.fieldLink RX2 9 "HeatedStories$Shelf" "settings" "[I", Cond.fieldLink RX2 15 "HeatedStories$Shelf" "letters" "[I", Cond.fieldLink RX2 18 "HeatedStories$Shelf" "heats" "[I", Cond.fieldLink RX2 21 "HeatedStories$Shelf" "starts" "[I", Cond.fieldLink RX2 24 "HeatedStories$Shelf" "families" "[I", Cond.fieldLink RX2 27 "HeatedStories$Shelf" "generations" "[I", Cond.fieldLink RX2 30 "HeatedStories$Shelf" "tally" "[I", Cond.methodLink RX3 21 yX0_init, Cond.instanceMethod yX0_init, Cond.code yX0_init cX0_init 2 none, Cond.methodLink RX0 3 objectInit, Cond.classLink RX0 9 RX2]
def wsL_law_r3 : List Cond := [Cond.fieldLink RX0 11 "HeatedStories$History" "states" "[LHeatedStories$Shelf;", Cond.instanceMethod yX1_init, Cond.code yX1_init cX1_init 1 none, Cond.methodLink RX1 3 objectInit, Cond.arrayClass .char, Cond.fieldLink RX1 11 "HeatedStories$Pad" "characters" "[C", Cond.methodLink RL 12 yX4_init, Cond.instanceMethod yX4_init, Cond.code yX4_init cX4_init 1 none, Cond.methodLink RX4 1 objectInit, Cond.fieldLink RX4 7 "HeatedStoriesModel" "s" "[I", Cond.fieldLink RX4 13 "HeatedStoriesModel" "aside" "[I", Cond.fieldLink RX4 16 "HeatedStoriesModel" "before" "[I", Cond.fieldLink RX4 19 "HeatedStoriesModel" "slots" "[I", Cond.fieldLink RX4 22 "HeatedStoriesModel" "isSaved" "[Z", Cond.fieldLink RX4 26 "HeatedStoriesModel" "pad" "[I", Cond.fieldLink RX4 29 "HeatedStoriesModel" "letters" "[I", Cond.fieldLink RX4 32 "HeatedStoriesModel" "heats" "[I", Cond.fieldLink RX4 35 "HeatedStoriesModel" "toldLetter" "[I", Cond.fieldLink RX4 38 "HeatedStoriesModel" "toldHeat" "[I", Cond.fieldLink RX4 41 "HeatedStoriesModel" "toldStory" "[I", Cond.methodLink RL 13 yX3_set, Cond.instanceMethod yX3_set, Cond.selects RX3 yX3_set yX3_set]
def wsL_law_r4 : List Cond := [Cond.code yX3_set cX3_set 4 (some .int), Cond.fieldLink RX3 55 "HeatedStories" "LOWEST" "[I", Cond.fieldLink RX3 58 "HeatedStories" "HIGHEST" "[I", Cond.fieldLink RX3 65 "HeatedStories$Shelf" "settings" "[I", Cond.methodLink RX3 51 yX3_isWithin, Cond.static yX3_isWithin, Cond.code yX3_isWithin cX3_isWithin 3 (some .boolean), Cond.methodLink RX3 61 yX0_record, Cond.instanceMethod yX0_record, Cond.selects RX0 yX0_record yX0_record, Cond.code yX0_record cX0_record 2 none, Cond.fieldLink RX0 18 "HeatedStories$History" "oldest" "I", Cond.fieldLink RX0 22 "HeatedStories$History" "size" "I", Cond.methodLink RX0 25 yX2_copyFrom, Cond.instanceMethod yX2_copyFrom, Cond.selects RX2 yX2_copyFrom yX2_copyFrom, Cond.code yX2_copyFrom cX2_copyFrom 3 none, Cond.methodLink RX2 37 arraycopyName, Cond.native arraycopyName, Cond.static arraycopyName, Cond.initialized "java/lang/System", Cond.fieldLink RX2 43 "HeatedStories$Shelf" "stories" "I", Cond.fieldLink RX2 47 "HeatedStories$Shelf" "nextFamily" "I", Cond.fieldLink RX2 50 "HeatedStories$Shelf" "splits" "I"]
def wsL_law_r5 : List Cond := [Cond.fieldLink RX2 53 "HeatedStories$Shelf" "boilings" "I", Cond.fieldLink RX2 56 "HeatedStories$Shelf" "fizzles" "I", Cond.methodLink RX2 33 yX2_words, Cond.instanceMethod yX2_words, Cond.selects RX2 yX2_words yX2_words, Cond.code yX2_words cX2_words 1 (some .int), Cond.methodLink RL 17 yX4_set, Cond.instanceMethod yX4_set, Cond.selects RX4 yX4_set yX4_set, Cond.code yX4_set cX4_set 6 (some .int), Cond.methodLink RX4 44 yX4_in, Cond.static yX4_in, Cond.code yX4_in cX4_in 3 (some .boolean), Cond.methodLink RX4 78 yX4_know, Cond.instanceMethod yX4_know, Cond.selects RX4 yX4_know yX4_know, Cond.code yX4_know cX4_know 2 none, Cond.fieldLink RX4 52 "HeatedStoriesModel" "known" "I", Cond.methodLink RL 18 yX3_write, Cond.instanceMethod yX3_write, Cond.selects RX3 yX3_write yX3_write, Cond.code yX3_write cX3_write 1 (some .int), Cond.fieldLink RX3 72 "HeatedStories$Shelf" "stories" "I", Cond.fieldLink RX3 88 "HeatedStories$Pad" "length" "I"]
def wsL_law_r6 : List Cond := [Cond.methodLink RX3 68 yX1_firstFault, Cond.instanceMethod yX1_firstFault, Cond.selects RX1 yX1_firstFault yX1_firstFault, Cond.code yX1_firstFault cX1_firstFault 3 (some .int), Cond.fieldLink RX1 21 "HeatedStories$Pad" "length" "I", Cond.methodLink RX1 25 yX1_placeBehind, Cond.static yX1_placeBehind, Cond.code yX1_placeBehind cX1_placeBehind 2 (some .int), Cond.methodLink RX1 29 yX1_isWord, Cond.static yX1_isWord, Cond.code yX1_isWord cX1_isWord 1 (some .boolean), Cond.methodLink RX3 76 yX1_storiesIn, Cond.instanceMethod yX1_storiesIn, Cond.selects RX1 yX1_storiesIn yX1_storiesIn, Cond.code yX1_storiesIn cX1_storiesIn 3 (some .int), Cond.methodLink RX3 79 yX2_words, Cond.methodLink RX3 82 yX1_wordsIn, Cond.instanceMethod yX1_wordsIn, Cond.selects RX1 yX1_wordsIn yX1_wordsIn, Cond.code yX1_wordsIn cX1_wordsIn 3 (some .int), Cond.methodLink RX3 85 yX1_writeTo, Cond.instanceMethod yX1_writeTo, Cond.selects RX1 yX1_writeTo yX1_writeTo, Cond.code yX1_writeTo cX1_writeTo 4 none]
def wsL_law_r7 : List Cond := [Cond.methodLink RX1 33 yX2_addStory, Cond.instanceMethod yX2_addStory, Cond.selects RX2 yX2_addStory yX2_addStory, Cond.code yX2_addStory cX2_addStory 1 none, Cond.methodLink RX1 38 yX2_addWord, Cond.instanceMethod yX2_addWord, Cond.selects RX2 yX2_addWord yX2_addWord, Cond.code yX2_addWord cX2_addWord 3 none, Cond.methodLink RX1 42 yX2_addDigit, Cond.instanceMethod yX2_addDigit, Cond.selects RX2 yX2_addDigit yX2_addDigit, Cond.code yX2_addDigit cX2_addDigit 3 none, Cond.methodLink RX3 91 yX2_react, Cond.instanceMethod yX2_react, Cond.selects RX2 yX2_react yX2_react, Cond.code yX2_react cX2_react 4 (some .int), Cond.constant RX2 80 (1000000), Cond.methodLink RX2 85 Lib.Math.max.name, Cond.static Lib.Math.max.name, Cond.initialized "java/lang/Math", Cond.code Lib.Math.max.name Lib.Math.max.code 2 (some .int), Cond.methodLink RX2 81 yX2_reactAt, Cond.instanceMethod yX2_reactAt, Cond.selects RX2 yX2_reactAt yX2_reactAt]
def wsL_law_r8 : List Cond := [Cond.code yX2_reactAt cX2_reactAt 5 none, Cond.methodLink RX2 71 yX2_storyAt, Cond.instanceMethod yX2_storyAt, Cond.selects RX2 yX2_storyAt yX2_storyAt, Cond.code yX2_storyAt cX2_storyAt 3 (some .int), Cond.methodLink RX2 88 yX2_split, Cond.instanceMethod yX2_split, Cond.selects RX2 yX2_split yX2_split, Cond.code yX2_split cX2_split 4 none, Cond.methodLink RX2 92 yX2_warm, Cond.instanceMethod yX2_warm, Cond.selects RX2 yX2_warm yX2_warm, Cond.code yX2_warm cX2_warm 3 none, Cond.methodLink RX2 74 Lib.Math.min.name, Cond.static Lib.Math.min.name, Cond.code Lib.Math.min.name Lib.Math.min.code 2 (some .int), Cond.methodLink RL 22 yX4_write, Cond.instanceMethod yX4_write, Cond.selects RX4 yX4_write yX4_write, Cond.code yX4_write cX4_write 3 (some .int), Cond.fieldLink RX4 148 "HeatedStoriesModel" "isWrong" "Z", Cond.fieldLink RX4 155 "HeatedStoriesModel" "toldStories" "I", Cond.fieldLink RX4 152 "HeatedStoriesModel" "toldWords" "I", Cond.fieldLink RX4 119 "HeatedStoriesModel" "length" "I"]
def wsL_law_r9 : List Cond := [Cond.methodLink RX4 164 yX4_readPad, Cond.instanceMethod yX4_readPad, Cond.selects RX4 yX4_readPad yX4_readPad, Cond.code yX4_readPad cX4_readPad 5 none, Cond.fieldLink RX4 145 "HeatedStoriesModel" "place" "I", Cond.methodLink RX4 158 yX4_sign, Cond.instanceMethod yX4_sign, Cond.selects RX4 yX4_sign yX4_sign, Cond.code yX4_sign cX4_sign 4 (some .int), Cond.methodLink RX4 161 yX4_isNext, Cond.instanceMethod yX4_isNext, Cond.selects RX4 yX4_isNext yX4_isNext, Cond.code yX4_isNext cX4_isNext 3 (some .boolean), Cond.methodLink RX4 85 yX4_react, Cond.instanceMethod yX4_react, Cond.selects RX4 yX4_react yX4_react, Cond.code yX4_react cX4_react 3 (some .int), Cond.methodLink RX4 70 yX4_reactOne, Cond.instanceMethod yX4_reactOne, Cond.selects RX4 yX4_reactOne yX4_reactOne, Cond.code yX4_reactOne cX4_reactOne 5 none, Cond.methodLink RX4 56 yX4_storyOf, Cond.instanceMethod yX4_storyOf, Cond.selects RX4 yX4_storyOf yX4_storyOf]
def wsL_law_r10 : List Cond := [Cond.code yX4_storyOf cX4_storyOf 4 (some .int), Cond.methodLink RX4 60 yX4_first, Cond.instanceMethod yX4_first, Cond.selects RX4 yX4_first yX4_first, Cond.code yX4_first cX4_first 4 (some .int), Cond.methodLink RX4 63 yX4_split, Cond.instanceMethod yX4_split, Cond.selects RX4 yX4_split yX4_split, Cond.code yX4_split cX4_split 4 none, Cond.methodLink RX4 67 yX4_warm, Cond.instanceMethod yX4_warm, Cond.selects RX4 yX4_warm yX4_warm, Cond.code yX4_warm cX4_warm 4 none, Cond.methodLink RL 23 yX3_heat, Cond.instanceMethod yX3_heat, Cond.selects RX3 yX3_heat yX3_heat, Cond.code yX3_heat cX3_heat 4 (some .int), Cond.fieldLink RX3 98 "HeatedStories$Shelf" "starts" "[I", Cond.methodLink RX3 94 yX2_hasWord, Cond.instanceMethod yX2_hasWord, Cond.selects RX2 yX2_hasWord yX2_hasWord, Cond.code yX2_hasWord cX2_hasWord 3 (some .boolean), Cond.methodLink RX2 63 yX2_hasStory, Cond.instanceMethod yX2_hasStory]
def wsL_law_r11 : List Cond := [Cond.selects RX2 yX2_hasStory yX2_hasStory, Cond.code yX2_hasStory cX2_hasStory 2 (some .boolean), Cond.methodLink RX2 67 yX2_sizeOf, Cond.instanceMethod yX2_sizeOf, Cond.selects RX2 yX2_sizeOf yX2_sizeOf, Cond.code yX2_sizeOf cX2_sizeOf 2 (some .int), Cond.methodLink RX3 101 yX2_warm, Cond.methodLink RL 27 yX4_heat, Cond.instanceMethod yX4_heat, Cond.selects RX4 yX4_heat yX4_heat, Cond.code yX4_heat cX4_heat 4 (some .int), Cond.methodLink RX4 81 yX4_isWord, Cond.instanceMethod yX4_isWord, Cond.selects RX4 yX4_isWord yX4_isWord, Cond.code yX4_isWord cX4_isWord 3 (some .boolean), Cond.methodLink RX4 48 yX4_isStory, Cond.instanceMethod yX4_isStory, Cond.selects RX4 yX4_isStory yX4_isStory, Cond.code yX4_isStory cX4_isStory 2 (some .boolean), Cond.methodLink RL 28 yX3_read, Cond.instanceMethod yX3_read, Cond.selects RX3 yX3_read yX3_read, Cond.code yX3_read cX3_read 4 (some .int), Cond.methodLink RX3 105 yX2_hasStory]
def wsL_law_r12 : List Cond := [Cond.methodLink RL 31 yX4_read, Cond.instanceMethod yX4_read, Cond.selects RX4 yX4_read yX4_read, Cond.code yX4_read cX4_read 4 (some .int), Cond.methodLink RL 32 yX3_fuse, Cond.instanceMethod yX3_fuse, Cond.selects RX3 yX3_fuse yX3_fuse, Cond.code yX3_fuse cX3_fuse 5 (some .int), Cond.fieldLink RX3 124 "HeatedStories$Shelf" "generations" "[I", Cond.methodLink RX3 127 Lib.Math.max.name, Cond.methodLink RX3 109 yX2_themeOf, Cond.instanceMethod yX2_themeOf, Cond.selects RX2 yX2_themeOf yX2_themeOf, Cond.code yX2_themeOf cX2_themeOf 4 (some .int), Cond.methodLink RX2 108 yX2_tallyOf, Cond.instanceMethod yX2_tallyOf, Cond.selects RX2 yX2_tallyOf yX2_tallyOf, Cond.code yX2_tallyOf cX2_tallyOf 3 none, Cond.methodLink RX2 102 yJ7_fill_53178, Cond.static yJ7_fill_53178, Cond.initialized RJ7, Cond.code yJ7_fill_53178 cJ7_fill_53178 4 none, Cond.methodLink RX3 113 yX2_copyFrom, Cond.methodLink RX3 116 yX2_remove]
def wsL_law_r13 : List Cond := [Cond.instanceMethod yX2_remove, Cond.selects RX2 yX2_remove yX2_remove, Cond.code yX2_remove cX2_remove 7 none, Cond.methodLink RX3 120 yX2_append, Cond.instanceMethod yX2_append, Cond.selects RX2 yX2_append yX2_append, Cond.code yX2_append cX2_append 9 none, Cond.methodLink RL 35 yX4_fuse, Cond.instanceMethod yX4_fuse, Cond.selects RX4 yX4_fuse yX4_fuse, Cond.code yX4_fuse cX4_fuse 8 (some .int), Cond.methodLink RX4 89 yX4_theme, Cond.instanceMethod yX4_theme, Cond.selects RX4 yX4_theme yX4_theme, Cond.code yX4_theme cX4_theme 4 (some .int), Cond.methodLink RX4 74 yX4_times, Cond.instanceMethod yX4_times, Cond.selects RX4 yX4_times yX4_times, Cond.code yX4_times cX4_times 5 (some .int), Cond.methodLink RX4 92 yX4_removeWords, Cond.instanceMethod yX4_removeWords, Cond.selects RX4 yX4_removeWords yX4_removeWords, Cond.code yX4_removeWords cX4_removeWords 4 none, Cond.methodLink RX4 95 yX4_removeStory]
def wsL_law_r14 : List Cond := [Cond.instanceMethod yX4_removeStory, Cond.selects RX4 yX4_removeStory yX4_removeStory, Cond.code yX4_removeStory cX4_removeStory 3 none, Cond.methodLink RL 36 yX3_pass, Cond.instanceMethod yX3_pass, Cond.selects RX3 yX3_pass yX3_pass, Cond.code yX3_pass cX3_pass 4 (some .int), Cond.fieldLink RX3 133 "HeatedStories$Shelf" "heats" "[I", Cond.methodLink RX3 136 yX2_heatOfAll, Cond.instanceMethod yX2_heatOfAll, Cond.selects RX2 yX2_heatOfAll yX2_heatOfAll, Cond.code yX2_heatOfAll cX2_heatOfAll 1 (some .int), Cond.methodLink RX2 95 yX2_heatBetween, Cond.instanceMethod yX2_heatBetween, Cond.selects RX2 yX2_heatBetween yX2_heatBetween, Cond.code yX2_heatBetween cX2_heatBetween 5 (some .int), Cond.methodLink RL 40 yX4_pass, Cond.instanceMethod yX4_pass, Cond.selects RX4 yX4_pass yX4_pass, Cond.code yX4_pass cX4_pass 4 (some .int), Cond.methodLink RX4 98 yX4_allHeat, Cond.instanceMethod yX4_allHeat, Cond.selects RX4 yX4_allHeat yX4_allHeat, Cond.code yX4_allHeat cX4_allHeat 3 (some .int)]
def wsL_law_r15 : List Cond := [Cond.methodLink RL 41 yX3_burn, Cond.instanceMethod yX3_burn, Cond.selects RX3 yX3_burn yX3_burn, Cond.code yX3_burn cX3_burn 3 (some .int), Cond.methodLink RX3 139 yX2_sizeOf, Cond.methodLink RL 44 yX4_burn, Cond.instanceMethod yX4_burn, Cond.selects RX4 yX4_burn yX4_burn, Cond.code yX4_burn cX4_burn 3 (some .int), Cond.methodLink RL 45 yX3_word, Cond.instanceMethod yX3_word, Cond.selects RX3 yX3_word yX3_word, Cond.code yX3_word cX3_word 5 (some .int), Cond.fieldLink RX3 142 "HeatedStories$Shelf" "letters" "[I", Cond.methodLink RX3 145 yX2_timesIn, Cond.instanceMethod yX2_timesIn, Cond.selects RX2 yX2_timesIn yX2_timesIn, Cond.code yX2_timesIn cX2_timesIn 3 (some .int), Cond.methodLink RX2 98 yX2_timesBetween, Cond.instanceMethod yX2_timesBetween, Cond.selects RX2 yX2_timesBetween yX2_timesBetween, Cond.code yX2_timesBetween cX2_timesBetween 6 (some .int), Cond.methodLink RL 48 yX4_word, Cond.instanceMethod yX4_word]
def wsL_law_r16 : List Cond := [Cond.selects RX4 yX4_word yX4_word, Cond.code yX4_word cX4_word 5 (some .int), Cond.methodLink RL 49 yX3_story, Cond.instanceMethod yX3_story, Cond.selects RX3 yX3_story yX3_story, Cond.code yX3_story cX3_story 3 (some .int), Cond.fieldLink RX3 151 "HeatedStories$Shelf" "families" "[I", Cond.methodLink RX3 148 yX2_heatOf, Cond.instanceMethod yX2_heatOf, Cond.selects RX2 yX2_heatOf yX2_heatOf, Cond.code yX2_heatOf cX2_heatOf 2 (some .int), Cond.methodLink RX3 154 yX2_hottestOf, Cond.instanceMethod yX2_hottestOf, Cond.selects RX2 yX2_hottestOf yX2_hottestOf, Cond.code yX2_hottestOf cX2_hottestOf 4 (some .int), Cond.methodLink RX3 157 yX2_unlikeLettersOf, Cond.instanceMethod yX2_unlikeLettersOf, Cond.selects RX2 yX2_unlikeLettersOf yX2_unlikeLettersOf, Cond.code yX2_unlikeLettersOf cX2_unlikeLettersOf 4 (some .int), Cond.methodLink RX3 160 yX2_readsFromBothEnds, Cond.instanceMethod yX2_readsFromBothEnds, Cond.selects RX2 yX2_readsFromBothEnds yX2_readsFromBothEnds, Cond.code yX2_readsFromBothEnds cX2_readsFromBothEnds 4 (some .boolean), Cond.methodLink RL 52 yX4_story]
def wsL_law_r17 : List Cond := [Cond.instanceMethod yX4_story, Cond.selects RX4 yX4_story yX4_story, Cond.code yX4_story cX4_story 3 (some .int), Cond.methodLink RX4 101 yX4_heatOf, Cond.instanceMethod yX4_heatOf, Cond.selects RX4 yX4_heatOf yX4_heatOf, Cond.code yX4_heatOf cX4_heatOf 4 (some .int), Cond.methodLink RX4 104 yX4_hottest, Cond.instanceMethod yX4_hottest, Cond.selects RX4 yX4_hottest yX4_hottest, Cond.code yX4_hottest cX4_hottest 4 (some .int), Cond.methodLink RX4 107 yX4_unlike, Cond.instanceMethod yX4_unlike, Cond.selects RX4 yX4_unlike yX4_unlike, Cond.code yX4_unlike cX4_unlike 4 (some .int), Cond.methodLink RX4 110 yX4_isSameBackwards, Cond.instanceMethod yX4_isSameBackwards, Cond.selects RX4 yX4_isSameBackwards yX4_isSameBackwards, Cond.code yX4_isSameBackwards cX4_isSameBackwards 6 (some .int), Cond.methodLink RL 53 yX3_count, Cond.instanceMethod yX3_count, Cond.selects RX3 yX3_count yX3_count, Cond.code yX3_count cX3_count 2 (some .int), Cond.fieldLink RX3 166 "HeatedStories$Shelf" "splits" "I"]
def wsL_law_r18 : List Cond := [Cond.fieldLink RX3 169 "HeatedStories$Shelf" "boilings" "I", Cond.fieldLink RX3 172 "HeatedStories$Shelf" "fizzles" "I", Cond.fieldLink RX3 178 "HeatedStories$History" "size" "I", Cond.methodLink RX3 163 yX2_unlikeFamilies, Cond.instanceMethod yX2_unlikeFamilies, Cond.selects RX2 yX2_unlikeFamilies yX2_unlikeFamilies, Cond.code yX2_unlikeFamilies cX2_unlikeFamilies 3 (some .int), Cond.methodLink RX2 111 yX2_isFirstOfFamily, Cond.instanceMethod yX2_isFirstOfFamily, Cond.selects RX2 yX2_isFirstOfFamily yX2_isFirstOfFamily, Cond.code yX2_isFirstOfFamily cX2_isFirstOfFamily 3 (some .boolean), Cond.methodLink RX3 175 yX2_greatestGeneration, Cond.instanceMethod yX2_greatestGeneration, Cond.selects RX2 yX2_greatestGeneration yX2_greatestGeneration, Cond.code yX2_greatestGeneration cX2_greatestGeneration 3 (some .int), Cond.methodLink RL 56 yX4_count, Cond.instanceMethod yX4_count, Cond.selects RX4 yX4_count yX4_count, Cond.code yX4_count cX4_count 2 (some .int), Cond.methodLink RX4 113 yX4_families, Cond.instanceMethod yX4_families, Cond.selects RX4 yX4_families yX4_families, Cond.code yX4_families cX4_families 5 (some .int), Cond.methodLink RX4 116 yX4_greatest]
def wsL_law_r19 : List Cond := [Cond.instanceMethod yX4_greatest, Cond.selects RX4 yX4_greatest yX4_greatest, Cond.code yX4_greatest cX4_greatest 3 (some .int), Cond.methodLink RL 57 yX3_letter, Cond.instanceMethod yX3_letter, Cond.selects RX3 yX3_letter yX3_letter, Cond.code yX3_letter cX3_letter 3 (some .int), Cond.methodLink RX3 181 yX3_isLetter, Cond.static yX3_isLetter, Cond.code yX3_isLetter cX3_isLetter 1 (some .boolean), Cond.methodLink RX3 184 yX2_timesInAll, Cond.instanceMethod yX2_timesInAll, Cond.selects RX2 yX2_timesInAll yX2_timesInAll, Cond.code yX2_timesInAll cX2_timesInAll 2 (some .int), Cond.methodLink RX3 187 yX2_storiesWith, Cond.instanceMethod yX2_storiesWith, Cond.selects RX2 yX2_storiesWith yX2_storiesWith, Cond.code yX2_storiesWith cX2_storiesWith 4 (some .int), Cond.methodLink RX2 114 yX2_timesIn, Cond.methodLink RX3 190 yX2_storiesOfTheme, Cond.instanceMethod yX2_storiesOfTheme, Cond.selects RX2 yX2_storiesOfTheme yX2_storiesOfTheme, Cond.code yX2_storiesOfTheme cX2_storiesOfTheme 4 (some .int), Cond.methodLink RX2 117 yX2_themeOf]
def wsL_law_r20 : List Cond := [Cond.methodLink RX3 193 yX2_heatOfLetter, Cond.instanceMethod yX2_heatOfLetter, Cond.selects RX2 yX2_heatOfLetter yX2_heatOfLetter, Cond.code yX2_heatOfLetter cX2_heatOfLetter 4 (some .int), Cond.methodLink RL 60 yX4_letter, Cond.instanceMethod yX4_letter, Cond.selects RX4 yX4_letter yX4_letter, Cond.code yX4_letter cX4_letter 5 (some .int), Cond.methodLink RL 61 yX3_sideBySide, Cond.instanceMethod yX3_sideBySide, Cond.selects RX3 yX3_sideBySide yX3_sideBySide, Cond.code yX3_sideBySide cX3_sideBySide 7 (some .int), Cond.methodLink RX3 196 yX2_isPair, Cond.instanceMethod yX2_isPair, Cond.selects RX2 yX2_isPair yX2_isPair, Cond.code yX2_isPair cX2_isPair 4 (some .boolean), Cond.methodLink RX3 199 yX2_storyAt, Cond.methodLink RX3 202 yX2_placeOf, Cond.instanceMethod yX2_placeOf, Cond.selects RX2 yX2_placeOf yX2_placeOf, Cond.code yX2_placeOf cX2_placeOf 2 (some .int), Cond.methodLink RL 64 yX4_sideBySide, Cond.instanceMethod yX4_sideBySide, Cond.selects RX4 yX4_sideBySide yX4_sideBySide]
def wsL_law_r21 : List Cond := [Cond.code yX4_sideBySide cX4_sideBySide 11 (some .int), Cond.methodLink RL 65 yX3_common, Cond.instanceMethod yX3_common, Cond.selects RX3 yX3_common yX3_common, Cond.code yX3_common cX3_common 10 (some .int), Cond.methodLink RX3 205 yJ7_fill_53178, Cond.methodLink RL 68 yX4_common, Cond.instanceMethod yX4_common, Cond.selects RX4 yX4_common yX4_common, Cond.code yX4_common cX4_common 9 (some .int), Cond.methodLink RL 69 yX3_ifHeated, Cond.instanceMethod yX3_ifHeated, Cond.selects RX3 yX3_ifHeated yX3_ifHeated, Cond.code yX3_ifHeated cX3_ifHeated 6 (some .int), Cond.methodLink RX3 211 yX3_tryHeating, Cond.instanceMethod yX3_tryHeating, Cond.selects RX3 yX3_tryHeating yX3_tryHeating, Cond.code yX3_tryHeating cX3_tryHeating 3 (some .int), Cond.methodLink RL 73 yX4_ifHeated, Cond.instanceMethod yX4_ifHeated, Cond.selects RX4 yX4_ifHeated yX4_ifHeated, Cond.code yX4_ifHeated cX4_ifHeated 5 (some .int), Cond.fieldLink RX4 125 "HeatedStoriesModel" "reactions" "I", Cond.fieldLink RX4 128 "HeatedStoriesModel" "newSplits" "I"]
def wsL_law_r22 : List Cond := [Cond.fieldLink RX4 131 "HeatedStoriesModel" "storiesThen" "I", Cond.fieldLink RX4 134 "HeatedStoriesModel" "heatThen" "I", Cond.methodLink RX4 140 yX4_tryHeat, Cond.instanceMethod yX4_tryHeat, Cond.selects RX4 yX4_tryHeat yX4_tryHeat, Cond.code yX4_tryHeat cX4_tryHeat 3 none, Cond.methodLink RX4 122 yX4_putAside, Cond.instanceMethod yX4_putAside, Cond.selects RX4 yX4_putAside yX4_putAside, Cond.code yX4_putAside cX4_putAside 2 none, Cond.methodLink RX4 137 yX4_putBack, Cond.instanceMethod yX4_putBack, Cond.selects RX4 yX4_putBack yX4_putBack, Cond.code yX4_putBack cX4_putBack 2 none, Cond.methodLink RL 74 yX3_critical, Cond.instanceMethod yX3_critical, Cond.selects RX3 yX3_critical yX3_critical, Cond.code yX3_critical cX3_critical 7 (some .int), Cond.methodLink RX3 214 yX2_isCalm, Cond.instanceMethod yX2_isCalm, Cond.selects RX2 yX2_isCalm yX2_isCalm, Cond.code yX2_isCalm cX2_isCalm 2 (some .boolean), Cond.methodLink RL 77 yX4_critical, Cond.instanceMethod yX4_critical]
def wsL_law_r23 : List Cond := [Cond.selects RX4 yX4_critical yX4_critical, Cond.code yX4_critical cX4_critical 4 (some .int), Cond.methodLink RL 78 yX3_touchiest, Cond.instanceMethod yX3_touchiest, Cond.selects RX3 yX3_touchiest yX3_touchiest, Cond.code yX3_touchiest cX3_touchiest 9 (some .int), Cond.methodLink RL 81 yX4_touchiest, Cond.instanceMethod yX4_touchiest, Cond.selects RX4 yX4_touchiest yX4_touchiest, Cond.code yX4_touchiest cX4_touchiest 6 (some .int), Cond.methodLink RL 82 yX3_coolestPair, Cond.instanceMethod yX3_coolestPair, Cond.selects RX3 yX3_coolestPair yX3_coolestPair, Cond.code yX3_coolestPair cX3_coolestPair 8 (some .int), Cond.methodLink RL 85 yX4_coolestPair, Cond.instanceMethod yX4_coolestPair, Cond.selects RX4 yX4_coolestPair yX4_coolestPair, Cond.code yX4_coolestPair cX4_coolestPair 9 (some .int), Cond.methodLink RL 88 yX3_put, Cond.instanceMethod yX3_put, Cond.selects RX3 yX3_put yX3_put, Cond.code yX3_put cX3_put 4 (some .int), Cond.methodLink RX3 218 yX1_charactersIn, Cond.static yX1_charactersIn]
def wsL_law_r24 : List Cond := [Cond.code yX1_charactersIn cX1_charactersIn 5 (some .int), Cond.constantLong RX1 15 (255), Cond.methodLink RX3 222 yX1_add, Cond.instanceMethod yX1_add, Cond.selects RX1 yX1_add yX1_add, Cond.code yX1_add cX1_add 5 none, Cond.methodLink RL 92 yX4_put, Cond.instanceMethod yX4_put, Cond.selects RX4 yX4_put yX4_put, Cond.code yX4_put cX4_put 8 (some .int), Cond.constantLong RX4 143 (255), Cond.methodLink RL 93 yX3_wipe, Cond.instanceMethod yX3_wipe, Cond.selects RX3 yX3_wipe yX3_wipe, Cond.code yX3_wipe cX3_wipe 2 (some .int), Cond.methodLink RL 96 yX4_wipe, Cond.instanceMethod yX4_wipe, Cond.selects RX4 yX4_wipe yX4_wipe, Cond.code yX4_wipe cX4_wipe 2 (some .int), Cond.methodLink RL 97 yX3_fault, Cond.instanceMethod yX3_fault, Cond.selects RX3 yX3_fault yX3_fault, Cond.code yX3_fault cX3_fault 1 (some .int), Cond.methodLink RL 100 yX4_fault]
def wsL_law_r25 : List Cond := [Cond.instanceMethod yX4_fault, Cond.selects RX4 yX4_fault yX4_fault, Cond.code yX4_fault cX4_fault 1 (some .int), Cond.methodLink RL 101 yX3_undo, Cond.instanceMethod yX3_undo, Cond.selects RX3 yX3_undo yX3_undo, Cond.code yX3_undo cX3_undo 1 (some .int), Cond.methodLink RX3 226 yX0_takeBack, Cond.instanceMethod yX0_takeBack, Cond.selects RX0 yX0_takeBack yX0_takeBack, Cond.code yX0_takeBack cX0_takeBack 2 none, Cond.methodLink RL 104 yX4_undo, Cond.instanceMethod yX4_undo, Cond.selects RX4 yX4_undo yX4_undo, Cond.code yX4_undo cX4_undo 2 (some .int), Cond.methodLink RL 105 yX3_save, Cond.instanceMethod yX3_save, Cond.selects RX3 yX3_save yX3_save, Cond.code yX3_save cX3_save 2 (some .int), Cond.methodLink RL 108 yX4_save, Cond.instanceMethod yX4_save, Cond.selects RX4 yX4_save yX4_save, Cond.code yX4_save cX4_save 3 (some .int), Cond.methodLink RL 109 yX3_restore]
def wsL_law_r26 : List Cond := [Cond.instanceMethod yX3_restore, Cond.selects RX3 yX3_restore yX3_restore, Cond.code yX3_restore cX3_restore 2 (some .int), Cond.methodLink RL 112 yX4_restore, Cond.instanceMethod yX4_restore, Cond.selects RX4 yX4_restore yX4_restore, Cond.code yX4_restore cX4_restore 3 (some .int)]
def wsL_law : List Cond := (wsL_law_r1 ++ (wsL_law_r2 ++ (wsL_law_r3 ++ (wsL_law_r4 ++ (wsL_law_r5 ++ (wsL_law_r6 ++ (wsL_law_r7 ++ (wsL_law_r8 ++ (wsL_law_r9 ++ (wsL_law_r10 ++ (wsL_law_r11 ++ (wsL_law_r12 ++ (wsL_law_r13 ++ (wsL_law_r14 ++ (wsL_law_r15 ++ (wsL_law_r16 ++ (wsL_law_r17 ++ (wsL_law_r18 ++ (wsL_law_r19 ++ (wsL_law_r20 ++ (wsL_law_r21 ++ (wsL_law_r22 ++ (wsL_law_r23 ++ (wsL_law_r24 ++ (wsL_law_r25 ++ wsL_law_r26))))))))))))))))))))))))) ++ wsX30 ++ wsX40 ++ wsX20 ++ wsX00 ++ wsX10 ++ ([] : List Cond)
abbrev vwCl : List vw_C := [(RX0, TX0, 3), (RX1, TX1, 2), (RX2, TX2, 12), (RX3, TX3, 9), (RX4, TX4, 21)]
end
section
/-! BASE: one hypothesis for a world (GG), Option combinators for what the bytecode computes, entry and call lemmas -/
abbrev Ar : Type := Nat → Int32
def ix (i : Int32) (n : Nat) : Bool := !decide (i < 0) && decide (i.toNatClampNeg < n)
theorem ix_in {i : Int32} {n : Nat} (h : ix i n = true) : vp_in i n := by
  simp only [ix, Bool.and_eq_true, Bool.not_eq_true', decide_eq_false_iff_not, decide_eq_true_eq] at h
  intro hc
  rcases hc with hc | hc
  · exact h.1 hc
  · omega
theorem ix_lt {i : Int32} {n : Nat} (h : ix i n = true) : i.toNatClampNeg < n := by
  simp only [ix, Bool.and_eq_true, decide_eq_true_eq] at h
  exact h.2
theorem lt2 {k : Nat} (h : k < 2) : k = 0 ∨ k = 1 := by omega
theorem lt6 {k : Nat} (h : k < 6) : k = 0 ∨ k = 1 ∨ k = 2 ∨ k = 3 ∨ k = 4 ∨ k = 5 := by omega
abbrev lushr (x : Int64) (y : Int32) : Int64 := (x.toUInt64 >>> (y.toInt64.toUInt64 &&& Int64.toUInt64 63)).toInt64
abbrev lshl (x : Int64) (y : Int32) : Int64 := x <<< (y.toInt64 &&& 63)
abbrev i2c (x : Int32) : Int32 := (x.toUInt32 % 65536).toInt32
theorem ix_nI {i n : Nat} (h : i < n) (hn : n < 2 ^ 31) : ix (nI i) n = true := by
  have h2 : ¬ nI i < 0 := nI_pos (by omega)
  simp only [ix, h2, nI_clamp (show i < 2 ^ 31 by omega), h, decide_true, decide_false, Bool.not_false, Bool.and_self]
def gd {α : Type} (c : Bool) (x : Option α) : Option α := match c with
  | true => x
  | false => none
theorem gd_e {α : Type} {c : Bool} {x : Option α} {o : α} (h : gd c x = some o) : c = true ∧ x = some o := by
  cases c with
  | true => exact ⟨rfl, h⟩
  | false => exact absurd h (by simp [gd])
theorem gd_t {α : Type} {c : Bool} (h : c = true) (x : Option α) : gd c x = x := by subst h; rfl
def bd1 {α1 β : Type} (x : Option (α1)) (k : α1 → Option β) : Option β := match x with
  | none => none
  | some a => k a
theorem bd1_e {α1 β : Type} {x : Option (α1)} {k : α1 → Option β} {o : β} (h : bd1 x k = some o) : ∃ a1, x = some (a1) ∧ k a1 = some o := by
  cases x with
  | none => exact absurd h (by simp [bd1])
  | some a => exact ⟨a, rfl, h⟩
def bd2 {α1 α2 β : Type} (x : Option (α1 × α2)) (k : α1 → α2 → Option β) : Option β := match x with
  | none => none
  | some a => k a.1 a.2
theorem bd2_e {α1 α2 β : Type} {x : Option (α1 × α2)} {k : α1 → α2 → Option β} {o : β} (h : bd2 x k = some o) : ∃ a1 a2, x = some (a1, a2) ∧ k a1 a2 = some o := by
  cases x with
  | none => exact absurd h (by simp [bd2])
  | some a => exact ⟨a.1, a.2, rfl, h⟩
def bd3 {α1 α2 α3 β : Type} (x : Option (α1 × α2 × α3)) (k : α1 → α2 → α3 → Option β) : Option β := match x with
  | none => none
  | some a => k a.1 a.2.1 a.2.2
theorem bd3_e {α1 α2 α3 β : Type} {x : Option (α1 × α2 × α3)} {k : α1 → α2 → α3 → Option β} {o : β} (h : bd3 x k = some o) : ∃ a1 a2 a3, x = some (a1, a2, a3) ∧ k a1 a2 a3 = some o := by
  cases x with
  | none => exact absurd h (by simp [bd3])
  | some a => exact ⟨a.1, a.2.1, a.2.2, rfl, h⟩
def bd4 {α1 α2 α3 α4 β : Type} (x : Option (α1 × α2 × α3 × α4)) (k : α1 → α2 → α3 → α4 → Option β) : Option β := match x with
  | none => none
  | some a => k a.1 a.2.1 a.2.2.1 a.2.2.2
theorem bd4_e {α1 α2 α3 α4 β : Type} {x : Option (α1 × α2 × α3 × α4)} {k : α1 → α2 → α3 → α4 → Option β} {o : β} (h : bd4 x k = some o) : ∃ a1 a2 a3 a4, x = some (a1, a2, a3, a4) ∧ k a1 a2 a3 a4 = some o := by
  cases x with
  | none => exact absurd h (by simp [bd4])
  | some a => exact ⟨a.1, a.2.1, a.2.2.1, a.2.2.2, rfl, h⟩
def bd5 {α1 α2 α3 α4 α5 β : Type} (x : Option (α1 × α2 × α3 × α4 × α5)) (k : α1 → α2 → α3 → α4 → α5 → Option β) : Option β := match x with
  | none => none
  | some a => k a.1 a.2.1 a.2.2.1 a.2.2.2.1 a.2.2.2.2
theorem bd5_e {α1 α2 α3 α4 α5 β : Type} {x : Option (α1 × α2 × α3 × α4 × α5)} {k : α1 → α2 → α3 → α4 → α5 → Option β} {o : β} (h : bd5 x k = some o) : ∃ a1 a2 a3 a4 a5, x = some (a1, a2, a3, a4, a5) ∧ k a1 a2 a3 a4 a5 = some o := by
  cases x with
  | none => exact absurd h (by simp [bd5])
  | some a => exact ⟨a.1, a.2.1, a.2.2.1, a.2.2.2.1, a.2.2.2.2, rfl, h⟩
def bd6 {α1 α2 α3 α4 α5 α6 β : Type} (x : Option (α1 × α2 × α3 × α4 × α5 × α6)) (k : α1 → α2 → α3 → α4 → α5 → α6 → Option β) : Option β := match x with
  | none => none
  | some a => k a.1 a.2.1 a.2.2.1 a.2.2.2.1 a.2.2.2.2.1 a.2.2.2.2.2
theorem bd6_e {α1 α2 α3 α4 α5 α6 β : Type} {x : Option (α1 × α2 × α3 × α4 × α5 × α6)} {k : α1 → α2 → α3 → α4 → α5 → α6 → Option β} {o : β} (h : bd6 x k = some o) : ∃ a1 a2 a3 a4 a5 a6, x = some (a1, a2, a3, a4, a5, a6) ∧ k a1 a2 a3 a4 a5 a6 = some o := by
  cases x with
  | none => exact absurd h (by simp [bd6])
  | some a => exact ⟨a.1, a.2.1, a.2.2.1, a.2.2.2.1, a.2.2.2.2.1, a.2.2.2.2.2, rfl, h⟩
def bd7 {α1 α2 α3 α4 α5 α6 α7 β : Type} (x : Option (α1 × α2 × α3 × α4 × α5 × α6 × α7)) (k : α1 → α2 → α3 → α4 → α5 → α6 → α7 → Option β) : Option β := match x with
  | none => none
  | some a => k a.1 a.2.1 a.2.2.1 a.2.2.2.1 a.2.2.2.2.1 a.2.2.2.2.2.1 a.2.2.2.2.2.2
theorem bd7_e {α1 α2 α3 α4 α5 α6 α7 β : Type} {x : Option (α1 × α2 × α3 × α4 × α5 × α6 × α7)} {k : α1 → α2 → α3 → α4 → α5 → α6 → α7 → Option β} {o : β} (h : bd7 x k = some o) : ∃ a1 a2 a3 a4 a5 a6 a7, x = some (a1, a2, a3, a4, a5, a6, a7) ∧ k a1 a2 a3 a4 a5 a6 a7 = some o := by
  cases x with
  | none => exact absurd h (by simp [bd7])
  | some a => exact ⟨a.1, a.2.1, a.2.2.1, a.2.2.2.1, a.2.2.2.2.1, a.2.2.2.2.2.1, a.2.2.2.2.2.2, rfl, h⟩
def bd8 {α1 α2 α3 α4 α5 α6 α7 α8 β : Type} (x : Option (α1 × α2 × α3 × α4 × α5 × α6 × α7 × α8)) (k : α1 → α2 → α3 → α4 → α5 → α6 → α7 → α8 → Option β) : Option β := match x with
  | none => none
  | some a => k a.1 a.2.1 a.2.2.1 a.2.2.2.1 a.2.2.2.2.1 a.2.2.2.2.2.1 a.2.2.2.2.2.2.1 a.2.2.2.2.2.2.2
theorem bd8_e {α1 α2 α3 α4 α5 α6 α7 α8 β : Type} {x : Option (α1 × α2 × α3 × α4 × α5 × α6 × α7 × α8)} {k : α1 → α2 → α3 → α4 → α5 → α6 → α7 → α8 → Option β} {o : β} (h : bd8 x k = some o) : ∃ a1 a2 a3 a4 a5 a6 a7 a8, x = some (a1, a2, a3, a4, a5, a6, a7, a8) ∧ k a1 a2 a3 a4 a5 a6 a7 a8 = some o := by
  cases x with
  | none => exact absurd h (by simp [bd8])
  | some a => exact ⟨a.1, a.2.1, a.2.2.1, a.2.2.2.1, a.2.2.2.2.1, a.2.2.2.2.2.1, a.2.2.2.2.2.2.1, a.2.2.2.2.2.2.2, rfl, h⟩
def bd9 {α1 α2 α3 α4 α5 α6 α7 α8 α9 β : Type} (x : Option (α1 × α2 × α3 × α4 × α5 × α6 × α7 × α8 × α9)) (k : α1 → α2 → α3 → α4 → α5 → α6 → α7 → α8 → α9 → Option β) : Option β := match x with
  | none => none
  | some a => k a.1 a.2.1 a.2.2.1 a.2.2.2.1 a.2.2.2.2.1 a.2.2.2.2.2.1 a.2.2.2.2.2.2.1 a.2.2.2.2.2.2.2.1 a.2.2.2.2.2.2.2.2
theorem bd9_e {α1 α2 α3 α4 α5 α6 α7 α8 α9 β : Type} {x : Option (α1 × α2 × α3 × α4 × α5 × α6 × α7 × α8 × α9)} {k : α1 → α2 → α3 → α4 → α5 → α6 → α7 → α8 → α9 → Option β} {o : β} (h : bd9 x k = some o) : ∃ a1 a2 a3 a4 a5 a6 a7 a8 a9, x = some (a1, a2, a3, a4, a5, a6, a7, a8, a9) ∧ k a1 a2 a3 a4 a5 a6 a7 a8 a9 = some o := by
  cases x with
  | none => exact absurd h (by simp [bd9])
  | some a => exact ⟨a.1, a.2.1, a.2.2.1, a.2.2.2.1, a.2.2.2.2.1, a.2.2.2.2.2.1, a.2.2.2.2.2.2.1, a.2.2.2.2.2.2.2.1, a.2.2.2.2.2.2.2.2, rfl, h⟩
def bd10 {α1 α2 α3 α4 α5 α6 α7 α8 α9 α10 β : Type} (x : Option (α1 × α2 × α3 × α4 × α5 × α6 × α7 × α8 × α9 × α10)) (k : α1 → α2 → α3 → α4 → α5 → α6 → α7 → α8 → α9 → α10 → Option β) : Option β := match x with
  | none => none
  | some a => k a.1 a.2.1 a.2.2.1 a.2.2.2.1 a.2.2.2.2.1 a.2.2.2.2.2.1 a.2.2.2.2.2.2.1 a.2.2.2.2.2.2.2.1 a.2.2.2.2.2.2.2.2.1 a.2.2.2.2.2.2.2.2.2
theorem bd10_e {α1 α2 α3 α4 α5 α6 α7 α8 α9 α10 β : Type} {x : Option (α1 × α2 × α3 × α4 × α5 × α6 × α7 × α8 × α9 × α10)} {k : α1 → α2 → α3 → α4 → α5 → α6 → α7 → α8 → α9 → α10 → Option β} {o : β} (h : bd10 x k = some o) : ∃ a1 a2 a3 a4 a5 a6 a7 a8 a9 a10, x = some (a1, a2, a3, a4, a5, a6, a7, a8, a9, a10) ∧ k a1 a2 a3 a4 a5 a6 a7 a8 a9 a10 = some o := by
  cases x with
  | none => exact absurd h (by simp [bd10])
  | some a => exact ⟨a.1, a.2.1, a.2.2.1, a.2.2.2.1, a.2.2.2.2.1, a.2.2.2.2.2.1, a.2.2.2.2.2.2.1, a.2.2.2.2.2.2.2.1, a.2.2.2.2.2.2.2.2.1, a.2.2.2.2.2.2.2.2.2, rfl, h⟩
def bd11 {α1 α2 α3 α4 α5 α6 α7 α8 α9 α10 α11 β : Type} (x : Option (α1 × α2 × α3 × α4 × α5 × α6 × α7 × α8 × α9 × α10 × α11)) (k : α1 → α2 → α3 → α4 → α5 → α6 → α7 → α8 → α9 → α10 → α11 → Option β) : Option β := match x with
  | none => none
  | some a => k a.1 a.2.1 a.2.2.1 a.2.2.2.1 a.2.2.2.2.1 a.2.2.2.2.2.1 a.2.2.2.2.2.2.1 a.2.2.2.2.2.2.2.1 a.2.2.2.2.2.2.2.2.1 a.2.2.2.2.2.2.2.2.2.1 a.2.2.2.2.2.2.2.2.2.2
theorem bd11_e {α1 α2 α3 α4 α5 α6 α7 α8 α9 α10 α11 β : Type} {x : Option (α1 × α2 × α3 × α4 × α5 × α6 × α7 × α8 × α9 × α10 × α11)} {k : α1 → α2 → α3 → α4 → α5 → α6 → α7 → α8 → α9 → α10 → α11 → Option β} {o : β} (h : bd11 x k = some o) : ∃ a1 a2 a3 a4 a5 a6 a7 a8 a9 a10 a11, x = some (a1, a2, a3, a4, a5, a6, a7, a8, a9, a10, a11) ∧ k a1 a2 a3 a4 a5 a6 a7 a8 a9 a10 a11 = some o := by
  cases x with
  | none => exact absurd h (by simp [bd11])
  | some a => exact ⟨a.1, a.2.1, a.2.2.1, a.2.2.2.1, a.2.2.2.2.1, a.2.2.2.2.2.1, a.2.2.2.2.2.2.1, a.2.2.2.2.2.2.2.1, a.2.2.2.2.2.2.2.2.1, a.2.2.2.2.2.2.2.2.2.1, a.2.2.2.2.2.2.2.2.2.2, rfl, h⟩
def bd12 {α1 α2 α3 α4 α5 α6 α7 α8 α9 α10 α11 α12 β : Type} (x : Option (α1 × α2 × α3 × α4 × α5 × α6 × α7 × α8 × α9 × α10 × α11 × α12)) (k : α1 → α2 → α3 → α4 → α5 → α6 → α7 → α8 → α9 → α10 → α11 → α12 → Option β) : Option β := match x with
  | none => none
  | some a => k a.1 a.2.1 a.2.2.1 a.2.2.2.1 a.2.2.2.2.1 a.2.2.2.2.2.1 a.2.2.2.2.2.2.1 a.2.2.2.2.2.2.2.1 a.2.2.2.2.2.2.2.2.1 a.2.2.2.2.2.2.2.2.2.1 a.2.2.2.2.2.2.2.2.2.2.1 a.2.2.2.2.2.2.2.2.2.2.2
theorem bd12_e {α1 α2 α3 α4 α5 α6 α7 α8 α9 α10 α11 α12 β : Type} {x : Option (α1 × α2 × α3 × α4 × α5 × α6 × α7 × α8 × α9 × α10 × α11 × α12)} {k : α1 → α2 → α3 → α4 → α5 → α6 → α7 → α8 → α9 → α10 → α11 → α12 → Option β} {o : β} (h : bd12 x k = some o) : ∃ a1 a2 a3 a4 a5 a6 a7 a8 a9 a10 a11 a12, x = some (a1, a2, a3, a4, a5, a6, a7, a8, a9, a10, a11, a12) ∧ k a1 a2 a3 a4 a5 a6 a7 a8 a9 a10 a11 a12 = some o := by
  cases x with
  | none => exact absurd h (by simp [bd12])
  | some a => exact ⟨a.1, a.2.1, a.2.2.1, a.2.2.2.1, a.2.2.2.2.1, a.2.2.2.2.2.1, a.2.2.2.2.2.2.1, a.2.2.2.2.2.2.2.1, a.2.2.2.2.2.2.2.2.1, a.2.2.2.2.2.2.2.2.2.1, a.2.2.2.2.2.2.2.2.2.2.1, a.2.2.2.2.2.2.2.2.2.2.2, rfl, h⟩
def bd13 {α1 α2 α3 α4 α5 α6 α7 α8 α9 α10 α11 α12 α13 β : Type} (x : Option (α1 × α2 × α3 × α4 × α5 × α6 × α7 × α8 × α9 × α10 × α11 × α12 × α13)) (k : α1 → α2 → α3 → α4 → α5 → α6 → α7 → α8 → α9 → α10 → α11 → α12 → α13 → Option β) : Option β := match x with
  | none => none
  | some a => k a.1 a.2.1 a.2.2.1 a.2.2.2.1 a.2.2.2.2.1 a.2.2.2.2.2.1 a.2.2.2.2.2.2.1 a.2.2.2.2.2.2.2.1 a.2.2.2.2.2.2.2.2.1 a.2.2.2.2.2.2.2.2.2.1 a.2.2.2.2.2.2.2.2.2.2.1 a.2.2.2.2.2.2.2.2.2.2.2.1 a.2.2.2.2.2.2.2.2.2.2.2.2
theorem bd13_e {α1 α2 α3 α4 α5 α6 α7 α8 α9 α10 α11 α12 α13 β : Type} {x : Option (α1 × α2 × α3 × α4 × α5 × α6 × α7 × α8 × α9 × α10 × α11 × α12 × α13)} {k : α1 → α2 → α3 → α4 → α5 → α6 → α7 → α8 → α9 → α10 → α11 → α12 → α13 → Option β} {o : β} (h : bd13 x k = some o) : ∃ a1 a2 a3 a4 a5 a6 a7 a8 a9 a10 a11 a12 a13, x = some (a1, a2, a3, a4, a5, a6, a7, a8, a9, a10, a11, a12, a13) ∧ k a1 a2 a3 a4 a5 a6 a7 a8 a9 a10 a11 a12 a13 = some o := by
  cases x with
  | none => exact absurd h (by simp [bd13])
  | some a => exact ⟨a.1, a.2.1, a.2.2.1, a.2.2.2.1, a.2.2.2.2.1, a.2.2.2.2.2.1, a.2.2.2.2.2.2.1, a.2.2.2.2.2.2.2.1, a.2.2.2.2.2.2.2.2.1, a.2.2.2.2.2.2.2.2.2.1, a.2.2.2.2.2.2.2.2.2.2.1, a.2.2.2.2.2.2.2.2.2.2.2.1, a.2.2.2.2.2.2.2.2.2.2.2.2, rfl, h⟩
def bd14 {α1 α2 α3 α4 α5 α6 α7 α8 α9 α10 α11 α12 α13 α14 β : Type} (x : Option (α1 × α2 × α3 × α4 × α5 × α6 × α7 × α8 × α9 × α10 × α11 × α12 × α13 × α14)) (k : α1 → α2 → α3 → α4 → α5 → α6 → α7 → α8 → α9 → α10 → α11 → α12 → α13 → α14 → Option β) : Option β := match x with
  | none => none
  | some a => k a.1 a.2.1 a.2.2.1 a.2.2.2.1 a.2.2.2.2.1 a.2.2.2.2.2.1 a.2.2.2.2.2.2.1 a.2.2.2.2.2.2.2.1 a.2.2.2.2.2.2.2.2.1 a.2.2.2.2.2.2.2.2.2.1 a.2.2.2.2.2.2.2.2.2.2.1 a.2.2.2.2.2.2.2.2.2.2.2.1 a.2.2.2.2.2.2.2.2.2.2.2.2.1 a.2.2.2.2.2.2.2.2.2.2.2.2.2
theorem bd14_e {α1 α2 α3 α4 α5 α6 α7 α8 α9 α10 α11 α12 α13 α14 β : Type} {x : Option (α1 × α2 × α3 × α4 × α5 × α6 × α7 × α8 × α9 × α10 × α11 × α12 × α13 × α14)} {k : α1 → α2 → α3 → α4 → α5 → α6 → α7 → α8 → α9 → α10 → α11 → α12 → α13 → α14 → Option β} {o : β} (h : bd14 x k = some o) : ∃ a1 a2 a3 a4 a5 a6 a7 a8 a9 a10 a11 a12 a13 a14, x = some (a1, a2, a3, a4, a5, a6, a7, a8, a9, a10, a11, a12, a13, a14) ∧ k a1 a2 a3 a4 a5 a6 a7 a8 a9 a10 a11 a12 a13 a14 = some o := by
  cases x with
  | none => exact absurd h (by simp [bd14])
  | some a => exact ⟨a.1, a.2.1, a.2.2.1, a.2.2.2.1, a.2.2.2.2.1, a.2.2.2.2.2.1, a.2.2.2.2.2.2.1, a.2.2.2.2.2.2.2.1, a.2.2.2.2.2.2.2.2.1, a.2.2.2.2.2.2.2.2.2.1, a.2.2.2.2.2.2.2.2.2.2.1, a.2.2.2.2.2.2.2.2.2.2.2.1, a.2.2.2.2.2.2.2.2.2.2.2.2.1, a.2.2.2.2.2.2.2.2.2.2.2.2.2, rfl, h⟩
def bd15 {α1 α2 α3 α4 α5 α6 α7 α8 α9 α10 α11 α12 α13 α14 α15 β : Type} (x : Option (α1 × α2 × α3 × α4 × α5 × α6 × α7 × α8 × α9 × α10 × α11 × α12 × α13 × α14 × α15)) (k : α1 → α2 → α3 → α4 → α5 → α6 → α7 → α8 → α9 → α10 → α11 → α12 → α13 → α14 → α15 → Option β) : Option β := match x with
  | none => none
  | some a => k a.1 a.2.1 a.2.2.1 a.2.2.2.1 a.2.2.2.2.1 a.2.2.2.2.2.1 a.2.2.2.2.2.2.1 a.2.2.2.2.2.2.2.1 a.2.2.2.2.2.2.2.2.1 a.2.2.2.2.2.2.2.2.2.1 a.2.2.2.2.2.2.2.2.2.2.1 a.2.2.2.2.2.2.2.2.2.2.2.1 a.2.2.2.2.2.2.2.2.2.2.2.2.1 a.2.2.2.2.2.2.2.2.2.2.2.2.2.1 a.2.2.2.2.2.2.2.2.2.2.2.2.2.2
theorem bd15_e {α1 α2 α3 α4 α5 α6 α7 α8 α9 α10 α11 α12 α13 α14 α15 β : Type} {x : Option (α1 × α2 × α3 × α4 × α5 × α6 × α7 × α8 × α9 × α10 × α11 × α12 × α13 × α14 × α15)} {k : α1 → α2 → α3 → α4 → α5 → α6 → α7 → α8 → α9 → α10 → α11 → α12 → α13 → α14 → α15 → Option β} {o : β} (h : bd15 x k = some o) : ∃ a1 a2 a3 a4 a5 a6 a7 a8 a9 a10 a11 a12 a13 a14 a15, x = some (a1, a2, a3, a4, a5, a6, a7, a8, a9, a10, a11, a12, a13, a14, a15) ∧ k a1 a2 a3 a4 a5 a6 a7 a8 a9 a10 a11 a12 a13 a14 a15 = some o := by
  cases x with
  | none => exact absurd h (by simp [bd15])
  | some a => exact ⟨a.1, a.2.1, a.2.2.1, a.2.2.2.1, a.2.2.2.2.1, a.2.2.2.2.2.1, a.2.2.2.2.2.2.1, a.2.2.2.2.2.2.2.1, a.2.2.2.2.2.2.2.2.1, a.2.2.2.2.2.2.2.2.2.1, a.2.2.2.2.2.2.2.2.2.2.1, a.2.2.2.2.2.2.2.2.2.2.2.1, a.2.2.2.2.2.2.2.2.2.2.2.2.1, a.2.2.2.2.2.2.2.2.2.2.2.2.2.1, a.2.2.2.2.2.2.2.2.2.2.2.2.2.2, rfl, h⟩
def bd16 {α1 α2 α3 α4 α5 α6 α7 α8 α9 α10 α11 α12 α13 α14 α15 α16 β : Type} (x : Option (α1 × α2 × α3 × α4 × α5 × α6 × α7 × α8 × α9 × α10 × α11 × α12 × α13 × α14 × α15 × α16)) (k : α1 → α2 → α3 → α4 → α5 → α6 → α7 → α8 → α9 → α10 → α11 → α12 → α13 → α14 → α15 → α16 → Option β) : Option β := match x with
  | none => none
  | some a => k a.1 a.2.1 a.2.2.1 a.2.2.2.1 a.2.2.2.2.1 a.2.2.2.2.2.1 a.2.2.2.2.2.2.1 a.2.2.2.2.2.2.2.1 a.2.2.2.2.2.2.2.2.1 a.2.2.2.2.2.2.2.2.2.1 a.2.2.2.2.2.2.2.2.2.2.1 a.2.2.2.2.2.2.2.2.2.2.2.1 a.2.2.2.2.2.2.2.2.2.2.2.2.1 a.2.2.2.2.2.2.2.2.2.2.2.2.2.1 a.2.2.2.2.2.2.2.2.2.2.2.2.2.2.1 a.2.2.2.2.2.2.2.2.2.2.2.2.2.2.2
theorem bd16_e {α1 α2 α3 α4 α5 α6 α7 α8 α9 α10 α11 α12 α13 α14 α15 α16 β : Type} {x : Option (α1 × α2 × α3 × α4 × α5 × α6 × α7 × α8 × α9 × α10 × α11 × α12 × α13 × α14 × α15 × α16)} {k : α1 → α2 → α3 → α4 → α5 → α6 → α7 → α8 → α9 → α10 → α11 → α12 → α13 → α14 → α15 → α16 → Option β} {o : β} (h : bd16 x k = some o) : ∃ a1 a2 a3 a4 a5 a6 a7 a8 a9 a10 a11 a12 a13 a14 a15 a16, x = some (a1, a2, a3, a4, a5, a6, a7, a8, a9, a10, a11, a12, a13, a14, a15, a16) ∧ k a1 a2 a3 a4 a5 a6 a7 a8 a9 a10 a11 a12 a13 a14 a15 a16 = some o := by
  cases x with
  | none => exact absurd h (by simp [bd16])
  | some a => exact ⟨a.1, a.2.1, a.2.2.1, a.2.2.2.1, a.2.2.2.2.1, a.2.2.2.2.2.1, a.2.2.2.2.2.2.1, a.2.2.2.2.2.2.2.1, a.2.2.2.2.2.2.2.2.1, a.2.2.2.2.2.2.2.2.2.1, a.2.2.2.2.2.2.2.2.2.2.1, a.2.2.2.2.2.2.2.2.2.2.2.1, a.2.2.2.2.2.2.2.2.2.2.2.2.1, a.2.2.2.2.2.2.2.2.2.2.2.2.2.1, a.2.2.2.2.2.2.2.2.2.2.2.2.2.2.1, a.2.2.2.2.2.2.2.2.2.2.2.2.2.2.2, rfl, h⟩
def bd17 {α1 α2 α3 α4 α5 α6 α7 α8 α9 α10 α11 α12 α13 α14 α15 α16 α17 β : Type} (x : Option (α1 × α2 × α3 × α4 × α5 × α6 × α7 × α8 × α9 × α10 × α11 × α12 × α13 × α14 × α15 × α16 × α17)) (k : α1 → α2 → α3 → α4 → α5 → α6 → α7 → α8 → α9 → α10 → α11 → α12 → α13 → α14 → α15 → α16 → α17 → Option β) : Option β := match x with
  | none => none
  | some a => k a.1 a.2.1 a.2.2.1 a.2.2.2.1 a.2.2.2.2.1 a.2.2.2.2.2.1 a.2.2.2.2.2.2.1 a.2.2.2.2.2.2.2.1 a.2.2.2.2.2.2.2.2.1 a.2.2.2.2.2.2.2.2.2.1 a.2.2.2.2.2.2.2.2.2.2.1 a.2.2.2.2.2.2.2.2.2.2.2.1 a.2.2.2.2.2.2.2.2.2.2.2.2.1 a.2.2.2.2.2.2.2.2.2.2.2.2.2.1 a.2.2.2.2.2.2.2.2.2.2.2.2.2.2.1 a.2.2.2.2.2.2.2.2.2.2.2.2.2.2.2.1 a.2.2.2.2.2.2.2.2.2.2.2.2.2.2.2.2
theorem bd17_e {α1 α2 α3 α4 α5 α6 α7 α8 α9 α10 α11 α12 α13 α14 α15 α16 α17 β : Type} {x : Option (α1 × α2 × α3 × α4 × α5 × α6 × α7 × α8 × α9 × α10 × α11 × α12 × α13 × α14 × α15 × α16 × α17)} {k : α1 → α2 → α3 → α4 → α5 → α6 → α7 → α8 → α9 → α10 → α11 → α12 → α13 → α14 → α15 → α16 → α17 → Option β} {o : β} (h : bd17 x k = some o) : ∃ a1 a2 a3 a4 a5 a6 a7 a8 a9 a10 a11 a12 a13 a14 a15 a16 a17, x = some (a1, a2, a3, a4, a5, a6, a7, a8, a9, a10, a11, a12, a13, a14, a15, a16, a17) ∧ k a1 a2 a3 a4 a5 a6 a7 a8 a9 a10 a11 a12 a13 a14 a15 a16 a17 = some o := by
  cases x with
  | none => exact absurd h (by simp [bd17])
  | some a => exact ⟨a.1, a.2.1, a.2.2.1, a.2.2.2.1, a.2.2.2.2.1, a.2.2.2.2.2.1, a.2.2.2.2.2.2.1, a.2.2.2.2.2.2.2.1, a.2.2.2.2.2.2.2.2.1, a.2.2.2.2.2.2.2.2.2.1, a.2.2.2.2.2.2.2.2.2.2.1, a.2.2.2.2.2.2.2.2.2.2.2.1, a.2.2.2.2.2.2.2.2.2.2.2.2.1, a.2.2.2.2.2.2.2.2.2.2.2.2.2.1, a.2.2.2.2.2.2.2.2.2.2.2.2.2.2.1, a.2.2.2.2.2.2.2.2.2.2.2.2.2.2.2.1, a.2.2.2.2.2.2.2.2.2.2.2.2.2.2.2.2, rfl, h⟩
def bd18 {α1 α2 α3 α4 α5 α6 α7 α8 α9 α10 α11 α12 α13 α14 α15 α16 α17 α18 β : Type} (x : Option (α1 × α2 × α3 × α4 × α5 × α6 × α7 × α8 × α9 × α10 × α11 × α12 × α13 × α14 × α15 × α16 × α17 × α18)) (k : α1 → α2 → α3 → α4 → α5 → α6 → α7 → α8 → α9 → α10 → α11 → α12 → α13 → α14 → α15 → α16 → α17 → α18 → Option β) : Option β := match x with
  | none => none
  | some a => k a.1 a.2.1 a.2.2.1 a.2.2.2.1 a.2.2.2.2.1 a.2.2.2.2.2.1 a.2.2.2.2.2.2.1 a.2.2.2.2.2.2.2.1 a.2.2.2.2.2.2.2.2.1 a.2.2.2.2.2.2.2.2.2.1 a.2.2.2.2.2.2.2.2.2.2.1 a.2.2.2.2.2.2.2.2.2.2.2.1 a.2.2.2.2.2.2.2.2.2.2.2.2.1 a.2.2.2.2.2.2.2.2.2.2.2.2.2.1 a.2.2.2.2.2.2.2.2.2.2.2.2.2.2.1 a.2.2.2.2.2.2.2.2.2.2.2.2.2.2.2.1 a.2.2.2.2.2.2.2.2.2.2.2.2.2.2.2.2.1 a.2.2.2.2.2.2.2.2.2.2.2.2.2.2.2.2.2
theorem bd18_e {α1 α2 α3 α4 α5 α6 α7 α8 α9 α10 α11 α12 α13 α14 α15 α16 α17 α18 β : Type} {x : Option (α1 × α2 × α3 × α4 × α5 × α6 × α7 × α8 × α9 × α10 × α11 × α12 × α13 × α14 × α15 × α16 × α17 × α18)} {k : α1 → α2 → α3 → α4 → α5 → α6 → α7 → α8 → α9 → α10 → α11 → α12 → α13 → α14 → α15 → α16 → α17 → α18 → Option β} {o : β} (h : bd18 x k = some o) : ∃ a1 a2 a3 a4 a5 a6 a7 a8 a9 a10 a11 a12 a13 a14 a15 a16 a17 a18, x = some (a1, a2, a3, a4, a5, a6, a7, a8, a9, a10, a11, a12, a13, a14, a15, a16, a17, a18) ∧ k a1 a2 a3 a4 a5 a6 a7 a8 a9 a10 a11 a12 a13 a14 a15 a16 a17 a18 = some o := by
  cases x with
  | none => exact absurd h (by simp [bd18])
  | some a => exact ⟨a.1, a.2.1, a.2.2.1, a.2.2.2.1, a.2.2.2.2.1, a.2.2.2.2.2.1, a.2.2.2.2.2.2.1, a.2.2.2.2.2.2.2.1, a.2.2.2.2.2.2.2.2.1, a.2.2.2.2.2.2.2.2.2.1, a.2.2.2.2.2.2.2.2.2.2.1, a.2.2.2.2.2.2.2.2.2.2.2.1, a.2.2.2.2.2.2.2.2.2.2.2.2.1, a.2.2.2.2.2.2.2.2.2.2.2.2.2.1, a.2.2.2.2.2.2.2.2.2.2.2.2.2.2.1, a.2.2.2.2.2.2.2.2.2.2.2.2.2.2.2.1, a.2.2.2.2.2.2.2.2.2.2.2.2.2.2.2.2.1, a.2.2.2.2.2.2.2.2.2.2.2.2.2.2.2.2.2, rfl, h⟩
def bd19 {α1 α2 α3 α4 α5 α6 α7 α8 α9 α10 α11 α12 α13 α14 α15 α16 α17 α18 α19 β : Type} (x : Option (α1 × α2 × α3 × α4 × α5 × α6 × α7 × α8 × α9 × α10 × α11 × α12 × α13 × α14 × α15 × α16 × α17 × α18 × α19)) (k : α1 → α2 → α3 → α4 → α5 → α6 → α7 → α8 → α9 → α10 → α11 → α12 → α13 → α14 → α15 → α16 → α17 → α18 → α19 → Option β) : Option β := match x with
  | none => none
  | some a => k a.1 a.2.1 a.2.2.1 a.2.2.2.1 a.2.2.2.2.1 a.2.2.2.2.2.1 a.2.2.2.2.2.2.1 a.2.2.2.2.2.2.2.1 a.2.2.2.2.2.2.2.2.1 a.2.2.2.2.2.2.2.2.2.1 a.2.2.2.2.2.2.2.2.2.2.1 a.2.2.2.2.2.2.2.2.2.2.2.1 a.2.2.2.2.2.2.2.2.2.2.2.2.1 a.2.2.2.2.2.2.2.2.2.2.2.2.2.1 a.2.2.2.2.2.2.2.2.2.2.2.2.2.2.1 a.2.2.2.2.2.2.2.2.2.2.2.2.2.2.2.1 a.2.2.2.2.2.2.2.2.2.2.2.2.2.2.2.2.1 a.2.2.2.2.2.2.2.2.2.2.2.2.2.2.2.2.2.1 a.2.2.2.2.2.2.2.2.2.2.2.2.2.2.2.2.2.2
theorem bd19_e {α1 α2 α3 α4 α5 α6 α7 α8 α9 α10 α11 α12 α13 α14 α15 α16 α17 α18 α19 β : Type} {x : Option (α1 × α2 × α3 × α4 × α5 × α6 × α7 × α8 × α9 × α10 × α11 × α12 × α13 × α14 × α15 × α16 × α17 × α18 × α19)} {k : α1 → α2 → α3 → α4 → α5 → α6 → α7 → α8 → α9 → α10 → α11 → α12 → α13 → α14 → α15 → α16 → α17 → α18 → α19 → Option β} {o : β} (h : bd19 x k = some o) : ∃ a1 a2 a3 a4 a5 a6 a7 a8 a9 a10 a11 a12 a13 a14 a15 a16 a17 a18 a19, x = some (a1, a2, a3, a4, a5, a6, a7, a8, a9, a10, a11, a12, a13, a14, a15, a16, a17, a18, a19) ∧ k a1 a2 a3 a4 a5 a6 a7 a8 a9 a10 a11 a12 a13 a14 a15 a16 a17 a18 a19 = some o := by
  cases x with
  | none => exact absurd h (by simp [bd19])
  | some a => exact ⟨a.1, a.2.1, a.2.2.1, a.2.2.2.1, a.2.2.2.2.1, a.2.2.2.2.2.1, a.2.2.2.2.2.2.1, a.2.2.2.2.2.2.2.1, a.2.2.2.2.2.2.2.2.1, a.2.2.2.2.2.2.2.2.2.1, a.2.2.2.2.2.2.2.2.2.2.1, a.2.2.2.2.2.2.2.2.2.2.2.1, a.2.2.2.2.2.2.2.2.2.2.2.2.1, a.2.2.2.2.2.2.2.2.2.2.2.2.2.1, a.2.2.2.2.2.2.2.2.2.2.2.2.2.2.1, a.2.2.2.2.2.2.2.2.2.2.2.2.2.2.2.1, a.2.2.2.2.2.2.2.2.2.2.2.2.2.2.2.2.1, a.2.2.2.2.2.2.2.2.2.2.2.2.2.2.2.2.2.1, a.2.2.2.2.2.2.2.2.2.2.2.2.2.2.2.2.2.2, rfl, h⟩
def bd20 {α1 α2 α3 α4 α5 α6 α7 α8 α9 α10 α11 α12 α13 α14 α15 α16 α17 α18 α19 α20 β : Type} (x : Option (α1 × α2 × α3 × α4 × α5 × α6 × α7 × α8 × α9 × α10 × α11 × α12 × α13 × α14 × α15 × α16 × α17 × α18 × α19 × α20)) (k : α1 → α2 → α3 → α4 → α5 → α6 → α7 → α8 → α9 → α10 → α11 → α12 → α13 → α14 → α15 → α16 → α17 → α18 → α19 → α20 → Option β) : Option β := match x with
  | none => none
  | some a => k a.1 a.2.1 a.2.2.1 a.2.2.2.1 a.2.2.2.2.1 a.2.2.2.2.2.1 a.2.2.2.2.2.2.1 a.2.2.2.2.2.2.2.1 a.2.2.2.2.2.2.2.2.1 a.2.2.2.2.2.2.2.2.2.1 a.2.2.2.2.2.2.2.2.2.2.1 a.2.2.2.2.2.2.2.2.2.2.2.1 a.2.2.2.2.2.2.2.2.2.2.2.2.1 a.2.2.2.2.2.2.2.2.2.2.2.2.2.1 a.2.2.2.2.2.2.2.2.2.2.2.2.2.2.1 a.2.2.2.2.2.2.2.2.2.2.2.2.2.2.2.1 a.2.2.2.2.2.2.2.2.2.2.2.2.2.2.2.2.1 a.2.2.2.2.2.2.2.2.2.2.2.2.2.2.2.2.2.1 a.2.2.2.2.2.2.2.2.2.2.2.2.2.2.2.2.2.2.1 a.2.2.2.2.2.2.2.2.2.2.2.2.2.2.2.2.2.2.2
theorem bd20_e {α1 α2 α3 α4 α5 α6 α7 α8 α9 α10 α11 α12 α13 α14 α15 α16 α17 α18 α19 α20 β : Type} {x : Option (α1 × α2 × α3 × α4 × α5 × α6 × α7 × α8 × α9 × α10 × α11 × α12 × α13 × α14 × α15 × α16 × α17 × α18 × α19 × α20)} {k : α1 → α2 → α3 → α4 → α5 → α6 → α7 → α8 → α9 → α10 → α11 → α12 → α13 → α14 → α15 → α16 → α17 → α18 → α19 → α20 → Option β} {o : β} (h : bd20 x k = some o) : ∃ a1 a2 a3 a4 a5 a6 a7 a8 a9 a10 a11 a12 a13 a14 a15 a16 a17 a18 a19 a20, x = some (a1, a2, a3, a4, a5, a6, a7, a8, a9, a10, a11, a12, a13, a14, a15, a16, a17, a18, a19, a20) ∧ k a1 a2 a3 a4 a5 a6 a7 a8 a9 a10 a11 a12 a13 a14 a15 a16 a17 a18 a19 a20 = some o := by
  cases x with
  | none => exact absurd h (by simp [bd20])
  | some a => exact ⟨a.1, a.2.1, a.2.2.1, a.2.2.2.1, a.2.2.2.2.1, a.2.2.2.2.2.1, a.2.2.2.2.2.2.1, a.2.2.2.2.2.2.2.1, a.2.2.2.2.2.2.2.2.1, a.2.2.2.2.2.2.2.2.2.1, a.2.2.2.2.2.2.2.2.2.2.1, a.2.2.2.2.2.2.2.2.2.2.2.1, a.2.2.2.2.2.2.2.2.2.2.2.2.1, a.2.2.2.2.2.2.2.2.2.2.2.2.2.1, a.2.2.2.2.2.2.2.2.2.2.2.2.2.2.1, a.2.2.2.2.2.2.2.2.2.2.2.2.2.2.2.1, a.2.2.2.2.2.2.2.2.2.2.2.2.2.2.2.2.1, a.2.2.2.2.2.2.2.2.2.2.2.2.2.2.2.2.2.1, a.2.2.2.2.2.2.2.2.2.2.2.2.2.2.2.2.2.2.1, a.2.2.2.2.2.2.2.2.2.2.2.2.2.2.2.2.2.2.2, rfl, h⟩
def bd21 {α1 α2 α3 α4 α5 α6 α7 α8 α9 α10 α11 α12 α13 α14 α15 α16 α17 α18 α19 α20 α21 β : Type} (x : Option (α1 × α2 × α3 × α4 × α5 × α6 × α7 × α8 × α9 × α10 × α11 × α12 × α13 × α14 × α15 × α16 × α17 × α18 × α19 × α20 × α21)) (k : α1 → α2 → α3 → α4 → α5 → α6 → α7 → α8 → α9 → α10 → α11 → α12 → α13 → α14 → α15 → α16 → α17 → α18 → α19 → α20 → α21 → Option β) : Option β := match x with
  | none => none
  | some a => k a.1 a.2.1 a.2.2.1 a.2.2.2.1 a.2.2.2.2.1 a.2.2.2.2.2.1 a.2.2.2.2.2.2.1 a.2.2.2.2.2.2.2.1 a.2.2.2.2.2.2.2.2.1 a.2.2.2.2.2.2.2.2.2.1 a.2.2.2.2.2.2.2.2.2.2.1 a.2.2.2.2.2.2.2.2.2.2.2.1 a.2.2.2.2.2.2.2.2.2.2.2.2.1 a.2.2.2.2.2.2.2.2.2.2.2.2.2.1 a.2.2.2.2.2.2.2.2.2.2.2.2.2.2.1 a.2.2.2.2.2.2.2.2.2.2.2.2.2.2.2.1 a.2.2.2.2.2.2.2.2.2.2.2.2.2.2.2.2.1 a.2.2.2.2.2.2.2.2.2.2.2.2.2.2.2.2.2.1 a.2.2.2.2.2.2.2.2.2.2.2.2.2.2.2.2.2.2.1 a.2.2.2.2.2.2.2.2.2.2.2.2.2.2.2.2.2.2.2.1 a.2.2.2.2.2.2.2.2.2.2.2.2.2.2.2.2.2.2.2.2
theorem bd21_e {α1 α2 α3 α4 α5 α6 α7 α8 α9 α10 α11 α12 α13 α14 α15 α16 α17 α18 α19 α20 α21 β : Type} {x : Option (α1 × α2 × α3 × α4 × α5 × α6 × α7 × α8 × α9 × α10 × α11 × α12 × α13 × α14 × α15 × α16 × α17 × α18 × α19 × α20 × α21)} {k : α1 → α2 → α3 → α4 → α5 → α6 → α7 → α8 → α9 → α10 → α11 → α12 → α13 → α14 → α15 → α16 → α17 → α18 → α19 → α20 → α21 → Option β} {o : β} (h : bd21 x k = some o) : ∃ a1 a2 a3 a4 a5 a6 a7 a8 a9 a10 a11 a12 a13 a14 a15 a16 a17 a18 a19 a20 a21, x = some (a1, a2, a3, a4, a5, a6, a7, a8, a9, a10, a11, a12, a13, a14, a15, a16, a17, a18, a19, a20, a21) ∧ k a1 a2 a3 a4 a5 a6 a7 a8 a9 a10 a11 a12 a13 a14 a15 a16 a17 a18 a19 a20 a21 = some o := by
  cases x with
  | none => exact absurd h (by simp [bd21])
  | some a => exact ⟨a.1, a.2.1, a.2.2.1, a.2.2.2.1, a.2.2.2.2.1, a.2.2.2.2.2.1, a.2.2.2.2.2.2.1, a.2.2.2.2.2.2.2.1, a.2.2.2.2.2.2.2.2.1, a.2.2.2.2.2.2.2.2.2.1, a.2.2.2.2.2.2.2.2.2.2.1, a.2.2.2.2.2.2.2.2.2.2.2.1, a.2.2.2.2.2.2.2.2.2.2.2.2.1, a.2.2.2.2.2.2.2.2.2.2.2.2.2.1, a.2.2.2.2.2.2.2.2.2.2.2.2.2.2.1, a.2.2.2.2.2.2.2.2.2.2.2.2.2.2.2.1, a.2.2.2.2.2.2.2.2.2.2.2.2.2.2.2.2.1, a.2.2.2.2.2.2.2.2.2.2.2.2.2.2.2.2.2.1, a.2.2.2.2.2.2.2.2.2.2.2.2.2.2.2.2.2.2.1, a.2.2.2.2.2.2.2.2.2.2.2.2.2.2.2.2.2.2.2.1, a.2.2.2.2.2.2.2.2.2.2.2.2.2.2.2.2.2.2.2.2, rfl, h⟩
def bd22 {α1 α2 α3 α4 α5 α6 α7 α8 α9 α10 α11 α12 α13 α14 α15 α16 α17 α18 α19 α20 α21 α22 β : Type} (x : Option (α1 × α2 × α3 × α4 × α5 × α6 × α7 × α8 × α9 × α10 × α11 × α12 × α13 × α14 × α15 × α16 × α17 × α18 × α19 × α20 × α21 × α22)) (k : α1 → α2 → α3 → α4 → α5 → α6 → α7 → α8 → α9 → α10 → α11 → α12 → α13 → α14 → α15 → α16 → α17 → α18 → α19 → α20 → α21 → α22 → Option β) : Option β := match x with
  | none => none
  | some a => k a.1 a.2.1 a.2.2.1 a.2.2.2.1 a.2.2.2.2.1 a.2.2.2.2.2.1 a.2.2.2.2.2.2.1 a.2.2.2.2.2.2.2.1 a.2.2.2.2.2.2.2.2.1 a.2.2.2.2.2.2.2.2.2.1 a.2.2.2.2.2.2.2.2.2.2.1 a.2.2.2.2.2.2.2.2.2.2.2.1 a.2.2.2.2.2.2.2.2.2.2.2.2.1 a.2.2.2.2.2.2.2.2.2.2.2.2.2.1 a.2.2.2.2.2.2.2.2.2.2.2.2.2.2.1 a.2.2.2.2.2.2.2.2.2.2.2.2.2.2.2.1 a.2.2.2.2.2.2.2.2.2.2.2.2.2.2.2.2.1 a.2.2.2.2.2.2.2.2.2.2.2.2.2.2.2.2.2.1 a.2.2.2.2.2.2.2.2.2.2.2.2.2.2.2.2.2.2.1 a.2.2.2.2.2.2.2.2.2.2.2.2.2.2.2.2.2.2.2.1 a.2.2.2.2.2.2.2.2.2.2.2.2.2.2.2.2.2.2.2.2.1 a.2.2.2.2.2.2.2.2.2.2.2.2.2.2.2.2.2.2.2.2.2
theorem bd22_e {α1 α2 α3 α4 α5 α6 α7 α8 α9 α10 α11 α12 α13 α14 α15 α16 α17 α18 α19 α20 α21 α22 β : Type} {x : Option (α1 × α2 × α3 × α4 × α5 × α6 × α7 × α8 × α9 × α10 × α11 × α12 × α13 × α14 × α15 × α16 × α17 × α18 × α19 × α20 × α21 × α22)} {k : α1 → α2 → α3 → α4 → α5 → α6 → α7 → α8 → α9 → α10 → α11 → α12 → α13 → α14 → α15 → α16 → α17 → α18 → α19 → α20 → α21 → α22 → Option β} {o : β} (h : bd22 x k = some o) : ∃ a1 a2 a3 a4 a5 a6 a7 a8 a9 a10 a11 a12 a13 a14 a15 a16 a17 a18 a19 a20 a21 a22, x = some (a1, a2, a3, a4, a5, a6, a7, a8, a9, a10, a11, a12, a13, a14, a15, a16, a17, a18, a19, a20, a21, a22) ∧ k a1 a2 a3 a4 a5 a6 a7 a8 a9 a10 a11 a12 a13 a14 a15 a16 a17 a18 a19 a20 a21 a22 = some o := by
  cases x with
  | none => exact absurd h (by simp [bd22])
  | some a => exact ⟨a.1, a.2.1, a.2.2.1, a.2.2.2.1, a.2.2.2.2.1, a.2.2.2.2.2.1, a.2.2.2.2.2.2.1, a.2.2.2.2.2.2.2.1, a.2.2.2.2.2.2.2.2.1, a.2.2.2.2.2.2.2.2.2.1, a.2.2.2.2.2.2.2.2.2.2.1, a.2.2.2.2.2.2.2.2.2.2.2.1, a.2.2.2.2.2.2.2.2.2.2.2.2.1, a.2.2.2.2.2.2.2.2.2.2.2.2.2.1, a.2.2.2.2.2.2.2.2.2.2.2.2.2.2.1, a.2.2.2.2.2.2.2.2.2.2.2.2.2.2.2.1, a.2.2.2.2.2.2.2.2.2.2.2.2.2.2.2.2.1, a.2.2.2.2.2.2.2.2.2.2.2.2.2.2.2.2.2.1, a.2.2.2.2.2.2.2.2.2.2.2.2.2.2.2.2.2.2.1, a.2.2.2.2.2.2.2.2.2.2.2.2.2.2.2.2.2.2.2.1, a.2.2.2.2.2.2.2.2.2.2.2.2.2.2.2.2.2.2.2.2.1, a.2.2.2.2.2.2.2.2.2.2.2.2.2.2.2.2.2.2.2.2.2, rfl, h⟩
def bd23 {α1 α2 α3 α4 α5 α6 α7 α8 α9 α10 α11 α12 α13 α14 α15 α16 α17 α18 α19 α20 α21 α22 α23 β : Type} (x : Option (α1 × α2 × α3 × α4 × α5 × α6 × α7 × α8 × α9 × α10 × α11 × α12 × α13 × α14 × α15 × α16 × α17 × α18 × α19 × α20 × α21 × α22 × α23)) (k : α1 → α2 → α3 → α4 → α5 → α6 → α7 → α8 → α9 → α10 → α11 → α12 → α13 → α14 → α15 → α16 → α17 → α18 → α19 → α20 → α21 → α22 → α23 → Option β) : Option β := match x with
  | none => none
  | some a => k a.1 a.2.1 a.2.2.1 a.2.2.2.1 a.2.2.2.2.1 a.2.2.2.2.2.1 a.2.2.2.2.2.2.1 a.2.2.2.2.2.2.2.1 a.2.2.2.2.2.2.2.2.1 a.2.2.2.2.2.2.2.2.2.1 a.2.2.2.2.2.2.2.2.2.2.1 a.2.2.2.2.2.2.2.2.2.2.2.1 a.2.2.2.2.2.2.2.2.2.2.2.2.1 a.2.2.2.2.2.2.2.2.2.2.2.2.2.1 a.2.2.2.2.2.2.2.2.2.2.2.2.2.2.1 a.2.2.2.2.2.2.2.2.2.2.2.2.2.2.2.1 a.2.2.2.2.2.2.2.2.2.2.2.2.2.2.2.2.1 a.2.2.2.2.2.2.2.2.2.2.2.2.2.2.2.2.2.1 a.2.2.2.2.2.2.2.2.2.2.2.2.2.2.2.2.2.2.1 a.2.2.2.2.2.2.2.2.2.2.2.2.2.2.2.2.2.2.2.1 a.2.2.2.2.2.2.2.2.2.2.2.2.2.2.2.2.2.2.2.2.1 a.2.2.2.2.2.2.2.2.2.2.2.2.2.2.2.2.2.2.2.2.2.1 a.2.2.2.2.2.2.2.2.2.2.2.2.2.2.2.2.2.2.2.2.2.2
theorem bd23_e {α1 α2 α3 α4 α5 α6 α7 α8 α9 α10 α11 α12 α13 α14 α15 α16 α17 α18 α19 α20 α21 α22 α23 β : Type} {x : Option (α1 × α2 × α3 × α4 × α5 × α6 × α7 × α8 × α9 × α10 × α11 × α12 × α13 × α14 × α15 × α16 × α17 × α18 × α19 × α20 × α21 × α22 × α23)} {k : α1 → α2 → α3 → α4 → α5 → α6 → α7 → α8 → α9 → α10 → α11 → α12 → α13 → α14 → α15 → α16 → α17 → α18 → α19 → α20 → α21 → α22 → α23 → Option β} {o : β} (h : bd23 x k = some o) : ∃ a1 a2 a3 a4 a5 a6 a7 a8 a9 a10 a11 a12 a13 a14 a15 a16 a17 a18 a19 a20 a21 a22 a23, x = some (a1, a2, a3, a4, a5, a6, a7, a8, a9, a10, a11, a12, a13, a14, a15, a16, a17, a18, a19, a20, a21, a22, a23) ∧ k a1 a2 a3 a4 a5 a6 a7 a8 a9 a10 a11 a12 a13 a14 a15 a16 a17 a18 a19 a20 a21 a22 a23 = some o := by
  cases x with
  | none => exact absurd h (by simp [bd23])
  | some a => exact ⟨a.1, a.2.1, a.2.2.1, a.2.2.2.1, a.2.2.2.2.1, a.2.2.2.2.2.1, a.2.2.2.2.2.2.1, a.2.2.2.2.2.2.2.1, a.2.2.2.2.2.2.2.2.1, a.2.2.2.2.2.2.2.2.2.1, a.2.2.2.2.2.2.2.2.2.2.1, a.2.2.2.2.2.2.2.2.2.2.2.1, a.2.2.2.2.2.2.2.2.2.2.2.2.1, a.2.2.2.2.2.2.2.2.2.2.2.2.2.1, a.2.2.2.2.2.2.2.2.2.2.2.2.2.2.1, a.2.2.2.2.2.2.2.2.2.2.2.2.2.2.2.1, a.2.2.2.2.2.2.2.2.2.2.2.2.2.2.2.2.1, a.2.2.2.2.2.2.2.2.2.2.2.2.2.2.2.2.2.1, a.2.2.2.2.2.2.2.2.2.2.2.2.2.2.2.2.2.2.1, a.2.2.2.2.2.2.2.2.2.2.2.2.2.2.2.2.2.2.2.1, a.2.2.2.2.2.2.2.2.2.2.2.2.2.2.2.2.2.2.2.2.1, a.2.2.2.2.2.2.2.2.2.2.2.2.2.2.2.2.2.2.2.2.2.1, a.2.2.2.2.2.2.2.2.2.2.2.2.2.2.2.2.2.2.2.2.2.2, rfl, h⟩
def bd24 {α1 α2 α3 α4 α5 α6 α7 α8 α9 α10 α11 α12 α13 α14 α15 α16 α17 α18 α19 α20 α21 α22 α23 α24 β : Type} (x : Option (α1 × α2 × α3 × α4 × α5 × α6 × α7 × α8 × α9 × α10 × α11 × α12 × α13 × α14 × α15 × α16 × α17 × α18 × α19 × α20 × α21 × α22 × α23 × α24)) (k : α1 → α2 → α3 → α4 → α5 → α6 → α7 → α8 → α9 → α10 → α11 → α12 → α13 → α14 → α15 → α16 → α17 → α18 → α19 → α20 → α21 → α22 → α23 → α24 → Option β) : Option β := match x with
  | none => none
  | some a => k a.1 a.2.1 a.2.2.1 a.2.2.2.1 a.2.2.2.2.1 a.2.2.2.2.2.1 a.2.2.2.2.2.2.1 a.2.2.2.2.2.2.2.1 a.2.2.2.2.2.2.2.2.1 a.2.2.2.2.2.2.2.2.2.1 a.2.2.2.2.2.2.2.2.2.2.1 a.2.2.2.2.2.2.2.2.2.2.2.1 a.2.2.2.2.2.2.2.2.2.2.2.2.1 a.2.2.2.2.2.2.2.2.2.2.2.2.2.1 a.2.2.2.2.2.2.2.2.2.2.2.2.2.2.1 a.2.2.2.2.2.2.2.2.2.2.2.2.2.2.2.1 a.2.2.2.2.2.2.2.2.2.2.2.2.2.2.2.2.1 a.2.2.2.2.2.2.2.2.2.2.2.2.2.2.2.2.2.1 a.2.2.2.2.2.2.2.2.2.2.2.2.2.2.2.2.2.2.1 a.2.2.2.2.2.2.2.2.2.2.2.2.2.2.2.2.2.2.2.1 a.2.2.2.2.2.2.2.2.2.2.2.2.2.2.2.2.2.2.2.2.1 a.2.2.2.2.2.2.2.2.2.2.2.2.2.2.2.2.2.2.2.2.2.1 a.2.2.2.2.2.2.2.2.2.2.2.2.2.2.2.2.2.2.2.2.2.2.1 a.2.2.2.2.2.2.2.2.2.2.2.2.2.2.2.2.2.2.2.2.2.2.2
theorem bd24_e {α1 α2 α3 α4 α5 α6 α7 α8 α9 α10 α11 α12 α13 α14 α15 α16 α17 α18 α19 α20 α21 α22 α23 α24 β : Type} {x : Option (α1 × α2 × α3 × α4 × α5 × α6 × α7 × α8 × α9 × α10 × α11 × α12 × α13 × α14 × α15 × α16 × α17 × α18 × α19 × α20 × α21 × α22 × α23 × α24)} {k : α1 → α2 → α3 → α4 → α5 → α6 → α7 → α8 → α9 → α10 → α11 → α12 → α13 → α14 → α15 → α16 → α17 → α18 → α19 → α20 → α21 → α22 → α23 → α24 → Option β} {o : β} (h : bd24 x k = some o) : ∃ a1 a2 a3 a4 a5 a6 a7 a8 a9 a10 a11 a12 a13 a14 a15 a16 a17 a18 a19 a20 a21 a22 a23 a24, x = some (a1, a2, a3, a4, a5, a6, a7, a8, a9, a10, a11, a12, a13, a14, a15, a16, a17, a18, a19, a20, a21, a22, a23, a24) ∧ k a1 a2 a3 a4 a5 a6 a7 a8 a9 a10 a11 a12 a13 a14 a15 a16 a17 a18 a19 a20 a21 a22 a23 a24 = some o := by
  cases x with
  | none => exact absurd h (by simp [bd24])
  | some a => exact ⟨a.1, a.2.1, a.2.2.1, a.2.2.2.1, a.2.2.2.2.1, a.2.2.2.2.2.1, a.2.2.2.2.2.2.1, a.2.2.2.2.2.2.2.1, a.2.2.2.2.2.2.2.2.1, a.2.2.2.2.2.2.2.2.2.1, a.2.2.2.2.2.2.2.2.2.2.1, a.2.2.2.2.2.2.2.2.2.2.2.1, a.2.2.2.2.2.2.2.2.2.2.2.2.1, a.2.2.2.2.2.2.2.2.2.2.2.2.2.1, a.2.2.2.2.2.2.2.2.2.2.2.2.2.2.1, a.2.2.2.2.2.2.2.2.2.2.2.2.2.2.2.1, a.2.2.2.2.2.2.2.2.2.2.2.2.2.2.2.2.1, a.2.2.2.2.2.2.2.2.2.2.2.2.2.2.2.2.2.1, a.2.2.2.2.2.2.2.2.2.2.2.2.2.2.2.2.2.2.1, a.2.2.2.2.2.2.2.2.2.2.2.2.2.2.2.2.2.2.2.1, a.2.2.2.2.2.2.2.2.2.2.2.2.2.2.2.2.2.2.2.2.1, a.2.2.2.2.2.2.2.2.2.2.2.2.2.2.2.2.2.2.2.2.2.1, a.2.2.2.2.2.2.2.2.2.2.2.2.2.2.2.2.2.2.2.2.2.2.1, a.2.2.2.2.2.2.2.2.2.2.2.2.2.2.2.2.2.2.2.2.2.2.2, rfl, h⟩
def bd25 {α1 α2 α3 α4 α5 α6 α7 α8 α9 α10 α11 α12 α13 α14 α15 α16 α17 α18 α19 α20 α21 α22 α23 α24 α25 β : Type} (x : Option (α1 × α2 × α3 × α4 × α5 × α6 × α7 × α8 × α9 × α10 × α11 × α12 × α13 × α14 × α15 × α16 × α17 × α18 × α19 × α20 × α21 × α22 × α23 × α24 × α25)) (k : α1 → α2 → α3 → α4 → α5 → α6 → α7 → α8 → α9 → α10 → α11 → α12 → α13 → α14 → α15 → α16 → α17 → α18 → α19 → α20 → α21 → α22 → α23 → α24 → α25 → Option β) : Option β := match x with
  | none => none
  | some a => k a.1 a.2.1 a.2.2.1 a.2.2.2.1 a.2.2.2.2.1 a.2.2.2.2.2.1 a.2.2.2.2.2.2.1 a.2.2.2.2.2.2.2.1 a.2.2.2.2.2.2.2.2.1 a.2.2.2.2.2.2.2.2.2.1 a.2.2.2.2.2.2.2.2.2.2.1 a.2.2.2.2.2.2.2.2.2.2.2.1 a.2.2.2.2.2.2.2.2.2.2.2.2.1 a.2.2.2.2.2.2.2.2.2.2.2.2.2.1 a.2.2.2.2.2.2.2.2.2.2.2.2.2.2.1 a.2.2.2.2.2.2.2.2.2.2.2.2.2.2.2.1 a.2.2.2.2.2.2.2.2.2.2.2.2.2.2.2.2.1 a.2.2.2.2.2.2.2.2.2.2.2.2.2.2.2.2.2.1 a.2.2.2.2.2.2.2.2.2.2.2.2.2.2.2.2.2.2.1 a.2.2.2.2.2.2.2.2.2.2.2.2.2.2.2.2.2.2.2.1 a.2.2.2.2.2.2.2.2.2.2.2.2.2.2.2.2.2.2.2.2.1 a.2.2.2.2.2.2.2.2.2.2.2.2.2.2.2.2.2.2.2.2.2.1 a.2.2.2.2.2.2.2.2.2.2.2.2.2.2.2.2.2.2.2.2.2.2.1 a.2.2.2.2.2.2.2.2.2.2.2.2.2.2.2.2.2.2.2.2.2.2.2.1 a.2.2.2.2.2.2.2.2.2.2.2.2.2.2.2.2.2.2.2.2.2.2.2.2
theorem bd25_e {α1 α2 α3 α4 α5 α6 α7 α8 α9 α10 α11 α12 α13 α14 α15 α16 α17 α18 α19 α20 α21 α22 α23 α24 α25 β : Type} {x : Option (α1 × α2 × α3 × α4 × α5 × α6 × α7 × α8 × α9 × α10 × α11 × α12 × α13 × α14 × α15 × α16 × α17 × α18 × α19 × α20 × α21 × α22 × α23 × α24 × α25)} {k : α1 → α2 → α3 → α4 → α5 → α6 → α7 → α8 → α9 → α10 → α11 → α12 → α13 → α14 → α15 → α16 → α17 → α18 → α19 → α20 → α21 → α22 → α23 → α24 → α25 → Option β} {o : β} (h : bd25 x k = some o) : ∃ a1 a2 a3 a4 a5 a6 a7 a8 a9 a10 a11 a12 a13 a14 a15 a16 a17 a18 a19 a20 a21 a22 a23 a24 a25, x = some (a1, a2, a3, a4, a5, a6, a7, a8, a9, a10, a11, a12, a13, a14, a15, a16, a17, a18, a19, a20, a21, a22, a23, a24, a25) ∧ k a1 a2 a3 a4 a5 a6 a7 a8 a9 a10 a11 a12 a13 a14 a15 a16 a17 a18 a19 a20 a21 a22 a23 a24 a25 = some o := by
  cases x with
  | none => exact absurd h (by simp [bd25])
  | some a => exact ⟨a.1, a.2.1, a.2.2.1, a.2.2.2.1, a.2.2.2.2.1, a.2.2.2.2.2.1, a.2.2.2.2.2.2.1, a.2.2.2.2.2.2.2.1, a.2.2.2.2.2.2.2.2.1, a.2.2.2.2.2.2.2.2.2.1, a.2.2.2.2.2.2.2.2.2.2.1, a.2.2.2.2.2.2.2.2.2.2.2.1, a.2.2.2.2.2.2.2.2.2.2.2.2.1, a.2.2.2.2.2.2.2.2.2.2.2.2.2.1, a.2.2.2.2.2.2.2.2.2.2.2.2.2.2.1, a.2.2.2.2.2.2.2.2.2.2.2.2.2.2.2.1, a.2.2.2.2.2.2.2.2.2.2.2.2.2.2.2.2.1, a.2.2.2.2.2.2.2.2.2.2.2.2.2.2.2.2.2.1, a.2.2.2.2.2.2.2.2.2.2.2.2.2.2.2.2.2.2.1, a.2.2.2.2.2.2.2.2.2.2.2.2.2.2.2.2.2.2.2.1, a.2.2.2.2.2.2.2.2.2.2.2.2.2.2.2.2.2.2.2.2.1, a.2.2.2.2.2.2.2.2.2.2.2.2.2.2.2.2.2.2.2.2.2.1, a.2.2.2.2.2.2.2.2.2.2.2.2.2.2.2.2.2.2.2.2.2.2.1, a.2.2.2.2.2.2.2.2.2.2.2.2.2.2.2.2.2.2.2.2.2.2.2.1, a.2.2.2.2.2.2.2.2.2.2.2.2.2.2.2.2.2.2.2.2.2.2.2.2, rfl, h⟩
def bd26 {α1 α2 α3 α4 α5 α6 α7 α8 α9 α10 α11 α12 α13 α14 α15 α16 α17 α18 α19 α20 α21 α22 α23 α24 α25 α26 β : Type} (x : Option (α1 × α2 × α3 × α4 × α5 × α6 × α7 × α8 × α9 × α10 × α11 × α12 × α13 × α14 × α15 × α16 × α17 × α18 × α19 × α20 × α21 × α22 × α23 × α24 × α25 × α26)) (k : α1 → α2 → α3 → α4 → α5 → α6 → α7 → α8 → α9 → α10 → α11 → α12 → α13 → α14 → α15 → α16 → α17 → α18 → α19 → α20 → α21 → α22 → α23 → α24 → α25 → α26 → Option β) : Option β := match x with
  | none => none
  | some a => k a.1 a.2.1 a.2.2.1 a.2.2.2.1 a.2.2.2.2.1 a.2.2.2.2.2.1 a.2.2.2.2.2.2.1 a.2.2.2.2.2.2.2.1 a.2.2.2.2.2.2.2.2.1 a.2.2.2.2.2.2.2.2.2.1 a.2.2.2.2.2.2.2.2.2.2.1 a.2.2.2.2.2.2.2.2.2.2.2.1 a.2.2.2.2.2.2.2.2.2.2.2.2.1 a.2.2.2.2.2.2.2.2.2.2.2.2.2.1 a.2.2.2.2.2.2.2.2.2.2.2.2.2.2.1 a.2.2.2.2.2.2.2.2.2.2.2.2.2.2.2.1 a.2.2.2.2.2.2.2.2.2.2.2.2.2.2.2.2.1 a.2.2.2.2.2.2.2.2.2.2.2.2.2.2.2.2.2.1 a.2.2.2.2.2.2.2.2.2.2.2.2.2.2.2.2.2.2.1 a.2.2.2.2.2.2.2.2.2.2.2.2.2.2.2.2.2.2.2.1 a.2.2.2.2.2.2.2.2.2.2.2.2.2.2.2.2.2.2.2.2.1 a.2.2.2.2.2.2.2.2.2.2.2.2.2.2.2.2.2.2.2.2.2.1 a.2.2.2.2.2.2.2.2.2.2.2.2.2.2.2.2.2.2.2.2.2.2.1 a.2.2.2.2.2.2.2.2.2.2.2.2.2.2.2.2.2.2.2.2.2.2.2.1 a.2.2.2.2.2.2.2.2.2.2.2.2.2.2.2.2.2.2.2.2.2.2.2.2.1 a.2.2.2.2.2.2.2.2.2.2.2.2.2.2.2.2.2.2.2.2.2.2.2.2.2
theorem bd26_e {α1 α2 α3 α4 α5 α6 α7 α8 α9 α10 α11 α12 α13 α14 α15 α16 α17 α18 α19 α20 α21 α22 α23 α24 α25 α26 β : Type} {x : Option (α1 × α2 × α3 × α4 × α5 × α6 × α7 × α8 × α9 × α10 × α11 × α12 × α13 × α14 × α15 × α16 × α17 × α18 × α19 × α20 × α21 × α22 × α23 × α24 × α25 × α26)} {k : α1 → α2 → α3 → α4 → α5 → α6 → α7 → α8 → α9 → α10 → α11 → α12 → α13 → α14 → α15 → α16 → α17 → α18 → α19 → α20 → α21 → α22 → α23 → α24 → α25 → α26 → Option β} {o : β} (h : bd26 x k = some o) : ∃ a1 a2 a3 a4 a5 a6 a7 a8 a9 a10 a11 a12 a13 a14 a15 a16 a17 a18 a19 a20 a21 a22 a23 a24 a25 a26, x = some (a1, a2, a3, a4, a5, a6, a7, a8, a9, a10, a11, a12, a13, a14, a15, a16, a17, a18, a19, a20, a21, a22, a23, a24, a25, a26) ∧ k a1 a2 a3 a4 a5 a6 a7 a8 a9 a10 a11 a12 a13 a14 a15 a16 a17 a18 a19 a20 a21 a22 a23 a24 a25 a26 = some o := by
  cases x with
  | none => exact absurd h (by simp [bd26])
  | some a => exact ⟨a.1, a.2.1, a.2.2.1, a.2.2.2.1, a.2.2.2.2.1, a.2.2.2.2.2.1, a.2.2.2.2.2.2.1, a.2.2.2.2.2.2.2.1, a.2.2.2.2.2.2.2.2.1, a.2.2.2.2.2.2.2.2.2.1, a.2.2.2.2.2.2.2.2.2.2.1, a.2.2.2.2.2.2.2.2.2.2.2.1, a.2.2.2.2.2.2.2.2.2.2.2.2.1, a.2.2.2.2.2.2.2.2.2.2.2.2.2.1, a.2.2.2.2.2.2.2.2.2.2.2.2.2.2.1, a.2.2.2.2.2.2.2.2.2.2.2.2.2.2.2.1, a.2.2.2.2.2.2.2.2.2.2.2.2.2.2.2.2.1, a.2.2.2.2.2.2.2.2.2.2.2.2.2.2.2.2.2.1, a.2.2.2.2.2.2.2.2.2.2.2.2.2.2.2.2.2.2.1, a.2.2.2.2.2.2.2.2.2.2.2.2.2.2.2.2.2.2.2.1, a.2.2.2.2.2.2.2.2.2.2.2.2.2.2.2.2.2.2.2.2.1, a.2.2.2.2.2.2.2.2.2.2.2.2.2.2.2.2.2.2.2.2.2.1, a.2.2.2.2.2.2.2.2.2.2.2.2.2.2.2.2.2.2.2.2.2.2.1, a.2.2.2.2.2.2.2.2.2.2.2.2.2.2.2.2.2.2.2.2.2.2.2.1, a.2.2.2.2.2.2.2.2.2.2.2.2.2.2.2.2.2.2.2.2.2.2.2.2.1, a.2.2.2.2.2.2.2.2.2.2.2.2.2.2.2.2.2.2.2.2.2.2.2.2.2, rfl, h⟩
/-- a join: what follows is said once -/
def jn {β γ : Type} (b : β) (t : β → γ) : γ := t b
theorem jn_e {α β : Type} {b : β} {t : β → Option α} {o : α} (h : jn b t = some o) : ∃ j, j = b ∧ t j = some o := ⟨b, rfl, h⟩
/-- a value gets a name -/
def nm {α β : Type} (x : α) (k : α → β) : β := k x
theorem nm_o {α β : Type} {x : α} {k : α → Option β} {o : β} (h : nm x k = some o) : ∃ v, v = x ∧ k v = some o := ⟨x, rfl, h⟩
theorem it_e {α : Type} {c : Prop} {i : Decidable c} {a b o : α} (hc : c) (h : @ite α c i a b = o) : a = o := (if_pos hc).symm.trans h
theorem if_e {α : Type} {c : Prop} {i : Decidable c} {a b o : α} (hc : ¬ c) (h : @ite α c i a b = o) : b = o := (if_neg hc).symm.trans h
theorem no_e {α : Type} {o : α} {P : Prop} (h : (none : Option α) = some o) : P := by cases h
theorem so_e {α : Type} {x o : α} (h : some x = some o) : x = o := Option.some.inj h
/-- 0 or 1 -/
def bz (x : Int32) : Bool := decide (x = 0) || decide (x = 1)
theorem bz_n {x : Int32} (h : bz x = true) : narrow .boolean (.int x) = .int x := by
  simp only [bz, Bool.or_eq_true, decide_eq_true_eq] at h
  rcases h with h | h <;> subst h <;> rfl
theorem bz_f {x : Int32} (h : bz x = true) : fits .boolean (.int x) = true := by
  simp only [bz, Bool.or_eq_true, decide_eq_true_eq] at h
  rcases h with h | h <;> subst h <;> rfl
theorem bz_v {x : Int32} (h : bz x = true) : vp_nar .boolean x = x := by
  simp only [bz, Bool.or_eq_true, decide_eq_true_eq] at h
  rcases h with h | h <;> subst h <;> rfl
/-- not below zero: System.arraycopy -/
def nn (x : Int32) : Bool := !decide (x < 0)
theorem nn_e {x : Int32} (h : nn x = true) : ¬ x < 0 := by simpa [nn] using h
def le (a b : Nat) : Bool := decide (a ≤ b)
theorem le_e {a b : Nat} (h : le a b = true) : a ≤ b := by simpa [le] using h
def ne0 (x : Int32) : Bool := !decide (x = 0)
theorem ne0_e {x : Int32} (h : ne0 x = true) : ¬ x = 0 := by simpa [ne0] using h
theorem lkp_out2 {ps : List (Int × Int)} {o0 o1 df : Int} {x : Int32} (h : ps = [(0, o0), (1, o1)]) (h0 : ¬ x = nI 0) (h1 : ¬ x = nI 1) : Op.lookupswitch.offset ps df x.toInt = df := by
  subst h
  have e0 : x.toInt ≠ 0 := fun e => h0 (Int32.toInt_inj.mp e)
  have e1 : x.toInt ≠ 1 := fun e => h1 (Int32.toInt_inj.mp e)
  simp [Op.lookupswitch.offset, e0.symm, e1.symm]
theorem tsw {x : Int32} (N : Nat) (hN : N < 2 ^ 31) (h : ∀ k, k < N + 1 → ¬ x = nI k) : x.toInt < 0 ∨ (N : Int) < x.toInt := by
  by_cases h0 : x.toInt < 0
  · exact Or.inl h0
  · refine Or.inr ?_
    refine Int.lt_of_not_ge (fun h1 => ?_)
    have hx : x = nI x.toInt.toNat := by
      apply Int32.toInt_inj.mp
      rw [nI_toInt (by omega)]
      omega
    exact h x.toInt.toNat (by omega) hx
/-- the links between nest mates, given at the start -/
def NWs (U : State) : Prop := va_Nw (.methodLinkNest RX2 59 yX3_isWithin RX3) U ∧ va_Nw (.methodLinkNest RX1 17 yX3_isWithin RX3) U ∧ va_Nw (.methodLinkNest RX0 17 yX2_init RX3) U ∧ va_Nw (.methodLinkNest RX3 9 yX2_init RX3) U ∧ va_Nw (.methodLinkNest RX3 36 yX1_init RX3) U
theorem NWs.same {u U : State} (h : u.vm = U.vm) (hN : NWs u) : NWs U := ⟨va_Nw.same rfl h hN.1, va_Nw.same rfl h hN.2.1, va_Nw.same rfl h hN.2.2.1, va_Nw.same rfl h hN.2.2.2.1, va_Nw.same rfl h hN.2.2.2.2⟩
theorem NWs.warm {s U : State} (hW : s.WarmedH U.vm) (hN : NWs s) : NWs U := ⟨va_Nw.warmM hW hN.1, va_Nw.warmM hW hN.2.1, va_Nw.warmM hW hN.2.2.1, va_Nw.warmM hW hN.2.2.2.1, va_Nw.warmM hW hN.2.2.2.2⟩
/-- the array classes: ints, booleans, chars, shelves -/
abbrev tyL (y : Nat → ClassId) : List (ClassId × FieldType) := [(y 0, .int), (y 1, .boolean), (y 2, .char), (y 3, .object RX2)]
def KK (D : va_G) (y : Nat → ClassId) (U : State) : Prop := va_K D vwCl (tyL y) U ∧ NWs U
def GG (D : va_G) (A : Nat → Prop) (H0 : Heap) (ws : va_W) (H : Heap) (locs : List Loc) : Prop := va_P D vwCl ws H ∧ va_D A ws ∧ va_S A H0 H locs
/-- the start of a method over the cells ws -/
def Pre1 (D : va_G) (y : Nat → ClassId) (ws : va_W) (sz : Nat) : State → Prop := fun U => U.heap.size = sz ∧ va_P D vwCl ws U.heap ∧ KK D y U ∧ va_D (fun _ => True) ws
theorem pre_blind {av : List Value} {D : va_G} {y : Nat → ClassId} {ws : va_W} {sz : Nat} : FrameBlind (va_Pc av (Pre1 D y ws sz)) := fun a U g mk q =>
  ⟨q.1, q.2.1, q.2.2.1, ⟨va_K.moved (u := U) (U := U.calling g mk a) (Vm.Alike.refl U.vm) q.2.2.2.1.1, NWs.same (u := U) (U := U.calling g mk a) rfl q.2.2.2.1.2⟩, q.2.2.2.2⟩
/-- the end: the answer r, the cells ws' -/
abbrev PoI (D : va_G) (r : Int32) (ws ws' : va_W) (sz : Nat) : Array Value → State → Outcome → State → Prop := va_Qi (fun (x : Int32) (_ : Unit) => x = r) (fun _ t => va_P D vwCl ws' t.heap) (va_A ws sz)
abbrev PoV (D : va_G) (ws ws' : va_W) (sz : Nat) : Array Value → State → Outcome → State → Prop := va_Qv (fun (_ : Unit) => True) (fun _ t => va_P D vwCl ws' t.heap) (va_A ws sz)
abbrev MI (l : Launch) (yn : MethodName) (wn : List Cond) (fr lo : Nat) (av : List Value) (D : va_G) (y : Nat → ClassId) (ws : va_W) (sz : Nat) (r : Int32) (ws' : va_W) : Prop :=
  Met l yn wn ({ frames := fr, cells := 0, slots := 0, locals := lo }) (va_Pc av (Pre1 D y ws sz)) (PoI D r ws ws' sz) 0 0 (va_A ws sz)
abbrev MV (l : Launch) (yn : MethodName) (wn : List Cond) (fr lo : Nat) (av : List Value) (D : va_G) (y : Nat → ClassId) (ws : va_W) (sz : Nat) (ws' : va_W) : Prop :=
  Met l yn wn ({ frames := fr, cells := 0, slots := 0, locals := lo }) (va_Pc av (Pre1 D y ws sz)) (PoV D ws ws' sz) 0 0 (va_A ws sz)
theorem va_D.addr {A : Nat → Prop} {ws ws' : va_W} (h : va_D A ws) (e : ws'.map Prod.fst = ws.map Prod.fst) : va_D A ws' := by
  have key : ∀ (k : Nat) (q : Nat × va_E), ws'[k]? = some q → ∃ q0, ws[k]? = some q0 ∧ q0.1 = q.1 := by
    intro k q hq
    have h1 : (ws'.map Prod.fst)[k]? = some q.1 := by rw [List.getElem?_map, hq]; rfl
    rw [e, List.getElem?_map] at h1
    cases hw : ws[k]? with
    | none => rw [hw] at h1; cases h1
    | some q0 => rw [hw] at h1; exact ⟨q0, rfl, Option.some.inj h1⟩
  refine ⟨fun i j p q hi hj hpq => ?_, fun k q hk => ?_⟩
  · obtain ⟨p0, a1, a2⟩ := key i p hi
    obtain ⟨q0, b1, b2⟩ := key j q hj
    exact h.1 i j p0 q0 a1 b1 (by rw [a2, b2, hpq])
  · obtain ⟨q0, a1, a2⟩ := key k q hk
    rw [← a2]
    exact h.2 k q0 a1
theorem va_D.mem {A : Nat → Prop} {ws : va_W} (h : va_D A ws) {p q : Nat × va_E} (hp : p ∈ ws) (hq : q ∈ ws) (e : p.1 = q.1) : p = q := by
  obtain ⟨i, hi⟩ := List.getElem?_of_mem hp
  obtain ⟨j, hj⟩ := List.getElem?_of_mem hq
  have := h.1 i j p q hi hj e
  subst this
  rw [hi] at hj
  exact Option.some.inj hj
theorem va_P.mem {D : va_G} {cl : List vw_C} {ws : va_W} {H : Heap} (h : va_P D cl ws H) {q : Nat × va_E} (hq : q ∈ ws) : va_at D cl q H := by
  obtain ⟨i, hi⟩ := List.getElem?_of_mem hq
  exact h i q hi
theorem va_P.of {D : va_G} {cl : List vw_C} {ws : va_W} {H : Heap} (h : ∀ q ∈ ws, va_at D cl q H) : va_P D cl ws H := fun _ q hk => h q (List.mem_of_getElem? hk)
/-- behind a call over the cells wc: ws2 holds the callee's new cells, and old ones that weren't the callee's -/
theorem GG.call {D : va_G} {A : Nat → Prop} {H0 H H1 : Heap} {ws wc wc' ws2 : va_W} {locs locs1 : List Loc} (hG : GG D A H0 ws H locs)
    (ha : ws2.map Prod.fst = ws.map Prod.fst) (h2 : ∀ q ∈ ws2, q ∈ wc' ∨ (q ∈ ws ∧ q.1 ∉ wc.map Prod.fst))
    (hk : ∀ q : Nat, q < H.size → ¬ va_A wc H.size q → H1[q]? = H[q]?) (hP1 : va_P D vwCl wc' H1) (hS1 : va_S A H0 H1 locs1) : GG D A H0 ws2 H1 locs1 := by
  refine ⟨va_P.of (fun q hq => ?_), hG.2.1.addr ha, hS1⟩
  rcases h2 q hq with h | ⟨h, hn⟩
  · exact hP1.mem h
  · have h3 := hG.1.mem h
    refine h3.kept (hk q.1 h3.lt (fun hA => ?_))
    rcases hA with ⟨k, e, h4⟩ | h4
    · exact hn (List.mem_map.mpr ⟨_, List.mem_of_getElem? h4, rfl⟩)
    · exact absurd h3.lt (by omega)
/-- the cells at the places is get new contents -/
def stL : va_W → List Nat → va_W → va_W
  | ws, i :: is, q :: qs => stL (ws.set i q) is qs
  | ws, _, _ => ws
theorem stL_get : ∀ (is : List Nat) (qs ws : va_W) (k : Nat) (q : Nat × va_E), is.length = qs.length → (stL ws is qs)[k]? = some q → q ∈ qs ∨ (k ∉ is ∧ ws[k]? = some q)
  | [], qs, ws, k, q, hl, h => by
    cases qs with
    | nil => exact Or.inr ⟨List.not_mem_nil, h⟩
    | cons a qs => simp at hl
  | i :: is, [], ws, k, q, hl, h => by simp at hl
  | i :: is, a :: qs, ws, k, q, hl, h => by
    have hl' : is.length = qs.length := by simpa using hl
    rcases stL_get is qs (ws.set i a) k q hl' h with h1 | ⟨h1, h2⟩
    · exact Or.inl (List.mem_cons_of_mem _ h1)
    · by_cases hk : k = i
      · subst hk
        have hlt : k < (ws.set k a).length := (List.getElem?_eq_some_iff.mp h2).1
        rw [List.length_set] at hlt
        rw [List.getElem?_set_self hlt] at h2
        cases h2
        exact Or.inl List.mem_cons_self
      · rw [List.getElem?_set_ne (Ne.symm hk)] at h2
        exact Or.inr ⟨fun hm => (List.mem_cons.mp hm).elim hk h1, h2⟩
theorem stL_addr : ∀ (is : List Nat) (qs ws : va_W), is.map (fun i => (ws.map Prod.fst)[i]?) = qs.map (fun q => some q.1) → (stL ws is qs).map Prod.fst = ws.map Prod.fst
  | [], [], ws, _ => rfl
  | [], a :: qs, ws, h => by simp at h
  | i :: is, [], ws, h => by simp at h
  | i :: is, a :: qs, ws, h => by
    simp only [List.map_cons, List.cons.injEq] at h
    have e : (ws.set i a).map Prod.fst = ws.map Prod.fst := by
      rw [List.map_set]
      apply List.ext_getElem?
      intro k
      by_cases hk : k = i
      · subst hk
        have hlt : k < (ws.map Prod.fst).length := (List.getElem?_eq_some_iff.mp h.1).1
        rw [List.getElem?_set_self hlt, h.1]
      · rw [List.getElem?_set_ne (Ne.symm hk)]
    show (stL (ws.set i a) is qs).map Prod.fst = _
    rw [stL_addr is qs (ws.set i a) (by rw [e]; exact h.2), e]
theorem GG.callP {D : va_G} {A : Nat → Prop} {H0 H H1 : Heap} {ws wc wc' : va_W} {locs locs1 : List Loc} (hG : GG D A H0 ws H locs) (is : List Nat)
    (hsub : is.map (fun i => ws[i]?) = wc.map some) (hadr : wc'.map Prod.fst = wc.map Prod.fst)
    (hk : ∀ q : Nat, q < H.size → ¬ va_A wc H.size q → H1[q]? = H[q]?) (hP1 : va_P D vwCl wc' H1) (hS1 : va_S A H0 H1 locs1) : GG D A H0 (stL ws is wc') H1 locs1 := by
  have hl : is.length = wc.length := by
    have := congrArg List.length hsub
    simpa using this
  have hl' : is.length = wc'.length := by
    have := congrArg List.length hadr
    simp at this
    omega
  have hsa : is.map (fun i => (ws.map Prod.fst)[i]?) = wc'.map (fun q => some q.1) := by
    have h1 : is.map (fun i => (ws.map Prod.fst)[i]?) = (is.map (fun i => ws[i]?)).map (Option.map Prod.fst) := by
      rw [List.map_map]
      apply List.map_congr_left
      intro i _
      simp
    rw [h1, hsub, List.map_map]
    have h2 := congrArg (List.map some) hadr
    rw [List.map_map, List.map_map] at h2
    exact h2.symm
  refine hG.call (stL_addr is wc' ws hsa) (fun q hq => ?_) hk hP1 hS1
  obtain ⟨k, hkq⟩ := List.getElem?_of_mem hq
  rcases stL_get is wc' ws k q hl' hkq with h | ⟨h1, h2⟩
  · exact Or.inl h
  · refine Or.inr ⟨List.mem_of_getElem? h2, fun hm => ?_⟩
    obtain ⟨p, hp, hpq⟩ := List.mem_map.mp hm
    obtain ⟨n, hn⟩ := List.getElem?_of_mem hp
    have h3 : (is.map (fun i => ws[i]?))[n]? = some (some p) := by rw [hsub, List.getElem?_map, hn]; rfl
    rw [List.getElem?_map] at h3
    cases hi : is[n]? with
    | none => rw [hi] at h3; cases h3
    | some i =>
      rw [hi] at h3
      have h4 : ws[i]? = some p := Option.some.inj h3
      have := hG.2.1.1 i k p q h4 h2 hpq
      subst this
      exact h1 (List.mem_of_getElem? hi)
theorem GG.part {D : va_G} {A : Nat → Prop} {H0 H : Heap} {ws wc : va_W} {locs : List Loc} (hG : GG D A H0 ws H locs) (hA : ∀ q, H0.size ≤ q → A q) (is : List Nat) (hsub : is.map (fun i => ws[i]?) = wc.map some) (hn : va_nd is = true) :
    va_P D vwCl wc H ∧ va_D (fun _ => True) wc ∧ ∀ q, va_A wc H.size q → A q := by
  refine ⟨fun k q hk => ?_, (hG.2.1.sub is hn hsub).weaken (fun _ _ _ _ => trivial), va_free hG.2.1 hG.2.2 hA is hsub⟩
  have h1 : (is.map (fun i => ws[i]?))[k]? = some (some q) := by rw [hsub, List.getElem?_map, hk]; rfl
  rw [List.getElem?_map] at h1
  cases hi : is[k]? with
  | none => rw [hi] at h1; cases h1
  | some i => rw [hi] at h1; exact hG.1 i q (Option.some.inj h1)
abbrev RM (fr lo : Nat) : Room := { frames := fr, cells := 0, slots := 0, locals := lo }
/-- Math.min, Math.max as the JDK's code has them -/
def jmin (x y : Int32) : Int32 := if y < x then y else x
def jmax (x y : Int32) : Int32 := if x < y then y else x
/-- System.arraycopy goes through -/
def cpok (n0 n1 : Nat) (sp dp n : Int32) : Bool := nn sp && nn dp && nn n && le (sp.toNatClampNeg + n.toNatClampNeg) n0 && le (dp.toNatClampNeg + n.toNatClampNeg) n1
theorem cpok_e {n0 n1 : Nat} {sp dp n : Int32} (h : cpok n0 n1 sp dp n = true) : ¬ sp < 0 ∧ ¬ dp < 0 ∧ ¬ n < 0 ∧ sp.toNatClampNeg + n.toNatClampNeg ≤ n0 ∧ dp.toNatClampNeg + n.toNatClampNeg ≤ n1 := by
  simp only [cpok, Bool.and_eq_true] at h
  exact ⟨nn_e h.1.1.1.1, nn_e h.1.1.1.2, nn_e h.1.1.2, le_e h.1.2, le_e h.2⟩
abbrev cpA (f g : Ar) (sp dp n : Int32) : Ar := va_cpy f g sp.toNatClampNeg dp.toNatClampNeg n.toNatClampNeg
section BW
variable {p : Program} {l : Launch} {e : Env} {R : Room} {s : State} {m : MethodId} {args : Array Value} {below : List Frame} {meth : Method} {c : Code} {H : Heap} {locs : List Loc} {cells slots : Nat} {Q : State → Prop}
variable {cc : ByteArray} {nL pc : Nat} {ls : Array Slot} {rest : List Value} {Ts : List Cond} {own : String} {D : va_G} {y : Nat → ClassId} {A : Nat → Prop} {H0 : Heap} {ws : va_W}
theorem w_nm {x v : Int32} (h : v = x) (k : W p l e R s m args below meth c H locs cells slots Q (F0 m pc ls (.int v :: rest))) : W p l e R s m args below meth c H locs cells slots Q (F0 m pc ls (.int x :: rest)) := h ▸ k
theorem w_get0 (F : CallFix p m c cc nL s args Ts own) (hK : KK D y s) (hG : GG D A H0 ws H locs) (hin : ∀ w ∈ wsX00, w ∈ Ts) (q0 : Nat) {a : Nat} {fs : List Value} (he : ws[q0]? = some (a, .inr (0, fs))) (k : Nat) (hk : k < 3) {index : Nat} (hlink : (Cond.fieldLink own index (TX0 k).1 (TX0 k).2.1 (TX0 k).2.2.1).before args s = true) {v : Value} (hv : fs[k]? = some v) (hdg : decode cc pc = .ok (.getfield index, 3)) (kk : W p l e R s m args below meth c H locs cells slots Q (F0 m (pc + 3) ls (v :: rest))) : W p l e R s m args below meth c H locs cells slots Q (F0 m pc ls (.ref a :: rest)) :=
  va_get (C := RX0) (T := TX0) (N := 3) F.1 F.2.1 F.2.2.2.2 hin F.2.2.2.1 hK.1 hG.1 q0 he rfl k hk hlink (fun _ h => h) hv hdg kk
theorem w_put0 (F : CallFix p m c cc nL s args Ts own) (hK : KK D y s) (hG : GG D A H0 ws H locs) (hin : ∀ w ∈ wsX00, w ∈ Ts) (q0 : Nat) {a : Nat} {fs : List Value} (he : ws[q0]? = some (a, .inr (0, fs))) (k : Nat) (hk : k < 3) {index : Nat} (hlink : (Cond.fieldLink own index (TX0 k).1 (TX0 k).2.1 (TX0 k).2.2.1).before args s = true) (hfin : (TX0 k).2.2.2 = false) {v : Value} (hn : narrow (tyX0 k) v = v) (hfit : fits (tyX0 k) v = true) (hl : k < fs.length) (ws2 : va_W) (hw : ws.set q0 (a, .inr (0, fs.set k v)) = ws2) (hdg : decode cc pc = .ok (.putfield index, 3)) (kk : ∀ (H : Heap) (locs : List Loc), GG D A H0 ws2 H locs → W p l e R s m args below meth c H locs cells slots Q (F0 m (pc + 3) ls rest)) : W p l e R s m args below meth c H locs cells slots Q (F0 m pc ls (v :: .ref a :: rest)) :=
  va_put (C := RX0) (T := TX0) (N := 3) F.1 F.2.1 F.2.2.2.2 hin tyX0 tyX0_ok nmX0 F.2.2.2.1 hK.1 hG.1 hG.2.1 hG.2.2 q0 he rfl k hk hlink (fun _ h => h) hfin (tyX0_ok k hk) hn hfit hl hdg (fun H1 l1 h1 h2 h3 => kk H1 l1 (by rw [← hw]; exact ⟨h1, h2, h3⟩))
theorem w_get1 (F : CallFix p m c cc nL s args Ts own) (hK : KK D y s) (hG : GG D A H0 ws H locs) (hin : ∀ w ∈ wsX10, w ∈ Ts) (q0 : Nat) {a : Nat} {fs : List Value} (he : ws[q0]? = some (a, .inr (1, fs))) (k : Nat) (hk : k < 2) {index : Nat} (hlink : (Cond.fieldLink own index (TX1 k).1 (TX1 k).2.1 (TX1 k).2.2.1).before args s = true) {v : Value} (hv : fs[k]? = some v) (hdg : decode cc pc = .ok (.getfield index, 3)) (kk : W p l e R s m args below meth c H locs cells slots Q (F0 m (pc + 3) ls (v :: rest))) : W p l e R s m args below meth c H locs cells slots Q (F0 m pc ls (.ref a :: rest)) :=
  va_get (C := RX1) (T := TX1) (N := 2) F.1 F.2.1 F.2.2.2.2 hin F.2.2.2.1 hK.1 hG.1 q0 he rfl k hk hlink (fun _ h => h) hv hdg kk
theorem w_put1 (F : CallFix p m c cc nL s args Ts own) (hK : KK D y s) (hG : GG D A H0 ws H locs) (hin : ∀ w ∈ wsX10, w ∈ Ts) (q0 : Nat) {a : Nat} {fs : List Value} (he : ws[q0]? = some (a, .inr (1, fs))) (k : Nat) (hk : k < 2) {index : Nat} (hlink : (Cond.fieldLink own index (TX1 k).1 (TX1 k).2.1 (TX1 k).2.2.1).before args s = true) (hfin : (TX1 k).2.2.2 = false) {v : Value} (hn : narrow (tyX1 k) v = v) (hfit : fits (tyX1 k) v = true) (hl : k < fs.length) (ws2 : va_W) (hw : ws.set q0 (a, .inr (1, fs.set k v)) = ws2) (hdg : decode cc pc = .ok (.putfield index, 3)) (kk : ∀ (H : Heap) (locs : List Loc), GG D A H0 ws2 H locs → W p l e R s m args below meth c H locs cells slots Q (F0 m (pc + 3) ls rest)) : W p l e R s m args below meth c H locs cells slots Q (F0 m pc ls (v :: .ref a :: rest)) :=
  va_put (C := RX1) (T := TX1) (N := 2) F.1 F.2.1 F.2.2.2.2 hin tyX1 tyX1_ok nmX1 F.2.2.2.1 hK.1 hG.1 hG.2.1 hG.2.2 q0 he rfl k hk hlink (fun _ h => h) hfin (tyX1_ok k hk) hn hfit hl hdg (fun H1 l1 h1 h2 h3 => kk H1 l1 (by rw [← hw]; exact ⟨h1, h2, h3⟩))
theorem w_get2 (F : CallFix p m c cc nL s args Ts own) (hK : KK D y s) (hG : GG D A H0 ws H locs) (hin : ∀ w ∈ wsX20, w ∈ Ts) (q0 : Nat) {a : Nat} {fs : List Value} (he : ws[q0]? = some (a, .inr (2, fs))) (k : Nat) (hk : k < 12) {index : Nat} (hlink : (Cond.fieldLink own index (TX2 k).1 (TX2 k).2.1 (TX2 k).2.2.1).before args s = true) {v : Value} (hv : fs[k]? = some v) (hdg : decode cc pc = .ok (.getfield index, 3)) (kk : W p l e R s m args below meth c H locs cells slots Q (F0 m (pc + 3) ls (v :: rest))) : W p l e R s m args below meth c H locs cells slots Q (F0 m pc ls (.ref a :: rest)) :=
  va_get (C := RX2) (T := TX2) (N := 12) F.1 F.2.1 F.2.2.2.2 hin F.2.2.2.1 hK.1 hG.1 q0 he rfl k hk hlink (fun _ h => h) hv hdg kk
theorem w_put2 (F : CallFix p m c cc nL s args Ts own) (hK : KK D y s) (hG : GG D A H0 ws H locs) (hin : ∀ w ∈ wsX20, w ∈ Ts) (q0 : Nat) {a : Nat} {fs : List Value} (he : ws[q0]? = some (a, .inr (2, fs))) (k : Nat) (hk : k < 12) {index : Nat} (hlink : (Cond.fieldLink own index (TX2 k).1 (TX2 k).2.1 (TX2 k).2.2.1).before args s = true) (hfin : (TX2 k).2.2.2 = false) {v : Value} (hn : narrow (tyX2 k) v = v) (hfit : fits (tyX2 k) v = true) (hl : k < fs.length) (ws2 : va_W) (hw : ws.set q0 (a, .inr (2, fs.set k v)) = ws2) (hdg : decode cc pc = .ok (.putfield index, 3)) (kk : ∀ (H : Heap) (locs : List Loc), GG D A H0 ws2 H locs → W p l e R s m args below meth c H locs cells slots Q (F0 m (pc + 3) ls rest)) : W p l e R s m args below meth c H locs cells slots Q (F0 m pc ls (v :: .ref a :: rest)) :=
  va_put (C := RX2) (T := TX2) (N := 12) F.1 F.2.1 F.2.2.2.2 hin tyX2 tyX2_ok nmX2 F.2.2.2.1 hK.1 hG.1 hG.2.1 hG.2.2 q0 he rfl k hk hlink (fun _ h => h) hfin (tyX2_ok k hk) hn hfit hl hdg (fun H1 l1 h1 h2 h3 => kk H1 l1 (by rw [← hw]; exact ⟨h1, h2, h3⟩))
theorem w_get3 (F : CallFix p m c cc nL s args Ts own) (hK : KK D y s) (hG : GG D A H0 ws H locs) (hin : ∀ w ∈ wsX30, w ∈ Ts) (q0 : Nat) {a : Nat} {fs : List Value} (he : ws[q0]? = some (a, .inr (3, fs))) (k : Nat) (hk : k < 9) {index : Nat} (hlink : (Cond.fieldLink own index (TX3 k).1 (TX3 k).2.1 (TX3 k).2.2.1).before args s = true) {v : Value} (hv : fs[k]? = some v) (hdg : decode cc pc = .ok (.getfield index, 3)) (kk : W p l e R s m args below meth c H locs cells slots Q (F0 m (pc + 3) ls (v :: rest))) : W p l e R s m args below meth c H locs cells slots Q (F0 m pc ls (.ref a :: rest)) :=
  va_get (C := RX3) (T := TX3) (N := 9) F.1 F.2.1 F.2.2.2.2 hin F.2.2.2.1 hK.1 hG.1 q0 he rfl k hk hlink (fun _ h => h) hv hdg kk
theorem w_put3 (F : CallFix p m c cc nL s args Ts own) (hK : KK D y s) (hG : GG D A H0 ws H locs) (hin : ∀ w ∈ wsX30, w ∈ Ts) (q0 : Nat) {a : Nat} {fs : List Value} (he : ws[q0]? = some (a, .inr (3, fs))) (k : Nat) (hk : k < 9) {index : Nat} (hlink : (Cond.fieldLink own index (TX3 k).1 (TX3 k).2.1 (TX3 k).2.2.1).before args s = true) (hfin : (TX3 k).2.2.2 = false) {v : Value} (hn : narrow (tyX3 k) v = v) (hfit : fits (tyX3 k) v = true) (hl : k < fs.length) (ws2 : va_W) (hw : ws.set q0 (a, .inr (3, fs.set k v)) = ws2) (hdg : decode cc pc = .ok (.putfield index, 3)) (kk : ∀ (H : Heap) (locs : List Loc), GG D A H0 ws2 H locs → W p l e R s m args below meth c H locs cells slots Q (F0 m (pc + 3) ls rest)) : W p l e R s m args below meth c H locs cells slots Q (F0 m pc ls (v :: .ref a :: rest)) :=
  va_put (C := RX3) (T := TX3) (N := 9) F.1 F.2.1 F.2.2.2.2 hin tyX3 tyX3_ok nmX3 F.2.2.2.1 hK.1 hG.1 hG.2.1 hG.2.2 q0 he rfl k hk hlink (fun _ h => h) hfin (tyX3_ok k hk) hn hfit hl hdg (fun H1 l1 h1 h2 h3 => kk H1 l1 (by rw [← hw]; exact ⟨h1, h2, h3⟩))
theorem w_get4 (F : CallFix p m c cc nL s args Ts own) (hK : KK D y s) (hG : GG D A H0 ws H locs) (hin : ∀ w ∈ wsX40, w ∈ Ts) (q0 : Nat) {a : Nat} {fs : List Value} (he : ws[q0]? = some (a, .inr (4, fs))) (k : Nat) (hk : k < 21) {index : Nat} (hlink : (Cond.fieldLink own index (TX4 k).1 (TX4 k).2.1 (TX4 k).2.2.1).before args s = true) {v : Value} (hv : fs[k]? = some v) (hdg : decode cc pc = .ok (.getfield index, 3)) (kk : W p l e R s m args below meth c H locs cells slots Q (F0 m (pc + 3) ls (v :: rest))) : W p l e R s m args below meth c H locs cells slots Q (F0 m pc ls (.ref a :: rest)) :=
  va_get (C := RX4) (T := TX4) (N := 21) F.1 F.2.1 F.2.2.2.2 hin F.2.2.2.1 hK.1 hG.1 q0 he rfl k hk hlink (fun _ h => h) hv hdg kk
theorem w_put4 (F : CallFix p m c cc nL s args Ts own) (hK : KK D y s) (hG : GG D A H0 ws H locs) (hin : ∀ w ∈ wsX40, w ∈ Ts) (q0 : Nat) {a : Nat} {fs : List Value} (he : ws[q0]? = some (a, .inr (4, fs))) (k : Nat) (hk : k < 21) {index : Nat} (hlink : (Cond.fieldLink own index (TX4 k).1 (TX4 k).2.1 (TX4 k).2.2.1).before args s = true) (hfin : (TX4 k).2.2.2 = false) {v : Value} (hn : narrow (tyX4 k) v = v) (hfit : fits (tyX4 k) v = true) (hl : k < fs.length) (ws2 : va_W) (hw : ws.set q0 (a, .inr (4, fs.set k v)) = ws2) (hdg : decode cc pc = .ok (.putfield index, 3)) (kk : ∀ (H : Heap) (locs : List Loc), GG D A H0 ws2 H locs → W p l e R s m args below meth c H locs cells slots Q (F0 m (pc + 3) ls rest)) : W p l e R s m args below meth c H locs cells slots Q (F0 m pc ls (v :: .ref a :: rest)) :=
  va_put (C := RX4) (T := TX4) (N := 21) F.1 F.2.1 F.2.2.2.2 hin tyX4 tyX4_ok nmX4 F.2.2.2.1 hK.1 hG.1 hG.2.1 hG.2.2 q0 he rfl k hk hlink (fun _ h => h) hfin (tyX4_ok k hk) hn hfit hl hdg (fun H1 l1 h1 h2 h3 => kk H1 l1 (by rw [← hw]; exact ⟨h1, h2, h3⟩))
theorem w_iald (F : CallFix p m c cc nL s args Ts own) (hK : KK D y s) (hG : GG D A H0 ws H locs) (q0 : Nat) {a n : Nat} {f : Ar} (ha : ws[q0]? = some (a, .inl (y 0, n, .inl f))) {i : Int32} (hin : ix i n = true) (hdg : decode cc pc = .ok (.iaload, 1)) (kk : W p l e R s m args below meth c H locs cells slots Q (F0 m (pc + 1) ls (.int (f i.toNatClampNeg) :: rest))) : W p l e R s m args below meth c H locs cells slots Q (F0 m pc ls (.int i :: .ref a :: rest)) :=
  va_iald F.1 F.2.1 hK.1 hG.1 q0 0 ha rfl (ix_in hin) hdg kk
theorem w_ialdk (F : CallFix p m c cc nL s args Ts own) (hK : KK D y s) (hG : GG D A H0 ws H locs) (q0 : Nat) {a n : Nat} {f : Ar} (ha : ws[q0]? = some (a, .inl (y 0, n, .inl f))) {i : Nat} (hin : i < n) (hs : i < 2 ^ 31) (hdg : decode cc pc = .ok (.iaload, 1)) (kk : W p l e R s m args below meth c H locs cells slots Q (F0 m (pc + 1) ls (.int (f i) :: rest))) : W p l e R s m args below meth c H locs cells slots Q (F0 m pc ls (.int (nI i) :: .ref a :: rest)) := by
  refine va_iald F.1 F.2.1 hK.1 hG.1 q0 0 ha rfl (i := nI i) ?_ hdg ?_
  · intro h
    rcases h with h | h
    · exact nI_pos hs h
    · rw [nI_clamp hs] at h; omega
  · rw [nI_clamp hs]; exact kk
theorem w_iast (F : CallFix p m c cc nL s args Ts own) (hK : KK D y s) (hG : GG D A H0 ws H locs) (q0 : Nat) {a n : Nat} {f : Ar} (ha : ws[q0]? = some (a, .inl (y 0, n, .inl f))) {i x : Int32} (hin : ix i n = true) (ws2 : va_W) (hw : ws.set q0 (a, .inl (y 0, n, .inl (upd f i.toNatClampNeg x))) = ws2) (hdg : decode cc pc = .ok (.iastore, 1)) (kk : ∀ (H : Heap) (locs : List Loc), GG D A H0 ws2 H locs → W p l e R s m args below meth c H locs cells slots Q (F0 m (pc + 1) ls rest)) : W p l e R s m args below meth c H locs cells slots Q (F0 m pc ls (.int x :: .int i :: .ref a :: rest)) :=
  va_iast F.1 F.2.1 hK.1 hG.1 hG.2.1 hG.2.2 q0 0 ha rfl (ix_in hin) hdg (fun H1 l1 h1 h2 h3 => kk H1 l1 (by rw [← hw]; exact ⟨h1, h2, h3⟩))
theorem w_iastk (F : CallFix p m c cc nL s args Ts own) (hK : KK D y s) (hG : GG D A H0 ws H locs) (q0 : Nat) {a n : Nat} {f : Ar} (ha : ws[q0]? = some (a, .inl (y 0, n, .inl f))) {i : Nat} {x : Int32} (hin : i < n) (hs : i < 2 ^ 31) (ws2 : va_W) (hw : ws.set q0 (a, .inl (y 0, n, .inl (upd f i x))) = ws2) (hdg : decode cc pc = .ok (.iastore, 1)) (kk : ∀ (H : Heap) (locs : List Loc), GG D A H0 ws2 H locs → W p l e R s m args below meth c H locs cells slots Q (F0 m (pc + 1) ls rest)) : W p l e R s m args below meth c H locs cells slots Q (F0 m pc ls (.int x :: .int (nI i) :: .ref a :: rest)) := by
  refine va_iast F.1 F.2.1 hK.1 hG.1 hG.2.1 hG.2.2 q0 0 ha rfl (i := nI i) ?_ hdg (fun H1 l1 h1 h2 h3 => kk H1 l1 ?_)
  · intro h
    rcases h with h | h
    · exact nI_pos hs h
    · rw [nI_clamp hs] at h; omega
  · rw [nI_clamp hs, hw] at h1 h2; exact ⟨h1, h2, h3⟩
theorem w_zald (F : CallFix p m c cc nL s args Ts own) (hK : KK D y s) (hG : GG D A H0 ws H locs) (q0 : Nat) {a n : Nat} {f : Ar} (ha : ws[q0]? = some (a, .inl (y 1, n, .inl f))) {i : Int32} (hin : ix i n = true) (hdg : decode cc pc = .ok (.baload, 1)) (kk : W p l e R s m args below meth c H locs cells slots Q (F0 m (pc + 1) ls (.int (f i.toNatClampNeg) :: rest))) : W p l e R s m args below meth c H locs cells slots Q (F0 m pc ls (.int i :: .ref a :: rest)) :=
  va_zald F.1 F.2.1 hK.1 hG.1 q0 1 ha rfl (ix_in hin) hdg kk
theorem w_zast (F : CallFix p m c cc nL s args Ts own) (hK : KK D y s) (hG : GG D A H0 ws H locs) (q0 : Nat) {a n : Nat} {f : Ar} (ha : ws[q0]? = some (a, .inl (y 1, n, .inl f))) {i x : Int32} (hx : vp_nar .boolean x = x) (hin : ix i n = true) (ws2 : va_W) (hw : ws.set q0 (a, .inl (y 1, n, .inl (upd f i.toNatClampNeg x))) = ws2) (hdg : decode cc pc = .ok (.bastore, 1)) (kk : ∀ (H : Heap) (locs : List Loc), GG D A H0 ws2 H locs → W p l e R s m args below meth c H locs cells slots Q (F0 m (pc + 1) ls rest)) : W p l e R s m args below meth c H locs cells slots Q (F0 m pc ls (.int x :: .int i :: .ref a :: rest)) :=
  va_zast F.1 F.2.1 hK.1 hG.1 hG.2.1 hG.2.2 q0 1 ha rfl (ix_in hin) hdg (fun H1 l1 h1 h2 h3 => kk H1 l1 (by rw [hx] at h1 h2; rw [← hw]; exact ⟨h1, h2, h3⟩))
theorem w_cald (F : CallFix p m c cc nL s args Ts own) (hK : KK D y s) (hG : GG D A H0 ws H locs) (q0 : Nat) {a n : Nat} {f : Ar} (ha : ws[q0]? = some (a, .inl (y 2, n, .inl f))) {i : Int32} (hin : ix i n = true) (hdg : decode cc pc = .ok (.caload, 1)) (kk : W p l e R s m args below meth c H locs cells slots Q (F0 m (pc + 1) ls (.int (f i.toNatClampNeg) :: rest))) : W p l e R s m args below meth c H locs cells slots Q (F0 m pc ls (.int i :: .ref a :: rest)) :=
  va_cald F.1 F.2.1 hK.1 hG.1 q0 2 ha rfl (ix_in hin) hdg kk
theorem w_cast (F : CallFix p m c cc nL s args Ts own) (hK : KK D y s) (hG : GG D A H0 ws H locs) (q0 : Nat) {a n : Nat} {f : Ar} (ha : ws[q0]? = some (a, .inl (y 2, n, .inl f))) {i x : Int32} (hx : vp_nar .char x = x) (hin : ix i n = true) (ws2 : va_W) (hw : ws.set q0 (a, .inl (y 2, n, .inl (upd f i.toNatClampNeg x))) = ws2) (hdg : decode cc pc = .ok (.castore, 1)) (kk : ∀ (H : Heap) (locs : List Loc), GG D A H0 ws2 H locs → W p l e R s m args below meth c H locs cells slots Q (F0 m (pc + 1) ls rest)) : W p l e R s m args below meth c H locs cells slots Q (F0 m pc ls (.int x :: .int i :: .ref a :: rest)) :=
  va_cast F.1 F.2.1 hK.1 hG.1 hG.2.1 hG.2.2 q0 2 ha rfl (ix_in hin) hdg (fun H1 l1 h1 h2 h3 => kk H1 l1 (by rw [hx] at h1 h2; rw [← hw]; exact ⟨h1, h2, h3⟩))
theorem w_copy (F : CallFix p m c cc nL s args Ts own) (hK : KK D y s) (hG : GG D A H0 ws H locs) (hsz : ls.size = nL) {index : Nat} (hlink : (Cond.methodLink own index arraycopyName).before args s = true) (hnat : (Cond.native arraycopyName).before args s = true) (hstat : (Cond.static arraycopyName).before args s = true) (hini : (Cond.initialized "java/lang/System").before args s = true) (q0 q1 : Nat) {a0 a1 n0 n1 : Nat} {f g : Ar} (ha0 : ws[q0]? = some (a0, .inl (y 0, n0, .inl f))) (ha1 : ws[q1]? = some (a1, .inl (y 0, n1, .inl g))) {sp dp n : Int32} (hin : cpok n0 n1 sp dp n = true) (ws2 : va_W) (hw : ws.set q1 (a1, .inl (y 0, n1, .inl (cpA f g sp dp n))) = ws2) (hR : 1 ≤ R.frames ∧ (rest.map fun v => v.category).sum + (nativeFrameWords "java/lang/System" "arraycopy" 5 + 11) ≤ R.locals) (hdg : decode cc pc = .ok (.invokestatic index, 3)) (kk : ∀ (H : Heap) (locs : List Loc), GG D A H0 ws2 H locs → W p l e R s m args below meth c H locs cells slots Q (F0 m (pc + 3) ls rest)) : W p l e R s m args below meth c H locs cells slots Q (F0 m pc ls (.int n :: .int dp :: .ref a1 :: .int sp :: .ref a0 :: rest)) := by
  obtain ⟨h1, h2, h3, h4, h5⟩ := cpok_e hin
  exact va_copyi (ty := .int) F.1 F.2.1 (F.2.2.1.trans hsz.symm) F.2.2.2.1 hlink hnat hstat hini hK.1 hG.1 hG.2.1 hG.2.2 q0 q1 0 0 ha0 ha1 rfl rfl rfl h1 h2 h3 h4 h5 (fun _ _ => rfl) hR.1 hR.2 hdg (fun H1 l1 h1 h2 h3 => kk H1 l1 (by rw [← hw]; exact ⟨h1, h2, h3⟩))
theorem w_min (F : CallFix p m c cc nL s args Ts own) (hsz : ls.size = nL) {index : Nat} (hlink : (Cond.methodLink own index Lib.Math.min.name).before args s = true) (hstat : (Cond.static Lib.Math.min.name).before args s = true) (hini : (Cond.initialized "java/lang/Math").before args s = true) (hcode : (Cond.code Lib.Math.min.name Lib.Math.min.code 2 (some .int)).before args s = true) (hR : 1 ≤ R.frames ∧ (rest.map fun v => v.category).sum + 13 ≤ R.locals) (hc : cells ≤ R.cells ∧ slots ≤ R.slots) {x z : Int32} (hdg : decode cc pc = .ok (.invokestatic index, 3)) (kk : W p l e R s m args below meth c H locs cells slots Q (F0 m (pc + 3) ls (.int (jmin x z) :: rest))) : W p l e R s m args below meth c H locs cells slots Q (F0 m pc ls (.int z :: .int x :: rest)) :=
  va_mmin F.1 F.2.1 (F.2.2.1.trans hsz.symm) F.2.2.2.1 hlink hstat hini hcode hR.1 hR.2 hc.1 hc.2 hdg kk
theorem w_max (F : CallFix p m c cc nL s args Ts own) (hsz : ls.size = nL) {index : Nat} (hlink : (Cond.methodLink own index Lib.Math.max.name).before args s = true) (hstat : (Cond.static Lib.Math.max.name).before args s = true) (hini : (Cond.initialized "java/lang/Math").before args s = true) (hcode : (Cond.code Lib.Math.max.name Lib.Math.max.code 2 (some .int)).before args s = true) (hR : 1 ≤ R.frames ∧ (rest.map fun v => v.category).sum + 13 ≤ R.locals) (hc : cells ≤ R.cells ∧ slots ≤ R.slots) {x z : Int32} (hdg : decode cc pc = .ok (.invokestatic index, 3)) (kk : W p l e R s m args below meth c H locs cells slots Q (F0 m (pc + 3) ls (.int (jmax x z) :: rest))) : W p l e R s m args below meth c H locs cells slots Q (F0 m pc ls (.int z :: .int x :: rest)) :=
  va_mmax F.1 F.2.1 (F.2.2.1.trans hsz.symm) F.2.2.2.1 hlink hstat hini hcode hR.1 hR.2 hc.1 hc.2 hdg kk
theorem w_aald (F : CallFix p m c cc nL s args Ts own) (hK : KK D y s) (hG : GG D A H0 ws H locs) (q0 : Nat) {a n : Nat} {f : Nat → Option Nat} (ha : ws[q0]? = some (a, .inl (y 3, n, .inr (.inr (.inr (.inr f)))))) {i : Int32} (hin : ix i n = true) {k v : Nat} (hk : k = i.toNatClampNeg) (hv : f k = some v) (hdg : decode cc pc = .ok (.aaload, 1)) (kk : W p l e R s m args below meth c H locs cells slots Q (F0 m (pc + 1) ls (.ref v :: rest))) : W p l e R s m args below meth c H locs cells slots Q (F0 m pc ls (.int i :: .ref a :: rest)) := by
  subst hk
  refine va_aldq F.1 F.2.1 hK.1 hG.1 q0 3 ha rfl (ix_in hin) hdg ?_
  rw [hv]
  exact kk
variable {yn : MethodName} {wn wn' : List Cond} {fr lo : Nat} {As : List Value} {wc wc' : va_W} {b : Nat} {bytes : ByteArray} {maxL n index : Nat} {st0 : List Value}
theorem pre_of (hK : KK D y s) (av : List Value) (hP : va_P D vwCl wc H) (hD : va_D (fun _ => True) wc) : ∀ U : State, U.heap = H → s.WarmedH U.vm → va_Pc av (Pre1 D y wc H.size) av.toArray U := fun U hU hW => ⟨rfl, by rw [hU], by rw [hU]; exact hP, ⟨va_K.moved hW.alike hK.1, hK.2.warm hW⟩, hD⟩
/-- a virtual call that answers an int (or a boolean), over the cells at the places is -/
theorem k_Vi (F : CallFix p m c cc nL s args Ts own) (hK : KK D y s) (hA : ∀ q, H0.size ≤ q → A q) (hG : GG D A H0 ws H locs) {r : Int32} {ret : Option FieldType} {C : String} {T : u_T} {N ci : Nat} {fs : List Value}
    (hM : MI l yn wn fr lo (.ref b :: As) D y wc H.size r wc') (cw : CallW R s args own C index yn bytes maxL ret wn (RM fr lo) 0 0 n)
    (j : Nat) (hb : wc[j]? = some (b, .inr (ci, fs))) (hc : vwCl[ci]? = some (C, T, N)) (is : List Nat) (hsub : is.map (fun i => ws[i]?) = wc.map some) (hnd : va_nd is = true) (hadr : wc'.map Prod.fst = wc.map Prod.fst) (ws2 : va_W) (hw2 : stL ws is wc' = ws2)
    (hst : st0 = As.reverse ++ .ref b :: rest) (hn : As.length = n) (hsz : ls.size = nL) (hcat : (rest.map fun v => v.category).sum ≤ 8) (hdg : decode cc pc = .ok (.invokevirtual index, 3)) (hf : cells ≤ R.cells ∧ slots ≤ R.slots)
    (kk : ∀ (H : Heap) (locs : List Loc), GG D A H0 ws2 H locs → W p l e R s m args below meth c H locs cells slots Q (F0 m (pc + 3) ls (.int r :: rest))) : W p l e R s m args below meth c H locs cells slots Q (F0 m pc ls st0) := by
  obtain ⟨hPc, hDc, hFc⟩ := hG.part hA is hsub hnd
  refine va_calli (va_runV (As := As) (rest := rest) F hM cw ⟨pre_blind, va_recv hK.1 hPc hc hb, pre_of hK _ hPc hDc⟩ rfl hn hsz hst (lv_room hcat) hdg hf) hG.2.2 (fun q _ h => hFc q h) hFc (fun r1 u t H1 locs1 ht hvm hw hB hz hk hS => ?_)
  subst hw
  subst hw2
  exact kk H1 locs1 (hG.callP is hsub hadr hk (ht ▸ hB) hS)
theorem k_Vv (F : CallFix p m c cc nL s args Ts own) (hK : KK D y s) (hA : ∀ q, H0.size ≤ q → A q) (hG : GG D A H0 ws H locs) {C : String} {T : u_T} {N ci : Nat} {fs : List Value}
    (hM : MV l yn wn fr lo (.ref b :: As) D y wc H.size wc') (cw : CallW R s args own C index yn bytes maxL none wn (RM fr lo) 0 0 n)
    (j : Nat) (hb : wc[j]? = some (b, .inr (ci, fs))) (hc : vwCl[ci]? = some (C, T, N)) (is : List Nat) (hsub : is.map (fun i => ws[i]?) = wc.map some) (hnd : va_nd is = true) (hadr : wc'.map Prod.fst = wc.map Prod.fst) (ws2 : va_W) (hw2 : stL ws is wc' = ws2)
    (hst : st0 = As.reverse ++ .ref b :: rest) (hn : As.length = n) (hsz : ls.size = nL) (hcat : (rest.map fun v => v.category).sum ≤ 8) (hdg : decode cc pc = .ok (.invokevirtual index, 3)) (hf : cells ≤ R.cells ∧ slots ≤ R.slots)
    (kk : ∀ (H : Heap) (locs : List Loc), GG D A H0 ws2 H locs → W p l e R s m args below meth c H locs cells slots Q (F0 m (pc + 3) ls rest)) : W p l e R s m args below meth c H locs cells slots Q (F0 m pc ls st0) := by
  obtain ⟨hPc, hDc, hFc⟩ := hG.part hA is hsub hnd
  refine va_callv (va_runV (As := As) (rest := rest) F hM cw ⟨pre_blind, va_recv hK.1 hPc hc hb, pre_of hK _ hPc hDc⟩ rfl hn hsz hst (lv_room hcat) hdg hf) hG.2.2 (fun q _ h => hFc q h) hFc (fun u t H1 locs1 ht hvm hw hB hz hk hS => ?_)
  subst hw2
  exact kk H1 locs1 (hG.callP is hsub hadr hk (ht ▸ hB) hS)
/-- the same over the caller's whole world -/
theorem k_Wi (F : CallFix p m c cc nL s args Ts own) (hK : KK D y s) (hA : ∀ q, H0.size ≤ q → A q) (hG : GG D A H0 ws H locs) {r : Int32} {ret : Option FieldType} {C : String} {T : u_T} {N ci : Nat} {fs : List Value}
    (hM : MI l yn wn fr lo (.ref b :: As) D y ws H.size r wc') (cw : CallW R s args own C index yn bytes maxL ret wn (RM fr lo) 0 0 n)
    (j : Nat) (hb : ws[j]? = some (b, .inr (ci, fs))) (hc : vwCl[ci]? = some (C, T, N)) (hadr : wc'.map Prod.fst = ws.map Prod.fst)
    (hst : st0 = As.reverse ++ .ref b :: rest) (hn : As.length = n) (hsz : ls.size = nL) (hcat : (rest.map fun v => v.category).sum ≤ 8) (hdg : decode cc pc = .ok (.invokevirtual index, 3)) (hf : cells ≤ R.cells ∧ slots ≤ R.slots)
    (kk : ∀ (H : Heap) (locs : List Loc), GG D A H0 wc' H locs → W p l e R s m args below meth c H locs cells slots Q (F0 m (pc + 3) ls (.int r :: rest))) : W p l e R s m args below meth c H locs cells slots Q (F0 m pc ls st0) := by
  have hFc : ∀ q, va_A ws H.size q → A q := fun q h => by
    rcases h with ⟨k, e, h⟩ | h
    · exact hG.2.1.2 k _ h
    · exact hA q (Nat.le_trans hG.2.2.1 h)
  refine va_calli (va_runV (As := As) (rest := rest) F hM cw ⟨pre_blind, va_recv hK.1 hG.1 hc hb, pre_of hK _ hG.1 (hG.2.1.weaken (fun _ _ _ _ => trivial))⟩ rfl hn hsz hst (lv_room hcat) hdg hf) hG.2.2 (fun q _ h => hFc q h) hFc (fun r1 u t H1 locs1 ht hvm hw hB hz hk hS => ?_)
  subst hw
  exact kk H1 locs1 ⟨ht ▸ hB, hG.2.1.addr hadr, hS⟩
theorem k_Wv (F : CallFix p m c cc nL s args Ts own) (hK : KK D y s) (hA : ∀ q, H0.size ≤ q → A q) (hG : GG D A H0 ws H locs) {C : String} {T : u_T} {N ci : Nat} {fs : List Value}
    (hM : MV l yn wn fr lo (.ref b :: As) D y ws H.size wc') (cw : CallW R s args own C index yn bytes maxL none wn (RM fr lo) 0 0 n)
    (j : Nat) (hb : ws[j]? = some (b, .inr (ci, fs))) (hc : vwCl[ci]? = some (C, T, N)) (hadr : wc'.map Prod.fst = ws.map Prod.fst)
    (hst : st0 = As.reverse ++ .ref b :: rest) (hn : As.length = n) (hsz : ls.size = nL) (hcat : (rest.map fun v => v.category).sum ≤ 8) (hdg : decode cc pc = .ok (.invokevirtual index, 3)) (hf : cells ≤ R.cells ∧ slots ≤ R.slots)
    (kk : ∀ (H : Heap) (locs : List Loc), GG D A H0 wc' H locs → W p l e R s m args below meth c H locs cells slots Q (F0 m (pc + 3) ls rest)) : W p l e R s m args below meth c H locs cells slots Q (F0 m pc ls st0) := by
  have hFc : ∀ q, va_A ws H.size q → A q := fun q h => by
    rcases h with ⟨k, e, h⟩ | h
    · exact hG.2.1.2 k _ h
    · exact hA q (Nat.le_trans hG.2.2.1 h)
  refine va_callv (va_runV (As := As) (rest := rest) F hM cw ⟨pre_blind, va_recv hK.1 hG.1 hc hb, pre_of hK _ hG.1 (hG.2.1.weaken (fun _ _ _ _ => trivial))⟩ rfl hn hsz hst (lv_room hcat) hdg hf) hG.2.2 (fun q _ h => hFc q h) hFc (fun u t H1 locs1 ht hvm hw hB hz hk hS => ?_)
  exact kk H1 locs1 ⟨ht ▸ hB, hG.2.1.addr hadr, hS⟩
theorem nil_part : va_P D vwCl [] H ∧ va_D (fun _ => True) [] := ⟨fun k q h => by simp at h, fun i j p q h => by simp at h, fun k q h => by simp at h⟩
theorem nil_A {sz q : Nat} (h : va_A [] sz q) : sz ≤ q := by
  rcases h with ⟨k, e, h⟩ | h
  · simp at h
  · exact h
/-- a static call that needs no cells -/
theorem k_Si (F : CallFix p m c cc nL s args Ts own) (hK : KK D y s) (hA : ∀ q, H0.size ≤ q → A q) (hG : GG D A H0 ws H locs) {r : Int32} {ret : Option FieldType}
    (hM : MI l yn wn fr lo As D y [] H.size r []) (cw : CallB R s args own index yn bytes maxL ret wn (RM fr lo) 0 0 n ∧ (Cond.static yn).before args s = true)
    (hst : st0 = As.reverse ++ rest) (hn : As.length = n) (hsz : ls.size = nL) (hcat : (rest.map fun v => v.category).sum ≤ 8) (hdg : decode cc pc = .ok (.invokestatic index, 3)) (hf : cells ≤ R.cells ∧ slots ≤ R.slots)
    (kk : ∀ (H : Heap) (locs : List Loc), GG D A H0 ws H locs → W p l e R s m args below meth c H locs cells slots Q (F0 m (pc + 3) ls (.int r :: rest))) : W p l e R s m args below meth c H locs cells slots Q (F0 m pc ls st0) := by
  have hFc : ∀ q, va_A [] H.size q → A q := fun q h => hA q (Nat.le_trans hG.2.2.1 (nil_A h))
  refine va_calli (va_runS (As := As) (rest := rest) F hM cw ⟨pre_blind, pre_of hK _ (nil_part (D := D) (H := H)).1 (nil_part (D := D) (H := H)).2⟩ rfl hn hsz hst (lv_room hcat) hdg hf) hG.2.2 (fun q _ h => hFc q h) hFc (fun r1 u t H1 locs1 ht hvm hw hB hz hk hS => ?_)
  subst hw
  exact kk H1 locs1 ⟨hG.1.kept (fun k q hq => hk q.1 (hG.1 k q hq).lt (fun h => by have := nil_A h; have := (hG.1 k q hq).lt; omega)), hG.2.1, hS⟩
theorem k_SNi (F : CallFix p m c cc nL s args Ts own) (hK : KK D y s) (hA : ∀ q, H0.size ≤ q → A q) (hG : GG D A H0 ws H locs) {r : Int32} {ret : Option FieldType} {host : String}
    (hM : MI l yn wn fr lo As D y [] H.size r []) (cw : va_CN R s args own index yn host bytes maxL ret wn (RM fr lo) 0 0 n ∧ (Cond.static yn).before args s = true ∧ True)
    (hst : st0 = As.reverse ++ rest) (hn : As.length = n) (hsz : ls.size = nL) (hcat : (rest.map fun v => v.category).sum ≤ 8) (hdg : decode cc pc = .ok (.invokestatic index, 3)) (hf : cells ≤ R.cells ∧ slots ≤ R.slots)
    (kk : ∀ (H : Heap) (locs : List Loc), GG D A H0 ws H locs → W p l e R s m args below meth c H locs cells slots Q (F0 m (pc + 3) ls (.int r :: rest))) : W p l e R s m args below meth c H locs cells slots Q (F0 m pc ls st0) := by
  have hFc : ∀ q, va_A [] H.size q → A q := fun q h => hA q (Nat.le_trans hG.2.2.1 (nil_A h))
  refine va_calli (va_runSN (As := As) (rest := rest) F hM cw ⟨pre_blind, pre_of hK _ (nil_part (D := D) (H := H)).1 (nil_part (D := D) (H := H)).2⟩ rfl hn hsz hst (lv_room hcat) hdg hf) hG.2.2 (fun q _ h => hFc q h) hFc (fun r1 u t H1 locs1 ht hvm hw hB hz hk hS => ?_)
  subst hw
  exact kk H1 locs1 ⟨hG.1.kept (fun k q hq => hk q.1 (hG.1 k q hq).lt (fun h => by have := nil_A h; have := (hG.1 k q hq).lt; omega)), hG.2.1, hS⟩
/-- a static call that answers nothing, over the cells at the places is -/
theorem k_Sv (F : CallFix p m c cc nL s args Ts own) (hK : KK D y s) (hA : ∀ q, H0.size ≤ q → A q) (hG : GG D A H0 ws H locs)
    (hM : MV l yn wn fr lo As D y wc H.size wc') (cw : CallB R s args own index yn bytes maxL none wn (RM fr lo) 0 0 n ∧ (Cond.static yn).before args s = true)
    (is : List Nat) (hsub : is.map (fun i => ws[i]?) = wc.map some) (hnd : va_nd is = true) (hadr : wc'.map Prod.fst = wc.map Prod.fst) (ws2 : va_W) (hw2 : stL ws is wc' = ws2)
    (hst : st0 = As.reverse ++ rest) (hn : As.length = n) (hsz : ls.size = nL) (hcat : (rest.map fun v => v.category).sum ≤ 8) (hdg : decode cc pc = .ok (.invokestatic index, 3)) (hf : cells ≤ R.cells ∧ slots ≤ R.slots)
    (kk : ∀ (H : Heap) (locs : List Loc), GG D A H0 ws2 H locs → W p l e R s m args below meth c H locs cells slots Q (F0 m (pc + 3) ls rest)) : W p l e R s m args below meth c H locs cells slots Q (F0 m pc ls st0) := by
  obtain ⟨hPc, hDc, hFc⟩ := hG.part hA is hsub hnd
  refine va_callv (va_runS (As := As) (rest := rest) F hM cw ⟨pre_blind, pre_of hK _ hPc hDc⟩ rfl hn hsz hst (lv_room hcat) hdg hf) hG.2.2 (fun q _ h => hFc q h) hFc (fun u t H1 locs1 ht hvm hw hB hz hk hS => ?_)
  subst hw2
  exact kk H1 locs1 (hG.callP is hsub hadr hk (ht ▸ hB) hS)
end BW
/-- a method's entry: what its body is walked over -/
theorem M_i {l : Launch} {yn : MethodName} {wn wn' : List Cond} {fr lo maxL sz : Nat} {av : List Value} {D : va_G} {y : Nat → ClassId} {ws ws' : va_W} {r : Int32} {cc : ByteArray} {own : String} (hy : plainName yn.cls = true) (hw : wn = .code yn cc maxL (some .int) :: wn') (hown : yn.cls = own) (hle : (lg_sl av).length ≤ maxL)
    (body : ∀ (p : Program) (e : Env) (s : State) (m : MethodId) (args : Array Value) (below : List Frame) (meth : Method) (c : Code) (A : Nat → Prop) (Q : State → Prop), CallFix p m c cc maxL s args wn own → KK D y s → (∀ q, s.heap.size ≤ q → A q) → ∀ (H : Heap) (locs : List Loc), GG D A s.heap ws H locs →
      (∀ (v : Int32) (H : Heap) (locs : List Loc) (pc : Nat) (ls : Array Slot), v = r → GG D A s.heap ws' H locs → decode cc pc = .ok (.ireturn, 1) → W p l e (RM fr lo) s m args below meth c H locs 0 0 Q (F0 m pc ls [.int v])) →
      ∀ ls, lv_has ls maxL (lv_args 0 av) → W p l e (RM fr lo) s m args below meth c H locs 0 0 Q (F0 m 0 ls [])) : MI l yn wn fr lo av D y ws sz r ws' := by
  refine Met.ofW (cc := cc) (maxL := maxL) (ret := some .int) hy hw ?_
  intro p e s m args below meth c s₁ B hml hv
  obtain ⟨rfl, hsz, hP, hK, hD0⟩ := hv
  have hts := atoms_spec (ws := wn) B.pre
  have hl := lv_entry av (n := maxL) hle
  rw [lg_entry_eq]
  subst hsz
  refine body p e s m _ below meth c (va_A ws s.heap.size) _ ⟨B.exec, B.bytes, hml, by rw [← hown]; exact findClass_of_methodNamed B.named, hts⟩ hK (fun q h => Or.inr h) _ _ ⟨hP, hD0.self, va_S.rf⟩ (fun v H locs pc ls e hG hd => ?_) _ hl
  exact W.iret B.exec B.bytes B.returns (fun t ht hW => ⟨⟨v, (), rfl, e, (show va_P D vwCl ws' t.heap by rw [ht]; exact hG.1)⟩, hG.2.2.F ht⟩) hG.2.2.2.2 hd
theorem M_z {l : Launch} {yn : MethodName} {wn wn' : List Cond} {fr lo maxL sz : Nat} {av : List Value} {D : va_G} {y : Nat → ClassId} {ws ws' : va_W} {r : Int32} {cc : ByteArray} {own : String} (hy : plainName yn.cls = true) (hw : wn = .code yn cc maxL (some .boolean) :: wn') (hown : yn.cls = own) (hle : (lg_sl av).length ≤ maxL)
    (body : ∀ (p : Program) (e : Env) (s : State) (m : MethodId) (args : Array Value) (below : List Frame) (meth : Method) (c : Code) (A : Nat → Prop) (Q : State → Prop), CallFix p m c cc maxL s args wn own → KK D y s → (∀ q, s.heap.size ≤ q → A q) → ∀ (H : Heap) (locs : List Loc), GG D A s.heap ws H locs →
      (∀ (v : Int32) (H : Heap) (locs : List Loc) (pc : Nat) (ls : Array Slot), narrow .boolean (.int v) = .int v → v = r → GG D A s.heap ws' H locs → decode cc pc = .ok (.ireturn, 1) → W p l e (RM fr lo) s m args below meth c H locs 0 0 Q (F0 m pc ls [.int v])) →
      ∀ ls, lv_has ls maxL (lv_args 0 av) → W p l e (RM fr lo) s m args below meth c H locs 0 0 Q (F0 m 0 ls [])) : MI l yn wn fr lo av D y ws sz r ws' := by
  refine Met.ofW (cc := cc) (maxL := maxL) (ret := some .boolean) hy hw ?_
  intro p e s m args below meth c s₁ B hml hv
  obtain ⟨rfl, hsz, hP, hK, hD0⟩ := hv
  have hts := atoms_spec (ws := wn) B.pre
  have hl := lv_entry av (n := maxL) hle
  rw [lg_entry_eq]
  subst hsz
  refine body p e s m _ below meth c (va_A ws s.heap.size) _ ⟨B.exec, B.bytes, hml, by rw [← hown]; exact findClass_of_methodNamed B.named, hts⟩ hK (fun q h => Or.inr h) _ _ ⟨hP, hD0.self, va_S.rf⟩ (fun v H locs pc ls hz e hG hd => ?_) _ hl
  exact W.zret B.exec B.bytes B.returns hz (fun t ht hW => ⟨⟨v, (), rfl, e, (show va_P D vwCl ws' t.heap by rw [ht]; exact hG.1)⟩, hG.2.2.F ht⟩) hG.2.2.2.2 hd
theorem M_v {l : Launch} {yn : MethodName} {wn wn' : List Cond} {fr lo maxL sz : Nat} {av : List Value} {D : va_G} {y : Nat → ClassId} {ws ws' : va_W} {cc : ByteArray} {own : String} (hy : plainName yn.cls = true) (hw : wn = .code yn cc maxL none :: wn') (hown : yn.cls = own) (hle : (lg_sl av).length ≤ maxL)
    (body : ∀ (p : Program) (e : Env) (s : State) (m : MethodId) (args : Array Value) (below : List Frame) (meth : Method) (c : Code) (A : Nat → Prop) (Q : State → Prop), CallFix p m c cc maxL s args wn own → KK D y s → (∀ q, s.heap.size ≤ q → A q) → ∀ (H : Heap) (locs : List Loc), GG D A s.heap ws H locs →
      (∀ (H : Heap) (locs : List Loc) (pc : Nat) (ls : Array Slot), GG D A s.heap ws' H locs → decode cc pc = .ok (.return_, 1) → W p l e (RM fr lo) s m args below meth c H locs 0 0 Q (F0 m pc ls [])) →
      ∀ ls, lv_has ls maxL (lv_args 0 av) → W p l e (RM fr lo) s m args below meth c H locs 0 0 Q (F0 m 0 ls [])) : MV l yn wn fr lo av D y ws sz ws' := by
  refine Met.ofW (cc := cc) (maxL := maxL) (ret := none) hy hw ?_
  intro p e s m args below meth c s₁ B hml hv
  obtain ⟨rfl, hsz, hP, hK, hD0⟩ := hv
  have hts := atoms_spec (ws := wn) B.pre
  have hl := lv_entry av (n := maxL) hle
  rw [lg_entry_eq]
  subst hsz
  refine body p e s m _ below meth c (va_A ws s.heap.size) _ ⟨B.exec, B.bytes, hml, by rw [← hown]; exact findClass_of_methodNamed B.named, hts⟩ hK (fun q h => Or.inr h) _ _ ⟨hP, hD0.self, va_S.rf⟩ (fun H locs pc ls hG hd => ?_) _ hl
  exact W.vret B.exec B.bytes B.returns (fun t ht hW => ⟨⟨(), rfl, trivial, (show va_P D vwCl ws' t.heap by rw [ht]; exact hG.1)⟩, hG.2.2.F ht⟩) hG.2.2.2.2 hd
end
section
theorem dJ7_fill_53178_0 : decode cJ7_fill_53178 0 = .ok (.iconst 0, 1) := by decide +kernel
theorem dJ7_fill_53178_1 : decode cJ7_fill_53178 1 = .ok (.istore_n 2, 1) := by decide +kernel
theorem dJ7_fill_53178_2 : decode cJ7_fill_53178 2 = .ok (.aload_n 0, 1) := by decide +kernel
theorem dJ7_fill_53178_3 : decode cJ7_fill_53178 3 = .ok (.arraylength, 1) := by decide +kernel
theorem dJ7_fill_53178_4 : decode cJ7_fill_53178 4 = .ok (.istore_n 3, 1) := by decide +kernel
theorem dJ7_fill_53178_5 : decode cJ7_fill_53178 5 = .ok (.iload_n 2, 1) := by decide +kernel
theorem dJ7_fill_53178_6 : decode cJ7_fill_53178 6 = .ok (.iload_n 3, 1) := by decide +kernel
theorem dJ7_fill_53178_7 : decode cJ7_fill_53178 7 = .ok (.if_icmp .ge 13, 3) := by decide +kernel
theorem dJ7_fill_53178_10 : decode cJ7_fill_53178 10 = .ok (.aload_n 0, 1) := by decide +kernel
theorem dJ7_fill_53178_11 : decode cJ7_fill_53178 11 = .ok (.iload_n 2, 1) := by decide +kernel
theorem dJ7_fill_53178_12 : decode cJ7_fill_53178 12 = .ok (.iload_n 1, 1) := by decide +kernel
theorem dJ7_fill_53178_13 : decode cJ7_fill_53178 13 = .ok (.iastore, 1) := by decide +kernel
theorem dJ7_fill_53178_14 : decode cJ7_fill_53178 14 = .ok (.iinc 2 1, 3) := by decide +kernel
theorem dJ7_fill_53178_17 : decode cJ7_fill_53178 17 = .ok (.goto (-12), 3) := by decide +kernel
theorem dJ7_fill_53178_20 : decode cJ7_fill_53178 20 = .ok (.return_, 1) := by decide +kernel
/-! Arrays.fill over ints -/
theorem arrI_congr {cA : ClassId} {N : Nat} {f g : Ar} (h : ∀ j, j < N → f j = g j) : vp_cell cA (N, .inl f) = vp_cell cA (N, .inl g) := by
  show arrV cA N (fun j => .int (f j)) = arrV cA N (fun j => .int (g j))
  simp only [arrV]
  congr 1
  apply Array.ext
  · simp
  · intro i h1 h2
    have hi : i < N := by simpa using h1
    simp only [Array.getElem_ofFn]
    rw [h i hi]
theorem GG.arr1 {D : va_G} {A : Nat → Prop} {H0 H : Heap} {locs : List Loc} {a N : Nat} {cA : ClassId} {f g : Ar} (h : ∀ j, j < N → f j = g j) (hG : GG D A H0 [(a, .inl (cA, N, .inl f))] H locs) : GG D A H0 [(a, .inl (cA, N, .inl g))] H locs := by
  refine ⟨va_P.of (fun q hq => ?_), hG.2.1.addr rfl, hG.2.2⟩
  simp only [List.mem_singleton] at hq
  subst hq
  have h1 : va_at D vwCl (a, .inl (cA, N, .inl f)) H := hG.1.mem (List.mem_singleton.mpr rfl)
  exact Eq.trans h1 (congrArg some (arrI_congr h))
set_option maxHeartbeats 4000000 in
set_option maxRecDepth 100000 in
theorem c_J7_fill (l : Launch) (D : va_G) (y : Nat → ClassId) (a N sz : Nat) (f : Ar) (v : Int32) (hN : N < 2 ^ 31 := by decide) : MV l yJ7_fill_53178 wsJ7_fill_53178 0 0 [.ref a, .int v] D y [(a, .inl (y 0, N, .inl f))] sz [(a, .inl (y 0, N, .inl (fun _ => v)))] := by
  refine M_v (cc := cJ7_fill_53178) (maxL := 4) (own := RJ7) (by decide) rfl rfl (Nat.le_of_ble_eq_true rfl) ?_
  intro p e s m args below meth c A Q F hK hA H locs hG hret ls hl
  have hx := F.1
  have hb := F.2.1
  have hl : lv_has ls 4 [(0, .ref a), (1, .int v)] := hl
  refine lv_iconst (v := nI 0) hx hb dJ7_fill_53178_0 rfl ?_
  refine lv_istore_n (lv' := [(2, .int (nI 0)), (0, .ref a), (1, .int v)]) hx hb dJ7_fill_53178_1 rfl hl (by decide) rfl (fun ls hl => ?_)
  refine lv_aload_n hx hb dJ7_fill_53178_2 rfl (lv_at hl 1 rfl) ?_
  refine va_alen hx hb hK.1 hG.1 0 0 rfl rfl (v := nI N) rfl dJ7_fill_53178_3 ?_
  refine lv_istore_n (lv' := [(3, .int (nI N)), (2, .int (nI 0)), (0, .ref a), (1, .int v)]) hx hb dJ7_fill_53178_4 rfl hl (by decide) rfl (fun ls hl => ?_)
  have hL : ∀ (n i : Nat) (g : Ar) (H : Heap) (locs : List Loc) (ls : Array Slot), i ≤ N → N - i < n → (∀ j, j < i → g j = v) → GG D A s.heap [(a, .inl (y 0, N, .inl g))] H locs → lv_has ls 4 [(3, .int (nI N)), (2, .int (nI i)), (0, .ref a), (1, .int v)] → W p l e (RM 0 0) s m args below meth c H locs 0 0 Q (F0 m 5 ls []) := by
    intro n
    induction n with
    | zero => intro i g H locs ls h1 h2; omega
    | succ n ih =>
      intro i g H locs ls h1 h2 hg hG hl
      refine lv_iload_n hx hb dJ7_fill_53178_5 rfl (lv_at hl 1 rfl) ?_
      refine lv_iload_n hx hb dJ7_fill_53178_6 rfl (lv_at hl 0 rfl) ?_
      refine lv_icmp_ge (tgt := 20) hx hb dJ7_fill_53178_7 (by decide) (fun c1 => ?_) (fun c1 => ?_)
      · have hi : i = N := by
          have := (nI_leI (a := N) (b := i) hN (by omega)).mp c1
          omega
        subst hi
        exact hret H locs _ _ (hG.arr1 hg) dJ7_fill_53178_20
      · have hi : i < N := by
          rcases Nat.lt_or_ge i N with q | q
          · exact q
          · exact absurd (nI_le q (by omega)) c1
        refine lv_aload_n hx hb dJ7_fill_53178_10 rfl (lv_at hl 2 rfl) ?_
        refine lv_iload_n hx hb dJ7_fill_53178_11 rfl (lv_at hl 1 rfl) ?_
        refine lv_iload_n hx hb dJ7_fill_53178_12 rfl (lv_at hl 3 rfl) ?_
        refine w_iast F hK hG 0 rfl (ix_nI hi hN) [(a, .inl (y 0, N, .inl (upd g (nI i).toNatClampNeg v)))] rfl dJ7_fill_53178_13 (fun H locs hG => ?_)
        refine lv_iinc (v := nI (i + 1)) (lv' := [(2, .int (nI (i + 1))), (3, .int (nI N)), (0, .ref a), (1, .int v)]) hx hb dJ7_fill_53178_14 hl (k := 1) rfl (nI_1 i) (by decide) rfl (fun ls hl => ?_)
        refine lv_goto (tgt := 5) hx hb dJ7_fill_53178_17 (by decide) ?_
        refine ih (i + 1) _ _ _ _ (by omega) (by omega) (fun j hj => ?_) hG (lv_sub hl [1, 0, 2, 3] rfl)
        rw [nI_clamp (by omega)]
        unfold upd
        by_cases hji : j = i
        · rw [if_pos hji]
        · rw [if_neg hji]; exact hg j (by omega)
  exact hL (N + 1) 0 f _ _ _ (Nat.zero_le _) (by omega) (fun j hj => absurd hj (by omega)) hG hl
end
section
/-! the worlds: cells of each class, by program -/
def SV : Type := Ar × Ar × Ar × Ar × Ar × Ar × Ar × Int32 × Int32 × Int32 × Int32 × Int32
def mkSV (settings : Ar) (letters : Ar) (heats : Ar) (starts : Ar) (families : Ar) (generations : Ar) (tally : Ar) (stories : Int32) (nextFamily : Int32) (splits : Int32) (boilings : Int32) (fizzles : Int32) : SV := (settings, letters, heats, starts, families, generations, tally, stories, nextFamily, splits, boilings, fizzles)
def sv_settings (v : SV) : Ar := v.1
def sv_letters (v : SV) : Ar := v.2.1
def sv_heats (v : SV) : Ar := v.2.2.1
def sv_starts (v : SV) : Ar := v.2.2.2.1
def sv_families (v : SV) : Ar := v.2.2.2.2.1
def sv_generations (v : SV) : Ar := v.2.2.2.2.2.1
def sv_tally (v : SV) : Ar := v.2.2.2.2.2.2.1
def sv_stories (v : SV) : Int32 := v.2.2.2.2.2.2.2.1
def sv_nextFamily (v : SV) : Int32 := v.2.2.2.2.2.2.2.2.1
def sv_splits (v : SV) : Int32 := v.2.2.2.2.2.2.2.2.2.1
def sv_boilings (v : SV) : Int32 := v.2.2.2.2.2.2.2.2.2.2.1
def sv_fizzles (v : SV) : Int32 := v.2.2.2.2.2.2.2.2.2.2.2
def w_X1 (y : Nat → ClassId) (a : Nat → Nat) (x_characters : Ar) (x_length : Int32) : va_W := [(a 0, .inr (1, [.ref (a 1), .int x_length])), (a 1, .inl (y 2, 60, .inl x_characters))]
def w_X2 (y : Nat → ClassId) (a : Nat → Nat) (x_settings : Ar) (x_letters : Ar) (x_heats : Ar) (x_starts : Ar) (x_families : Ar) (x_generations : Ar) (x_tally : Ar) (x_stories : Int32) (x_nextFamily : Int32) (x_splits : Int32) (x_boilings : Int32) (x_fizzles : Int32) : va_W := [(a 0, .inr (2, [.ref (a 1), .ref (a 2), .ref (a 3), .ref (a 4), .ref (a 5), .ref (a 6), .ref (a 7), .int x_stories, .int x_nextFamily, .int x_splits, .int x_boilings, .int x_fizzles])), (a 1, .inl (y 0, 3, .inl x_settings)), (a 2, .inl (y 0, 150, .inl x_letters)), (a 3, .inl (y 0, 150, .inl x_heats)), (a 4, .inl (y 0, 13, .inl x_starts)), (a 5, .inl (y 0, 12, .inl x_families)), (a 6, .inl (y 0, 12, .inl x_generations)), (a 7, .inl (y 0, 26, .inl x_tally))]
def w_X4 (y : Nat → ClassId) (a : Nat → Nat) (x_s : Ar) (x_aside : Ar) (x_before : Ar) (x_known : Int32) (x_slots : Ar) (x_isSaved : Ar) (x_pad : Ar) (x_length : Int32) (x_letters : Ar) (x_heats : Ar) (x_reactions : Int32) (x_newSplits : Int32) (x_storiesThen : Int32) (x_heatThen : Int32) (x_place : Int32) (x_isWrong : Int32) (x_toldLetter : Ar) (x_toldHeat : Ar) (x_toldStory : Ar) (x_toldWords : Int32) (x_toldStories : Int32) : va_W := [(a 0, .inr (4, [.ref (a 1), .ref (a 2), .ref (a 3), .int x_known, .ref (a 4), .ref (a 5), .ref (a 6), .int x_length, .ref (a 7), .ref (a 8), .int x_reactions, .int x_newSplits, .int x_storiesThen, .int x_heatThen, .int x_place, .int x_isWrong, .ref (a 9), .ref (a 10), .ref (a 11), .int x_toldWords, .int x_toldStories])), (a 1, .inl (y 0, 345, .inl x_s)), (a 2, .inl (y 0, 345, .inl x_aside)), (a 3, .inl (y 0, 2070, .inl x_before)), (a 4, .inl (y 0, 690, .inl x_slots)), (a 5, .inl (y 1, 2, .inl x_isSaved)), (a 6, .inl (y 0, 60, .inl x_pad)), (a 7, .inl (y 0, 150, .inl x_letters)), (a 8, .inl (y 0, 150, .inl x_heats)), (a 9, .inl (y 0, 61, .inl x_toldLetter)), (a 10, .inl (y 0, 61, .inl x_toldHeat)), (a 11, .inl (y 0, 61, .inl x_toldStory))]
def w_X3 (y : Nat → ClassId) (a pa na ta ha : Nat → Nat) (sl : Nat) (x_saved : Ar) (x_runs : Ar) (x_themes : Ar) (x_storyHeats : Ar) : va_W := [(a 0, .inr (3, [.ref (na 0), .ref (ta 0), .ref (ha 0), .ref (sl), .ref (a 1), .ref (pa 0), .ref (a 2), .ref (a 3), .ref (a 4)])), (a 1, .inl (y 1, 2, .inl x_saved)), (a 2, .inl (y 0, 150, .inl x_runs)), (a 3, .inl (y 0, 12, .inl x_themes)), (a 4, .inl (y 0, 12, .inl x_storyHeats))]
def w_sv (y : Nat → ClassId) (a : Nat → Nat) (v : SV) : va_W := w_X2 y a (sv_settings v) (sv_letters v) (sv_heats v) (sv_starts v) (sv_families v) (sv_generations v) (sv_tally v) (sv_stories v) (sv_nextFamily v) (sv_splits v) (sv_boilings v) (sv_fizzles v)
/-! pools of shelves: one is taken out, and put back -/
theorem va_D.iff {A : Nat → Prop} {ws : va_W} : va_D A ws ↔ (ws.map Prod.fst).Nodup ∧ ∀ q ∈ ws, A q.1 := by
  constructor
  · intro h
    refine ⟨?_, fun q hq => ?_⟩
    · rw [List.Nodup, List.pairwise_iff_getElem]
      intro i j hi hj hij
      simp only [List.length_map] at hi hj
      simp only [List.getElem_map]
      intro e
      have := h.1 i j ws[i] ws[j] (List.getElem?_eq_getElem hi) (List.getElem?_eq_getElem hj) e
      omega
    · obtain ⟨k, hk⟩ := List.getElem?_of_mem hq
      exact h.2 k q hk
  · intro h
    refine ⟨fun i j p q hi hj e => ?_, fun k q hk => h.2 q (List.mem_of_getElem? hk)⟩
    obtain ⟨hi1, hi2⟩ := List.getElem?_eq_some_iff.mp hi
    obtain ⟨hj1, hj2⟩ := List.getElem?_eq_some_iff.mp hj
    have hn := h.1
    rw [List.Nodup, List.pairwise_iff_getElem] at hn
    rcases Nat.lt_trichotomy i j with hlt | heq | hgt
    · have := hn i j (by simpa using hi1) (by simpa using hj1) hlt
      rw [List.getElem_map, List.getElem_map, hi2, hj2] at this
      exact absurd e this
    · exact heq
    · have := hn j i (by simpa using hj1) (by simpa using hi1) hgt
      rw [List.getElem_map, List.getElem_map, hi2, hj2] at this
      exact absurd e.symm this
theorem GG.perm {D : va_G} {A : Nat → Prop} {H0 H : Heap} {ws ws' : va_W} {locs : List Loc} (hp : ws.Perm ws') (hG : GG D A H0 ws H locs) : GG D A H0 ws' H locs := by
  refine ⟨va_P.of (fun q hq => hG.1.mem (hp.mem_iff.mpr hq)), va_D.iff.mpr ?_, hG.2.2⟩
  have h := va_D.iff.mp hG.2.1
  exact ⟨(hp.map Prod.fst).nodup_iff.mp h.1, fun q hq => h.2 q (hp.mem_iff.mpr hq)⟩
def poolS (y : Nat → ClassId) (ad : Nat → Nat → Nat) (v : Nat → SV) (N : Nat) : va_W := (List.range N).flatMap (fun j => w_sv y (ad j) (v j))
def poolX (y : Nat → ClassId) (ad : Nat → Nat → Nat) (v : Nat → SV) (N k : Nat) : va_W := ((List.range N).filter (fun j => !(j == k))).flatMap (fun j => w_sv y (ad j) (v j))
theorem pool_perm (y : Nat → ClassId) (ad : Nat → Nat → Nat) (v : Nat → SV) {k : Nat} : ∀ {N : Nat}, k < N → (poolS y ad v N).Perm (w_sv y (ad k) (v k) ++ poolX y ad v N k) := by
  intro N
  induction N with
  | zero => intro h; omega
  | succ N ih =>
    intro h
    have e1 : poolS y ad v (N + 1) = poolS y ad v N ++ w_sv y (ad N) (v N) := by
      simp only [poolS, List.range_succ, List.flatMap_append, List.flatMap_cons, List.flatMap_nil, List.append_nil]
    by_cases hk : k = N
    · subst hk
      have e2 : poolX y ad v (k + 1) k = poolS y ad v k := by
        simp only [poolX, poolS, List.range_succ, List.filter_append, List.filter_cons, List.filter_nil, beq_self_eq_true, Bool.not_true, Bool.false_eq_true, if_false, List.append_nil]
        congr 1
        apply List.filter_eq_self.mpr
        intro j hj
        have := List.mem_range.mp hj
        simp
        omega
      rw [e1, e2]
      exact List.perm_append_comm
    · have e2 : poolX y ad v (N + 1) k = poolX y ad v N k ++ w_sv y (ad N) (v N) := by
        have : (!(N == k)) = true := by simp; omega
        simp only [poolX, List.range_succ, List.filter_append, List.filter_cons, List.filter_nil, this, if_true, List.flatMap_append, List.flatMap_cons, List.flatMap_nil, List.append_nil]
      rw [e1, e2, ← List.append_assoc]
      exact (ih (by omega)).append_right _
theorem poolX_up (y : Nat → ClassId) (ad : Nat → Nat → Nat) (v : Nat → SV) (N k : Nat) (x : SV) : poolX y ad (va_up v k x) N k = poolX y ad v N k := by
  unfold poolX
  have key : ∀ (l : List Nat), (∀ j ∈ l, j ≠ k) → l.flatMap (fun j => w_sv y (ad j) (va_up v k x j)) = l.flatMap (fun j => w_sv y (ad j) (v j)) := by
    intro l
    induction l with
    | nil => intro _; rfl
    | cons a l ih =>
      intro hl
      rw [List.flatMap_cons, List.flatMap_cons, ih (fun j hj => hl j (List.mem_cons_of_mem _ hj)), va_up_ne _ _ (hl a List.mem_cons_self)]
  refine key _ (fun j hj => ?_)
  have := (List.mem_filter.mp hj).2
  simpa using this
theorem GG.popen {D : va_G} {A : Nat → Prop} {H0 H : Heap} {locs : List Loc} {y : Nat → ClassId} {N k : Nat} (hk : k < N) (pre post : va_W) (ad : Nat → Nat → Nat) (v : Nat → SV) (hG : GG D A H0 (pre ++ (poolS y ad v N ++ post)) H locs) : GG D A H0 (w_sv y (ad k) (v k) ++ (pre ++ (post ++ poolX y ad v N k))) H locs := by
  refine hG.perm ?_
  have h1 := pool_perm y ad v hk
  have h2 : (pre ++ (poolS y ad v N ++ post)).Perm (pre ++ ((w_sv y (ad k) (v k) ++ poolX y ad v N k) ++ post)) := (h1.append_right post).append_left pre
  refine h2.trans ?_
  have h3 : (pre ++ ((w_sv y (ad k) (v k) ++ poolX y ad v N k) ++ post)).Perm (pre ++ (w_sv y (ad k) (v k) ++ (post ++ poolX y ad v N k))) := by
    refine List.Perm.append_left pre ?_
    rw [List.append_assoc]
    exact List.Perm.append_left _ List.perm_append_comm
  refine h3.trans ?_
  rw [← List.append_assoc, ← List.append_assoc (w_sv y (ad k) (v k))]
  exact List.Perm.append_right _ List.perm_append_comm
theorem GG.pclose {D : va_G} {A : Nat → Prop} {H0 H : Heap} {locs : List Loc} {y : Nat → ClassId} {N k : Nat} (hk : k < N) (pre post : va_W) (ad : Nat → Nat → Nat) (v : Nat → SV) (x : SV) (hG : GG D A H0 (w_sv y (ad k) x ++ (pre ++ (post ++ poolX y ad v N k))) H locs) : GG D A H0 (pre ++ (poolS y ad (va_up v k x) N ++ post)) H locs := by
  have h1 := pool_perm y ad (va_up v k x) hk
  rw [poolX_up, va_up_self] at h1
  refine hG.perm (List.Perm.symm ?_)
  have h2 : (pre ++ (poolS y ad (va_up v k x) N ++ post)).Perm (pre ++ ((w_sv y (ad k) x ++ poolX y ad v N k) ++ post)) := (h1.append_right post).append_left pre
  refine h2.trans ?_
  have h3 : (pre ++ ((w_sv y (ad k) x ++ poolX y ad v N k) ++ post)).Perm (pre ++ (w_sv y (ad k) x ++ (post ++ poolX y ad v N k))) := by
    refine List.Perm.append_left pre ?_
    rw [List.append_assoc]
    exact List.Perm.append_left _ List.perm_append_comm
  refine h3.trans ?_
  rw [← List.append_assoc, ← List.append_assoc (w_sv y (ad k) x)]
  exact List.Perm.append_right _ List.perm_append_comm
/-- History: the object, its row, six shelves; the slots: the row, two shelves -/
def w_X0 (y : Nat → ClassId) (ha : Nat → Nat) (hsb : Nat → Nat → Nat) (x_v : Nat → SV) (x_oldest x_size : Int32) : va_W := (ha 0, .inr (0, [.ref (ha 1), .int x_oldest, .int x_size])) :: (ha 1, .inl (y 3, 6, .inr (.inr (.inr (.inr (fun k => some (hsb k 0))))))) :: poolS y hsb x_v 6
def w_SL (y : Nat → ClassId) (sl : Nat) (ssb : Nat → Nat → Nat) (x_v : Nat → SV) : va_W := (sl, .inl (y 3, 2, .inr (.inr (.inr (.inr (fun k => some (ssb k 0))))))) :: poolS y ssb x_v 2
theorem va_up_id {α : Type} (v : Nat → α) (k : Nat) : va_up v k (v k) = v := by
  funext j
  unfold va_up
  by_cases h : j = k
  · rw [if_pos h, h]
  · rw [if_neg h]
theorem GG.pclose0 {D : va_G} {A : Nat → Prop} {H0 H : Heap} {locs : List Loc} {y : Nat → ClassId} {N k : Nat} (hk : k < N) (pre post : va_W) (ad : Nat → Nat → Nat) (v : Nat → SV) (hG : GG D A H0 (w_sv y (ad k) (v k) ++ (pre ++ (post ++ poolX y ad v N k))) H locs) : GG D A H0 (pre ++ (poolS y ad v N ++ post)) H locs := by
  have h := GG.pclose hk pre post ad v (v k) hG
  rwa [va_up_id] at h
def h_X0 (y : Nat → ClassId) (ha : Nat → Nat) (hsb : Nat → Nat → Nat) (x_oldest x_size : Int32) : va_W := [(ha 0, .inr (0, [.ref (ha 1), .int x_oldest, .int x_size])), (ha 1, .inl (y 3, 6, .inr (.inr (.inr (.inr (fun k => some (hsb k 0)))))))]
def h_SL (y : Nat → ClassId) (sl : Nat) (ssb : Nat → Nat → Nat) : va_W := [(sl, .inl (y 3, 2, .inr (.inr (.inr (.inr (fun k => some (ssb k 0)))))))]
end
section
/-! calls over some of the blocks of a world -/
def flat (f : Nat → va_W) : List Nat → va_W
  | [] => []
  | [i] => f i
  | i :: j :: r => f i ++ flat f (j :: r)
theorem flat_eq (f : Nat → va_W) : ∀ is : List Nat, flat f is = is.flatMap f
  | [] => rfl
  | [i] => by simp [flat]
  | i :: j :: r => by
    show f i ++ flat f (j :: r) = _
    rw [flat_eq f (j :: r)]
    exact (List.flatMap_cons ..).symm
theorem GG.blk {D : va_G} {A : Nat → Prop} {H0 H : Heap} {locs : List Loc} (f : Nat → va_W) (is js : List Nat) (hp : is.Perm js) (w w' : va_W) (h1 : w = flat f is) (h2 : flat f js = w') (hG : GG D A H0 w H locs) : GG D A H0 w' H locs := by
  subst h1
  subst h2
  refine hG.perm ?_
  rw [flat_eq, flat_eq]
  exact hp.flatMap_right f
theorem GG.pre {D : va_G} {A : Nat → Prop} {H0 H : Heap} {wc rst : va_W} {locs : List Loc} (hG : GG D A H0 (wc ++ rst) H locs) (hA : ∀ q, H0.size ≤ q → A q) :
    va_P D vwCl wc H ∧ va_D (fun _ => True) wc ∧ ∀ q, va_A wc H.size q → A q := by
  have h := va_D.iff.mp hG.2.1
  rw [List.map_append, List.nodup_append] at h
  refine ⟨va_P.of (fun q hq => hG.1.mem (List.mem_append_left _ hq)), va_D.iff.mpr ⟨h.1.1, fun _ _ => trivial⟩, fun q hq => ?_⟩
  rcases hq with ⟨k, e, hk⟩ | hq
  · exact h.2 (q, e) (List.mem_append_left _ (List.mem_of_getElem? hk))
  · exact hA q (Nat.le_trans hG.2.2.1 hq)
theorem GG.callR {D : va_G} {A : Nat → Prop} {H0 H H1 : Heap} {wc wc' rst : va_W} {locs locs1 : List Loc} (hG : GG D A H0 (wc ++ rst) H locs)
    (hadr : wc'.map Prod.fst = wc.map Prod.fst) (hk : ∀ q : Nat, q < H.size → ¬ va_A wc H.size q → H1[q]? = H[q]?) (hP1 : va_P D vwCl wc' H1) (hS1 : va_S A H0 H1 locs1) : GG D A H0 (wc' ++ rst) H1 locs1 := by
  have h := va_D.iff.mp hG.2.1
  rw [List.map_append, List.nodup_append] at h
  refine hG.call (wc := wc) (wc' := wc') (by rw [List.map_append, List.map_append, hadr]) (fun q hq => ?_) hk hP1 hS1
  rcases List.mem_append.mp hq with h1 | h1
  · exact Or.inl h1
  · refine Or.inr ⟨List.mem_append_right _ h1, fun hm => ?_⟩
    exact h.1.2.2 q.1 hm q.1 (List.mem_map.mpr ⟨q, h1, rfl⟩) rfl
theorem adr_app {a a' b b' : va_W} (h1 : a'.map Prod.fst = a.map Prod.fst) (h2 : b'.map Prod.fst = b.map Prod.fst) : (a' ++ b').map Prod.fst = (a ++ b).map Prod.fst := by
  rw [List.map_append, List.map_append, h1, h2]
theorem adr_pool (y : Nat → ClassId) (ad : Nat → Nat → Nat) (v v' : Nat → SV) (N : Nat) : (poolS y ad v' N).map Prod.fst = (poolS y ad v N).map Prod.fst := by
  unfold poolS
  rw [List.map_flatMap, List.map_flatMap]
  rfl
theorem adr_X0 (y : Nat → ClassId) (ha : Nat → Nat) (hsb : Nat → Nat → Nat) (v v' : Nat → SV) (o o' z z' : Int32) : (w_X0 y ha hsb v' o' z').map Prod.fst = (w_X0 y ha hsb v o z).map Prod.fst := by
  unfold w_X0
  rw [List.map_cons, List.map_cons, List.map_cons, List.map_cons, adr_pool]
section BP
variable {p : Program} {l : Launch} {e : Env} {R : Room} {s : State} {m : MethodId} {args : Array Value} {below : List Frame} {meth : Method} {c : Code} {H : Heap} {locs : List Loc} {cells slots : Nat} {Q : State → Prop}
variable {cc : ByteArray} {nL pc : Nat} {ls : Array Slot} {rest : List Value} {Ts : List Cond} {own : String} {D : va_G} {y : Nat → ClassId} {A : Nat → Prop} {H0 : Heap}
variable {yn : MethodName} {wn : List Cond} {fr lo : Nat} {As : List Value} {wc wc' rst : va_W} {b : Nat} {bytes : ByteArray} {maxL n index : Nat} {st0 : List Value}
theorem k_Pi (F : CallFix p m c cc nL s args Ts own) (hK : KK D y s) (hA : ∀ q, H0.size ≤ q → A q) (hG : GG D A H0 (wc ++ rst) H locs) {r : Int32} {ret : Option FieldType} {C : String} {T : u_T} {N ci : Nat} {fs : List Value}
    (hM : MI l yn wn fr lo (.ref b :: As) D y wc H.size r wc') (cw : CallW R s args own C index yn bytes maxL ret wn (RM fr lo) 0 0 n)
    (j : Nat) (hb : wc[j]? = some (b, .inr (ci, fs))) (hc : vwCl[ci]? = some (C, T, N)) (hadr : wc'.map Prod.fst = wc.map Prod.fst)
    (hst : st0 = As.reverse ++ .ref b :: rest) (hn : As.length = n) (hsz : ls.size = nL) (hcat : (rest.map fun v => v.category).sum ≤ 8) (hdg : decode cc pc = .ok (.invokevirtual index, 3)) (hf : cells ≤ R.cells ∧ slots ≤ R.slots)
    (kk : ∀ (H : Heap) (locs : List Loc), GG D A H0 (wc' ++ rst) H locs → W p l e R s m args below meth c H locs cells slots Q (F0 m (pc + 3) ls (.int r :: rest))) : W p l e R s m args below meth c H locs cells slots Q (F0 m pc ls st0) := by
  obtain ⟨hPc, hDc, hFc⟩ := hG.pre hA
  refine va_calli (va_runV (As := As) (rest := rest) F hM cw ⟨pre_blind, va_recv hK.1 hPc hc hb, pre_of hK _ hPc hDc⟩ rfl hn hsz hst (lv_room hcat) hdg hf) hG.2.2 (fun q _ h => hFc q h) hFc (fun r1 u t H1 locs1 ht hvm hw hB hz hk hS => ?_)
  subst hw
  exact kk H1 locs1 (hG.callR hadr hk (ht ▸ hB) hS)
theorem k_Pv (F : CallFix p m c cc nL s args Ts own) (hK : KK D y s) (hA : ∀ q, H0.size ≤ q → A q) (hG : GG D A H0 (wc ++ rst) H locs) {C : String} {T : u_T} {N ci : Nat} {fs : List Value}
    (hM : MV l yn wn fr lo (.ref b :: As) D y wc H.size wc') (cw : CallW R s args own C index yn bytes maxL none wn (RM fr lo) 0 0 n)
    (j : Nat) (hb : wc[j]? = some (b, .inr (ci, fs))) (hc : vwCl[ci]? = some (C, T, N)) (hadr : wc'.map Prod.fst = wc.map Prod.fst)
    (hst : st0 = As.reverse ++ .ref b :: rest) (hn : As.length = n) (hsz : ls.size = nL) (hcat : (rest.map fun v => v.category).sum ≤ 8) (hdg : decode cc pc = .ok (.invokevirtual index, 3)) (hf : cells ≤ R.cells ∧ slots ≤ R.slots)
    (kk : ∀ (H : Heap) (locs : List Loc), GG D A H0 (wc' ++ rst) H locs → W p l e R s m args below meth c H locs cells slots Q (F0 m (pc + 3) ls rest)) : W p l e R s m args below meth c H locs cells slots Q (F0 m pc ls st0) := by
  obtain ⟨hPc, hDc, hFc⟩ := hG.pre hA
  refine va_callv (va_runV (As := As) (rest := rest) F hM cw ⟨pre_blind, va_recv hK.1 hPc hc hb, pre_of hK _ hPc hDc⟩ rfl hn hsz hst (lv_room hcat) hdg hf) hG.2.2 (fun q _ h => hFc q h) hFc (fun u t H1 locs1 ht hvm hw hB hz hk hS => ?_)
  exact kk H1 locs1 (hG.callR hadr hk (ht ▸ hB) hS)
end BP
theorem blkp (is js : List Nat) (h : is.isPerm js = true) : is.Perm js := List.isPerm_iff.mp h
end
section
def f_X2_words (Fu : Nat) (q_starts : Ar) (q_stories : Int32) : Option Int32 :=
  gd (ix q_stories 13) (
  some (q_starts (q_stories).toNatClampNeg))
def f_X2_copyFrom (Fu : Nat) (q_settings : Ar) (q_letters : Ar) (q_heats : Ar) (q_starts : Ar) (q_families : Ar) (q_generations : Ar) (q_stories : Int32) (q_nextFamily : Int32) (q_splits : Int32) (q_boilings : Int32) (q_fizzles : Int32) (o_settings : Ar) (o_letters : Ar) (o_heats : Ar) (o_starts : Ar) (o_families : Ar) (o_generations : Ar) (o_stories : Int32) (o_nextFamily : Int32) (o_splits : Int32) (o_boilings : Int32) (o_fizzles : Int32) : Option (Ar × Ar × Ar × Ar × Ar × Ar × Int32 × Int32 × Int32 × Int32 × Int32) :=
  bd1 (f_X2_words Fu o_starts o_stories) (fun r1 =>
  gd (cpok 3 3 (nI 0) (nI 0) (nI 3)) (
  gd (cpok 150 150 (nI 0) (nI 0) r1) (
  gd (cpok 150 150 (nI 0) (nI 0) r1) (
  gd (cpok 13 13 (nI 0) (nI 0) (o_stories + (nI 1))) (
  gd (cpok 12 12 (nI 0) (nI 0) o_stories) (
  gd (cpok 12 12 (nI 0) (nI 0) o_stories) (
  some (cpA o_settings q_settings (nI 0) (nI 0) (nI 3), cpA o_letters q_letters (nI 0) (nI 0) r1, cpA o_heats q_heats (nI 0) (nI 0) r1, cpA o_starts q_starts (nI 0) (nI 0) (o_stories + (nI 1)), cpA o_families q_families (nI 0) (nI 0) o_stories, cpA o_generations q_generations (nI 0) (nI 0) o_stories, o_stories, o_nextFamily, o_splits, o_boilings, o_fizzles))))))))
def f_X0_record (Fu : Nat) (h_v : (Nat → SV)) (h_oldest : Int32) (h_size : Int32) (o_settings : Ar) (o_letters : Ar) (o_heats : Ar) (o_starts : Ar) (o_families : Ar) (o_generations : Ar) (o_stories : Int32) (o_nextFamily : Int32) (o_splits : Int32) (o_boilings : Int32) (o_fizzles : Int32) : Option ((Nat → SV) × Int32 × Int32) :=
  gd (ix ((h_oldest + h_size) - (h_oldest + h_size) / (nI 6) * (nI 6)) 6) (
  nm (((h_oldest + h_size) - (h_oldest + h_size) / (nI 6) * (nI 6)).toNatClampNeg) (fun i2 =>
  bd11 (f_X2_copyFrom Fu (sv_settings (h_v i2)) (sv_letters (h_v i2)) (sv_heats (h_v i2)) (sv_starts (h_v i2)) (sv_families (h_v i2)) (sv_generations (h_v i2)) (sv_stories (h_v i2)) (sv_nextFamily (h_v i2)) (sv_splits (h_v i2)) (sv_boilings (h_v i2)) (sv_fizzles (h_v i2)) o_settings o_letters o_heats o_starts o_families o_generations o_stories o_nextFamily o_splits o_boilings o_fizzles) (fun z_settings_3 z_letters_4 z_heats_5 z_starts_6 z_families_7 z_generations_8 z_stories_9 z_nextFamily_10 z_splits_11 z_boilings_12 z_fizzles_13 =>
  nm ((va_up h_v i2 (mkSV z_settings_3 z_letters_4 z_heats_5 z_starts_6 z_families_7 z_generations_8 (sv_tally (h_v i2)) z_stories_9 z_nextFamily_10 z_splits_11 z_boilings_12 z_fizzles_13))) (fun (h_v_15 : (Nat → SV)) =>
  jn (fun (h_oldest_17 : Int32) (h_size_18 : Int32) =>
    some (h_v_15, h_oldest_17, h_size_18))
    (fun j19 =>
    if (nI 6) ≤ h_size then
      j19 ((h_oldest + (nI 1)) - (h_oldest + (nI 1)) / (nI 6) * (nI 6)) h_size
    else
      j19 h_oldest (h_size + (nI 1)))))))
def f_X0_takeBack (Fu : Nat) (h_v : (Nat → SV)) (h_oldest : Int32) (h_size : Int32) (o_settings : Ar) (o_letters : Ar) (o_heats : Ar) (o_starts : Ar) (o_families : Ar) (o_generations : Ar) (o_stories : Int32) (o_nextFamily : Int32) (o_splits : Int32) (o_boilings : Int32) (o_fizzles : Int32) : Option (Int32 × Ar × Ar × Ar × Ar × Ar × Ar × Int32 × Int32 × Int32 × Int32 × Int32) :=
  gd (ix ((h_oldest + (h_size - (nI 1))) - (h_oldest + (h_size - (nI 1))) / (nI 6) * (nI 6)) 6) (
  nm (((h_oldest + (h_size - (nI 1))) - (h_oldest + (h_size - (nI 1))) / (nI 6) * (nI 6)).toNatClampNeg) (fun i2 =>
  bd11 (f_X2_copyFrom Fu o_settings o_letters o_heats o_starts o_families o_generations o_stories o_nextFamily o_splits o_boilings o_fizzles (sv_settings (h_v i2)) (sv_letters (h_v i2)) (sv_heats (h_v i2)) (sv_starts (h_v i2)) (sv_families (h_v i2)) (sv_generations (h_v i2)) (sv_stories (h_v i2)) (sv_nextFamily (h_v i2)) (sv_splits (h_v i2)) (sv_boilings (h_v i2)) (sv_fizzles (h_v i2))) (fun o_settings_3 o_letters_4 o_heats_5 o_starts_6 o_families_7 o_generations_8 o_stories_9 o_nextFamily_10 o_splits_11 o_boilings_12 o_fizzles_13 =>
  some (h_size - (nI 1), o_settings_3, o_letters_4, o_heats_5, o_starts_6, o_families_7, o_generations_8, o_stories_9, o_nextFamily_10, o_splits_11, o_boilings_12, o_fizzles_13))))
def f_X3_isWithin (Fu : Nat) (p0 : Int32) (p1 : Int32) (p2 : Int32) : Option Int32 :=
  nm (if p0 < p1 then (nI 0) else (if p2 < p0 then (nI 0) else nI 1)) (fun v3 =>
  gd (bz v3) (some (v3)))
def f_X1_charactersIn_L5 (Fu : Nat) : Nat → Int64 → Int32 → Option Int32
  | 0, _, _ => none
  | fu + 1, x1, x2 =>
    if (nI 8) ≤ x2 then
      some (x2)
    else
      if (lg_cmp x1 (lN 0)) = 0 then
        some (x2)
      else
        bd1 (f_X3_isWithin Fu (((x1 &&& (lN 255))).toInt32) (nI 33) (nI 126)) (fun r5 =>
        if r5 = 0 then
          some (nI 0)
        else
          f_X1_charactersIn_L5 Fu fu (lushr x1 (nI 8)) (x2 + (nI 1)))
theorem f_X1_charactersIn_L5_s (Fu : Nat) (fu : Nat) (x1 : Int64) (x2 : Int32) : f_X1_charactersIn_L5 Fu (fu + 1) x1 x2 =
    if (nI 8) ≤ x2 then
      some (x2)
    else
      if (lg_cmp x1 (lN 0)) = 0 then
        some (x2)
      else
        bd1 (f_X3_isWithin Fu (((x1 &&& (lN 255))).toInt32) (nI 33) (nI 126)) (fun r5 =>
        if r5 = 0 then
          some (nI 0)
        else
          f_X1_charactersIn_L5 Fu fu (lushr x1 (nI 8)) (x2 + (nI 1))) := rfl
def f_X1_charactersIn (Fu : Nat) (p0 : Int64) : Option Int32 :=
  f_X1_charactersIn_L5 Fu Fu p0 (nI 0)
def f_X1_add_L5 (Fu : Nat) (k_5 : Ar → Int32 → Option (Ar × Int32)) (p1 : Int64) : Nat → Int32 → Ar → Int32 → Option (Ar × Int32)
  | 0, _, _, _ => none
  | fu + 1, x1, q_characters_2, q_length_3 =>
    if x1 < 0 then
      k_5 q_characters_2 q_length_3
    else
      gd (ix q_length_3 60) (
      nm ((upd q_characters_2 (q_length_3).toNatClampNeg (i2c ((((lushr p1 ((nI 8) * x1)) &&& (lN 255))).toInt32)))) (fun (q_characters_6 : Ar) =>
      f_X1_add_L5 Fu k_5 p1 fu (x1 + (-1)) q_characters_6 (q_length_3 + (nI 1))))
theorem f_X1_add_L5_s (Fu : Nat) (k_5 : Ar → Int32 → Option (Ar × Int32)) (p1 : Int64) (fu : Nat) (x1 : Int32) (q_characters_2 : Ar) (q_length_3 : Int32) : f_X1_add_L5 Fu k_5 p1 (fu + 1) x1 q_characters_2 q_length_3 =
    if x1 < 0 then
      k_5 q_characters_2 q_length_3
    else
      gd (ix q_length_3 60) (
      nm ((upd q_characters_2 (q_length_3).toNatClampNeg (i2c ((((lushr p1 ((nI 8) * x1)) &&& (lN 255))).toInt32)))) (fun (q_characters_6 : Ar) =>
      f_X1_add_L5 Fu k_5 p1 fu (x1 + (-1)) q_characters_6 (q_length_3 + (nI 1)))) := rfl
def f_X1_add (Fu : Nat) (q_characters : Ar) (q_length : Int32) (p1 : Int64) (p3 : Int32) : Option (Ar × Int32) :=
  jn (fun (q_characters_7 : Ar) (q_length_8 : Int32) =>
    some (q_characters_7, q_length_8))
    (fun k_5 => f_X1_add_L5 Fu k_5 p1 Fu (p3 - (nI 1)) q_characters q_length)
def f_X1_isWord (Fu : Nat) (p0 : Int32) : Option Int32 :=
  bd1 (f_X3_isWithin Fu p0 (nI 97) (nI 122)) (fun r1 =>
  gd (bz r1) (some (r1)))
def f_X1_placeBehind (Fu : Nat) (p0 : Int32) (p1 : Int32) : Option Int32 :=
  bd1 (f_X1_isWord Fu p1) (fun r1 =>
  if r1 = 0 then
    if p0 = 0 then
      some (nI 4)
    else
      if p1 = (nI 47) then
        some (nI 0)
      else
        if p0 = (nI 1) then
          bd1 (f_X3_isWithin Fu p1 (nI 49) (nI 57)) (fun r11 =>
          if r11 = 0 then
            if p0 = (nI 2) then
              bd1 (f_X3_isWithin Fu p1 (nI 48) (nI 57)) (fun r15 =>
              if r15 = 0 then
                some (nI 4)
              else
                some (nI 3))
            else
              some (nI 4)
          else
            some (nI 2))
        else
          if p0 = (nI 2) then
            bd1 (f_X3_isWithin Fu p1 (nI 48) (nI 57)) (fun r8 =>
            if r8 = 0 then
              some (nI 4)
            else
              some (nI 3))
          else
            some (nI 4)
  else
    some (nI 1))
def f_X1_firstFault_L4 (Fu : Nat) (q_characters : Ar) (q_length : Int32) : Nat → Int32 → Int32 → Option Int32
  | 0, _, _ => none
  | fu + 1, x1, x2 =>
    if q_length ≤ x2 then
      nm (if x1 = 0 then q_length else -6) (fun v5 =>
      some (v5))
    else
      gd (ix x2 60) (
      bd1 (f_X1_placeBehind Fu x1 (q_characters (x2).toNatClampNeg)) (fun r7 =>
      if r7 = (nI 4) then
        some (x2)
      else
        f_X1_firstFault_L4 Fu q_characters q_length fu r7 (x2 + (nI 1))))
theorem f_X1_firstFault_L4_s (Fu : Nat) (q_characters : Ar) (q_length : Int32) (fu : Nat) (x1 : Int32) (x2 : Int32) : f_X1_firstFault_L4 Fu q_characters q_length (fu + 1) x1 x2 =
    if q_length ≤ x2 then
      nm (if x1 = 0 then q_length else -6) (fun v5 =>
      some (v5))
    else
      gd (ix x2 60) (
      bd1 (f_X1_placeBehind Fu x1 (q_characters (x2).toNatClampNeg)) (fun r7 =>
      if r7 = (nI 4) then
        some (x2)
      else
        f_X1_firstFault_L4 Fu q_characters q_length fu r7 (x2 + (nI 1)))) := rfl
def f_X1_firstFault (Fu : Nat) (q_characters : Ar) (q_length : Int32) : Option Int32 :=
  f_X1_firstFault_L4 Fu q_characters q_length Fu (nI 0) (nI 0)
def f_X1_storiesIn_L4 (Fu : Nat) (k_4 : Int32 → Option Int32) (q_characters : Ar) (q_length : Int32) : Nat → Int32 → Int32 → Option Int32
  | 0, _, _ => none
  | fu + 1, x1, x2 =>
    if q_length ≤ x2 then
      k_4 x1
    else
      gd (ix x2 60) (
      nm (if (q_characters (x2).toNatClampNeg) = (nI 47) then (nI 1) else nI 0) (fun v6 =>
      f_X1_storiesIn_L4 Fu k_4 q_characters q_length fu (x1 + v6) (x2 + (nI 1))))
theorem f_X1_storiesIn_L4_s (Fu : Nat) (k_4 : Int32 → Option Int32) (q_characters : Ar) (q_length : Int32) (fu : Nat) (x1 : Int32) (x2 : Int32) : f_X1_storiesIn_L4 Fu k_4 q_characters q_length (fu + 1) x1 x2 =
    if q_length ≤ x2 then
      k_4 x1
    else
      gd (ix x2 60) (
      nm (if (q_characters (x2).toNatClampNeg) = (nI 47) then (nI 1) else nI 0) (fun v6 =>
      f_X1_storiesIn_L4 Fu k_4 q_characters q_length fu (x1 + v6) (x2 + (nI 1)))) := rfl
def f_X1_storiesIn (Fu : Nat) (q_characters : Ar) (q_length : Int32) : Option Int32 :=
  jn (fun (v7 : Int32) =>
    some (v7))
    (fun k_4 => f_X1_storiesIn_L4 Fu k_4 q_characters q_length Fu (nI 1) (nI 0))
def f_X1_wordsIn_L4 (Fu : Nat) (k_4 : Int32 → Option Int32) (q_characters : Ar) (q_length : Int32) : Nat → Int32 → Int32 → Option Int32
  | 0, _, _ => none
  | fu + 1, x1, x2 =>
    if q_length ≤ x2 then
      k_4 x1
    else
      gd (ix x2 60) (
      bd1 (f_X1_isWord Fu (q_characters (x2).toNatClampNeg)) (fun r5 =>
      nm (if r5 = 0 then (nI 0) else nI 1) (fun v8 =>
      f_X1_wordsIn_L4 Fu k_4 q_characters q_length fu (x1 + v8) (x2 + (nI 1)))))
theorem f_X1_wordsIn_L4_s (Fu : Nat) (k_4 : Int32 → Option Int32) (q_characters : Ar) (q_length : Int32) (fu : Nat) (x1 : Int32) (x2 : Int32) : f_X1_wordsIn_L4 Fu k_4 q_characters q_length (fu + 1) x1 x2 =
    if q_length ≤ x2 then
      k_4 x1
    else
      gd (ix x2 60) (
      bd1 (f_X1_isWord Fu (q_characters (x2).toNatClampNeg)) (fun r5 =>
      nm (if r5 = 0 then (nI 0) else nI 1) (fun v8 =>
      f_X1_wordsIn_L4 Fu k_4 q_characters q_length fu (x1 + v8) (x2 + (nI 1))))) := rfl
def f_X1_wordsIn (Fu : Nat) (q_characters : Ar) (q_length : Int32) : Option Int32 :=
  jn (fun (v9 : Int32) =>
    some (v9))
    (fun k_4 => f_X1_wordsIn_L4 Fu k_4 q_characters q_length Fu (nI 0) (nI 0))
def f_X2_addStory (Fu : Nat) (q_starts : Ar) (q_families : Ar) (q_generations : Ar) (q_stories : Int32) (q_nextFamily : Int32) : Option (Ar × Ar × Ar × Int32 × Int32) :=
  gd (ix q_stories 12) (
  gd (ix q_stories 12) (
  gd (ix q_stories 13) (
  gd (ix (q_stories + (nI 1)) 13) (
  nm ((upd q_starts (q_stories + (nI 1)).toNatClampNeg (q_starts (q_stories).toNatClampNeg))) (fun (q_starts_5 : Ar) =>
  some (q_starts_5, upd q_families (q_stories).toNatClampNeg q_nextFamily, upd q_generations (q_stories).toNatClampNeg (nI 0), q_stories + (nI 1), q_nextFamily + (nI 1)))))))
def f_X2_addWord (Fu : Nat) (q_letters : Ar) (q_heats : Ar) (q_starts : Ar) (q_stories : Int32) (p1 : Int32) : Option (Ar × Ar × Ar) :=
  bd1 (f_X2_words Fu q_starts q_stories) (fun r1 =>
  gd (ix r1 150) (
  gd (ix r1 150) (
  gd (ix q_stories 13) (
  some (upd q_letters (r1).toNatClampNeg p1, upd q_heats (r1).toNatClampNeg (nI 0), upd q_starts (q_stories).toNatClampNeg (r1 + (nI 1)))))))
def f_X2_addDigit (Fu : Nat) (q_heats : Ar) (q_starts : Ar) (q_stories : Int32) (p1 : Int32) : Option Ar :=
  bd1 (f_X2_words Fu q_starts q_stories) (fun r1 =>
  gd (ix (r1 - (nI 1)) 150) (
  gd (ix (r1 - (nI 1)) 150) (
  nm ((upd q_heats (r1 - (nI 1)).toNatClampNeg (((q_heats (r1 - (nI 1)).toNatClampNeg) * (nI 10)) + p1))) (fun (q_heats_5 : Ar) =>
  some (q_heats_5)))))
def f_X1_writeTo_L6 (Fu : Nat) (k_6 : Ar → Ar → Ar → Ar → Ar → Int32 → Int32 → Option (Ar × Ar × Ar × Ar × Ar × Int32 × Int32)) (q_characters : Ar) (q_length : Int32) : Nat → Int32 → Ar → Ar → Ar → Ar → Ar → Int32 → Int32 → Option (Ar × Ar × Ar × Ar × Ar × Int32 × Int32)
  | 0, _, _, _, _, _, _, _, _ => none
  | fu + 1, x7, o_letters_8, o_heats_9, o_starts_10, o_families_11, o_generations_12, o_stories_13, o_nextFamily_14 =>
    if q_length ≤ x7 then
      k_6 o_letters_8 o_heats_9 o_starts_10 o_families_11 o_generations_12 o_stories_13 o_nextFamily_14
    else
      gd (ix x7 60) (
      nm ((q_characters (x7).toNatClampNeg)) (fun v17 =>
      jn (fun (o_letters_34 : Ar) (o_heats_35 : Ar) (o_starts_36 : Ar) (o_families_37 : Ar) (o_generations_38 : Ar) (o_stories_39 : Int32) (o_nextFamily_40 : Int32) =>
        f_X1_writeTo_L6 Fu k_6 q_characters q_length fu (x7 + (nI 1)) o_letters_34 o_heats_35 o_starts_36 o_families_37 o_generations_38 o_stories_39 o_nextFamily_40)
        (fun j41 =>
        if v17 = (nI 47) then
          bd5 (f_X2_addStory Fu o_starts_10 o_families_11 o_generations_12 o_stories_13 o_nextFamily_14) (fun o_starts_28 o_families_29 o_generations_30 o_stories_31 o_nextFamily_32 =>
          j41 o_letters_8 o_heats_9 o_starts_28 o_families_29 o_generations_30 o_stories_31 o_nextFamily_32)
        else
          bd1 (f_X1_isWord Fu v17) (fun r19 =>
          if r19 = 0 then
            bd1 (f_X2_addDigit Fu o_heats_9 o_starts_10 o_stories_13 (v17 - (nI 48))) (fun o_heats_22 =>
            j41 o_letters_8 o_heats_22 o_starts_10 o_families_11 o_generations_12 o_stories_13 o_nextFamily_14)
          else
            bd3 (f_X2_addWord Fu o_letters_8 o_heats_9 o_starts_10 o_stories_13 (v17 - (nI 97))) (fun o_letters_24 o_heats_25 o_starts_26 =>
            j41 o_letters_24 o_heats_25 o_starts_26 o_families_11 o_generations_12 o_stories_13 o_nextFamily_14)))))
theorem f_X1_writeTo_L6_s (Fu : Nat) (k_6 : Ar → Ar → Ar → Ar → Ar → Int32 → Int32 → Option (Ar × Ar × Ar × Ar × Ar × Int32 × Int32)) (q_characters : Ar) (q_length : Int32) (fu : Nat) (x7 : Int32) (o_letters_8 : Ar) (o_heats_9 : Ar) (o_starts_10 : Ar) (o_families_11 : Ar) (o_generations_12 : Ar) (o_stories_13 : Int32) (o_nextFamily_14 : Int32) : f_X1_writeTo_L6 Fu k_6 q_characters q_length (fu + 1) x7 o_letters_8 o_heats_9 o_starts_10 o_families_11 o_generations_12 o_stories_13 o_nextFamily_14 =
    if q_length ≤ x7 then
      k_6 o_letters_8 o_heats_9 o_starts_10 o_families_11 o_generations_12 o_stories_13 o_nextFamily_14
    else
      gd (ix x7 60) (
      nm ((q_characters (x7).toNatClampNeg)) (fun v17 =>
      jn (fun (o_letters_34 : Ar) (o_heats_35 : Ar) (o_starts_36 : Ar) (o_families_37 : Ar) (o_generations_38 : Ar) (o_stories_39 : Int32) (o_nextFamily_40 : Int32) =>
        f_X1_writeTo_L6 Fu k_6 q_characters q_length fu (x7 + (nI 1)) o_letters_34 o_heats_35 o_starts_36 o_families_37 o_generations_38 o_stories_39 o_nextFamily_40)
        (fun j41 =>
        if v17 = (nI 47) then
          bd5 (f_X2_addStory Fu o_starts_10 o_families_11 o_generations_12 o_stories_13 o_nextFamily_14) (fun o_starts_28 o_families_29 o_generations_30 o_stories_31 o_nextFamily_32 =>
          j41 o_letters_8 o_heats_9 o_starts_28 o_families_29 o_generations_30 o_stories_31 o_nextFamily_32)
        else
          bd1 (f_X1_isWord Fu v17) (fun r19 =>
          if r19 = 0 then
            bd1 (f_X2_addDigit Fu o_heats_9 o_starts_10 o_stories_13 (v17 - (nI 48))) (fun o_heats_22 =>
            j41 o_letters_8 o_heats_22 o_starts_10 o_families_11 o_generations_12 o_stories_13 o_nextFamily_14)
          else
            bd3 (f_X2_addWord Fu o_letters_8 o_heats_9 o_starts_10 o_stories_13 (v17 - (nI 97))) (fun o_letters_24 o_heats_25 o_starts_26 =>
            j41 o_letters_24 o_heats_25 o_starts_26 o_families_11 o_generations_12 o_stories_13 o_nextFamily_14))))) := rfl
def f_X1_writeTo (Fu : Nat) (q_characters : Ar) (q_length : Int32) (o_letters : Ar) (o_heats : Ar) (o_starts : Ar) (o_families : Ar) (o_generations : Ar) (o_stories : Int32) (o_nextFamily : Int32) : Option (Ar × Ar × Ar × Ar × Ar × Int32 × Int32) :=
  bd5 (f_X2_addStory Fu o_starts o_families o_generations o_stories o_nextFamily) (fun o_starts_1 o_families_2 o_generations_3 o_stories_4 o_nextFamily_5 =>
  jn (fun (o_letters_42 : Ar) (o_heats_43 : Ar) (o_starts_44 : Ar) (o_families_45 : Ar) (o_generations_46 : Ar) (o_stories_47 : Int32) (o_nextFamily_48 : Int32) =>
    some (o_letters_42, o_heats_43, o_starts_44, o_families_45, o_generations_46, o_stories_47, o_nextFamily_48))
    (fun k_6 => f_X1_writeTo_L6 Fu k_6 q_characters q_length Fu (nI 0) o_letters o_heats o_starts_1 o_families_2 o_generations_3 o_stories_4 o_nextFamily_5))
def f_X2_hasStory (Fu : Nat) (q_stories : Int32) (p1 : Int32) : Option Int32 :=
  bd1 (f_X3_isWithin Fu p1 (nI 0) (q_stories - (nI 1))) (fun r1 =>
  gd (bz r1) (some (r1)))
def f_X2_sizeOf (Fu : Nat) (q_starts : Ar) (p1 : Int32) : Option Int32 :=
  gd (ix (p1 + (nI 1)) 13) (
  gd (ix p1 13) (
  some ((q_starts (p1 + (nI 1)).toNatClampNeg) - (q_starts (p1).toNatClampNeg))))
def f_X2_hasWord (Fu : Nat) (q_starts : Ar) (q_stories : Int32) (p1 : Int32) (p2 : Int32) : Option Int32 :=
  bd1 (f_X2_hasStory Fu q_stories p1) (fun r1 =>
  jn (fun (v9 : Int32) =>
    gd (bz v9) (some (v9)))
    (fun j10 =>
    if r1 = 0 then
      j10 (nI 0)
    else
      bd1 (f_X2_sizeOf Fu q_starts p1) (fun r4 =>
      bd1 (f_X3_isWithin Fu p2 (nI 0) (r4 - (nI 1))) (fun r6 =>
      if r6 = 0 then
        j10 (nI 0)
      else
        j10 (nI 1)))))
def f_X2_storyAt_L2 (Fu : Nat) (k_2 : Int32 → Option Int32) (q_starts : Ar) (q_stories : Int32) (p1 : Int32) : Nat → Int32 → Option Int32
  | 0, _ => none
  | fu + 1, x1 =>
    if q_stories ≤ (x1 + (nI 1)) then
      k_2 x1
    else
      gd (ix (x1 + (nI 1)) 13) (
      if p1 < (q_starts (x1 + (nI 1)).toNatClampNeg) then
        k_2 x1
      else
        f_X2_storyAt_L2 Fu k_2 q_starts q_stories p1 fu (x1 + (nI 1)))
theorem f_X2_storyAt_L2_s (Fu : Nat) (k_2 : Int32 → Option Int32) (q_starts : Ar) (q_stories : Int32) (p1 : Int32) (fu : Nat) (x1 : Int32) : f_X2_storyAt_L2 Fu k_2 q_starts q_stories p1 (fu + 1) x1 =
    if q_stories ≤ (x1 + (nI 1)) then
      k_2 x1
    else
      gd (ix (x1 + (nI 1)) 13) (
      if p1 < (q_starts (x1 + (nI 1)).toNatClampNeg) then
        k_2 x1
      else
        f_X2_storyAt_L2 Fu k_2 q_starts q_stories p1 fu (x1 + (nI 1))) := rfl
def f_X2_storyAt (Fu : Nat) (q_starts : Ar) (q_stories : Int32) (p1 : Int32) : Option Int32 :=
  jn (fun (v5 : Int32) =>
    some (v5))
    (fun k_2 => f_X2_storyAt_L2 Fu k_2 q_starts q_stories p1 Fu (nI 0))
def f_X2_placeOf (Fu : Nat) (q_starts : Ar) (q_stories : Int32) (p1 : Int32) : Option Int32 :=
  bd1 (f_X2_storyAt Fu q_starts q_stories p1) (fun r1 =>
  gd (ix r1 13) (
  some (p1 - (q_starts (r1).toNatClampNeg))))
def f_X2_warm (Fu : Nat) (q_heats : Ar) (p1 : Int32) (p2 : Int32) : Option Ar :=
  gd (ix p1 150) (
  gd (ix p1 150) (
  nm ((upd q_heats (p1).toNatClampNeg (jmin (nI 999) ((q_heats (p1).toNatClampNeg) + p2)))) (fun (q_heats_3 : Ar) =>
  some (q_heats_3))))
def f_X2_remove_L101 (Fu : Nat) (k_101 : Ar → Option (Ar × Ar × Ar × Ar × Ar × Int32)) (q_starts : Ar) (q_stories : Int32) (p1 : Int32) (v3 : Int32) : Nat → Int32 → Ar → Option (Ar × Ar × Ar × Ar × Ar × Int32)
  | 0, _, _ => none
  | fu + 1, x14, q_starts_15 =>
    if q_stories ≤ x14 then
      k_101 q_starts_15
    else
      gd (ix (x14 + (nI 1)) 13) (
      gd (ix x14 13) (
      nm ((upd q_starts_15 (x14).toNatClampNeg ((q_starts_15 (x14 + (nI 1)).toNatClampNeg) - (v3 - (q_starts (p1).toNatClampNeg))))) (fun (q_starts_19 : Ar) =>
      f_X2_remove_L101 Fu k_101 q_starts q_stories p1 v3 fu (x14 + (nI 1)) q_starts_19)))
theorem f_X2_remove_L101_s (Fu : Nat) (k_101 : Ar → Option (Ar × Ar × Ar × Ar × Ar × Int32)) (q_starts : Ar) (q_stories : Int32) (p1 : Int32) (v3 : Int32) (fu : Nat) (x14 : Int32) (q_starts_15 : Ar) : f_X2_remove_L101 Fu k_101 q_starts q_stories p1 v3 (fu + 1) x14 q_starts_15 =
    if q_stories ≤ x14 then
      k_101 q_starts_15
    else
      gd (ix (x14 + (nI 1)) 13) (
      gd (ix x14 13) (
      nm ((upd q_starts_15 (x14).toNatClampNeg ((q_starts_15 (x14 + (nI 1)).toNatClampNeg) - (v3 - (q_starts (p1).toNatClampNeg))))) (fun (q_starts_19 : Ar) =>
      f_X2_remove_L101 Fu k_101 q_starts q_stories p1 v3 fu (x14 + (nI 1)) q_starts_19))) := rfl
def f_X2_remove (Fu : Nat) (q_letters : Ar) (q_heats : Ar) (q_starts : Ar) (q_families : Ar) (q_generations : Ar) (q_stories : Int32) (p1 : Int32) : Option (Ar × Ar × Ar × Ar × Ar × Int32) :=
  gd (ix p1 13) (
  gd (ix (p1 + (nI 1)) 13) (
  nm ((q_starts (p1 + (nI 1)).toNatClampNeg)) (fun v3 =>
  bd1 (f_X2_words Fu q_starts q_stories) (fun r4 =>
  gd (cpok 150 150 v3 (q_starts (p1).toNatClampNeg) (r4 - v3)) (
  nm ((cpA q_letters q_letters v3 (q_starts (p1).toNatClampNeg) (r4 - v3))) (fun (q_letters_7 : Ar) =>
  gd (cpok 150 150 v3 (q_starts (p1).toNatClampNeg) (r4 - v3)) (
  nm ((cpA q_heats q_heats v3 (q_starts (p1).toNatClampNeg) (r4 - v3))) (fun (q_heats_9 : Ar) =>
  gd (cpok 12 12 (p1 + (nI 1)) p1 ((q_stories - (nI 1)) - p1)) (
  nm ((cpA q_families q_families (p1 + (nI 1)) p1 ((q_stories - (nI 1)) - p1))) (fun (q_families_11 : Ar) =>
  gd (cpok 12 12 (p1 + (nI 1)) p1 ((q_stories - (nI 1)) - p1)) (
  nm ((cpA q_generations q_generations (p1 + (nI 1)) p1 ((q_stories - (nI 1)) - p1))) (fun (q_generations_13 : Ar) =>
  jn (fun (q_starts_20 : Ar) =>
    some (q_letters_7, q_heats_9, q_starts_20, q_families_11, q_generations_13, q_stories - (nI 1)))
    (fun k_101 => f_X2_remove_L101 Fu k_101 q_starts q_stories p1 v3 Fu p1 q_starts)))))))))))))
def f_X2_append_L113 (Fu : Nat) (k_113 : Ar → Option (Ar × Ar × Ar)) (q_stories : Int32) (r4 : Int32) : Nat → Int32 → Ar → Option (Ar × Ar × Ar)
  | 0, _, _ => none
  | fu + 1, x14, q_starts_15 =>
    if q_stories < x14 then
      k_113 q_starts_15
    else
      gd (ix x14 13) (
      gd (ix x14 13) (
      nm ((upd q_starts_15 (x14).toNatClampNeg ((q_starts_15 (x14).toNatClampNeg) + r4))) (fun (q_starts_19 : Ar) =>
      f_X2_append_L113 Fu k_113 q_stories r4 fu (x14 + (nI 1)) q_starts_19)))
theorem f_X2_append_L113_s (Fu : Nat) (k_113 : Ar → Option (Ar × Ar × Ar)) (q_stories : Int32) (r4 : Int32) (fu : Nat) (x14 : Int32) (q_starts_15 : Ar) : f_X2_append_L113 Fu k_113 q_stories r4 (fu + 1) x14 q_starts_15 =
    if q_stories < x14 then
      k_113 q_starts_15
    else
      gd (ix x14 13) (
      gd (ix x14 13) (
      nm ((upd q_starts_15 (x14).toNatClampNeg ((q_starts_15 (x14).toNatClampNeg) + r4))) (fun (q_starts_19 : Ar) =>
      f_X2_append_L113 Fu k_113 q_stories r4 fu (x14 + (nI 1)) q_starts_19))) := rfl
def f_X2_append (Fu : Nat) (q_letters : Ar) (q_heats : Ar) (q_starts : Ar) (q_stories : Int32) (o_letters : Ar) (o_heats : Ar) (o_starts : Ar) (p1 : Int32) (p3 : Int32) : Option (Ar × Ar × Ar) :=
  gd (ix (p1 + (nI 1)) 13) (
  nm ((q_starts (p1 + (nI 1)).toNatClampNeg)) (fun v2 =>
  gd (ix p3 13) (
  bd1 (f_X2_sizeOf Fu o_starts p3) (fun r4 =>
  bd1 (f_X2_words Fu q_starts q_stories) (fun r6 =>
  gd (cpok 150 150 v2 (v2 + r4) (r6 - v2)) (
  gd (cpok 150 150 v2 (v2 + r4) (r6 - v2)) (
  gd (cpok 150 150 (o_starts (p3).toNatClampNeg) v2 r4) (
  nm ((cpA o_letters (cpA q_letters q_letters v2 (v2 + r4) (r6 - v2)) (o_starts (p3).toNatClampNeg) v2 r4)) (fun (q_letters_11 : Ar) =>
  gd (cpok 150 150 (o_starts (p3).toNatClampNeg) v2 r4) (
  nm ((cpA o_heats (cpA q_heats q_heats v2 (v2 + r4) (r6 - v2)) (o_starts (p3).toNatClampNeg) v2 r4)) (fun (q_heats_13 : Ar) =>
  jn (fun (q_starts_20 : Ar) =>
    some (q_letters_11, q_heats_13, q_starts_20))
    (fun k_113 => f_X2_append_L113 Fu k_113 q_stories r4 Fu (p1 + (nI 1)) q_starts))))))))))))
def f_X2_isCalm_L2 (Fu : Nat) (q_settings : Ar) (q_heats : Ar) (q_starts : Ar) (q_stories : Int32) : Nat → Int32 → Option Int32
  | 0, _ => none
  | fu + 1, x1 =>
    bd1 (f_X2_words Fu q_starts q_stories) (fun r2 =>
    if r2 ≤ x1 then
      some (nI 1)
    else
      gd (ix x1 150) (
      if (q_heats (x1).toNatClampNeg) < (q_settings 0) then
        f_X2_isCalm_L2 Fu q_settings q_heats q_starts q_stories fu (x1 + (nI 1))
      else
        some (nI 0)))
theorem f_X2_isCalm_L2_s (Fu : Nat) (q_settings : Ar) (q_heats : Ar) (q_starts : Ar) (q_stories : Int32) (fu : Nat) (x1 : Int32) : f_X2_isCalm_L2 Fu q_settings q_heats q_starts q_stories (fu + 1) x1 =
    bd1 (f_X2_words Fu q_starts q_stories) (fun r2 =>
    if r2 ≤ x1 then
      some (nI 1)
    else
      gd (ix x1 150) (
      if (q_heats (x1).toNatClampNeg) < (q_settings 0) then
        f_X2_isCalm_L2 Fu q_settings q_heats q_starts q_stories fu (x1 + (nI 1))
      else
        some (nI 0))) := rfl
def f_X2_isCalm (Fu : Nat) (q_settings : Ar) (q_heats : Ar) (q_starts : Ar) (q_stories : Int32) : Option Int32 :=
  f_X2_isCalm_L2 Fu q_settings q_heats q_starts q_stories Fu (nI 0)
def f_X2_split (Fu : Nat) (q_starts : Ar) (q_families : Ar) (q_generations : Ar) (q_stories : Int32) (p1 : Int32) (p2 : Int32) : Option (Ar × Ar × Ar × Int32) :=
  gd (cpok 13 13 (p1 + (nI 1)) (p1 + (nI 2)) (q_stories - p1)) (
  nm ((cpA q_starts q_starts (p1 + (nI 1)) (p1 + (nI 2)) (q_stories - p1))) (fun (q_starts_2 : Ar) =>
  gd (ix (p1 + (nI 1)) 13) (
  gd (cpok 12 12 p1 (p1 + (nI 1)) (q_stories - p1)) (
  nm ((cpA q_families q_families p1 (p1 + (nI 1)) (q_stories - p1))) (fun (q_families_5 : Ar) =>
  gd (cpok 12 12 p1 (p1 + (nI 1)) (q_stories - p1)) (
  nm ((cpA q_generations q_generations p1 (p1 + (nI 1)) (q_stories - p1))) (fun (q_generations_7 : Ar) =>
  gd (ix (p1 + (nI 1)) 12) (
  gd (ix (p1 + (nI 1)) 12) (
  nm ((upd q_generations_7 (p1 + (nI 1)).toNatClampNeg ((q_generations_7 (p1 + (nI 1)).toNatClampNeg) + (nI 1)))) (fun (q_generations_10 : Ar) =>
  some (upd q_starts_2 (p1 + (nI 1)).toNatClampNeg p2, q_families_5, q_generations_10, q_stories + (nI 1))))))))))))
def f_X2_reactAt (Fu : Nat) (q_settings : Ar) (q_heats : Ar) (q_starts : Ar) (q_families : Ar) (q_generations : Ar) (q_stories : Int32) (q_splits : Int32) (q_boilings : Int32) (q_fizzles : Int32) (p1 : Int32) : Option (Ar × Ar × Ar × Ar × Int32 × Int32 × Int32 × Int32) :=
  bd1 (f_X2_storyAt Fu q_starts q_stories p1) (fun r1 =>
  gd (ix r1 13) (
  gd (ix (r1 + (nI 1)) 13) (
  nm ((q_starts (r1 + (nI 1)).toNatClampNeg)) (fun v5 =>
  jn (fun (q_starts_13 : Ar) (q_families_14 : Ar) (q_generations_15 : Ar) (q_stories_16 : Int32) (q_splits_17 : Int32) (q_boilings_18 : Int32) (q_fizzles_19 : Int32) =>
    gd (ix p1 150) (
    jn (fun (q_heats_25 : Ar) =>
      jn (fun (q_heats_30 : Ar) =>
        some (q_heats_30, q_starts_13, q_families_14, q_generations_15, q_stories_16, q_splits_17, q_boilings_18, q_fizzles_19))
        (fun j31 =>
        if v5 ≤ (p1 + (nI 1)) then
          j31 q_heats_25
        else
          bd1 (f_X2_warm Fu q_heats_25 (p1 + (nI 1)) (q_settings 1)) (fun q_heats_28 =>
          j31 q_heats_28)))
      (fun j26 =>
      if p1 ≤ (q_starts (r1).toNatClampNeg) then
        j26 (upd q_heats (p1).toNatClampNeg (nI 0))
      else
        bd1 (f_X2_warm Fu (upd q_heats (p1).toNatClampNeg (nI 0)) (p1 - (nI 1)) (q_settings 1)) (fun q_heats_23 =>
        j26 q_heats_23))))
    (fun j20 =>
    if p1 = (q_starts (r1).toNatClampNeg) then
      j20 q_starts q_families q_generations q_stories q_splits (q_boilings + (nI 1)) q_fizzles
    else
      if (nI 12) ≤ q_stories then
        j20 q_starts q_families q_generations q_stories q_splits q_boilings (q_fizzles + (nI 1))
      else
        bd4 (f_X2_split Fu q_starts q_families q_generations q_stories r1 p1) (fun q_starts_8 q_families_9 q_generations_10 q_stories_11 =>
        j20 q_starts_8 q_families_9 q_generations_10 q_stories_11 (q_splits + (nI 1)) q_boilings q_fizzles))))))
def f_X2_react_L6 (Fu : Nat) (k_6 : Int32 → Ar → Ar → Ar → Ar → Int32 → Int32 → Int32 → Int32 → Option (Int32 × Ar × Ar × Ar × Ar × Int32 × Int32 × Int32 × Int32)) (q_settings : Ar) : Nat → Int32 → Int32 → Int32 → Ar → Ar → Ar → Ar → Int32 → Int32 → Int32 → Int32 → Option (Int32 × Ar × Ar × Ar × Ar × Int32 × Int32 × Int32 × Int32)
  | 0, _, _, _, _, _, _, _, _, _, _, _ => none
  | fu + 1, x1, x2, x3, q_heats_4, q_starts_5, q_families_6, q_generations_7, q_stories_8, q_splits_9, q_boilings_10, q_fizzles_11 =>
    if (nI 1000000) ≤ x3 then
      k_6 x1 q_heats_4 q_starts_5 q_families_6 q_generations_7 q_stories_8 q_splits_9 q_boilings_10 q_fizzles_11
    else
      bd1 (f_X2_words Fu q_starts_5 q_stories_8) (fun r13 =>
      if r13 ≤ x2 then
        k_6 x1 q_heats_4 q_starts_5 q_families_6 q_generations_7 q_stories_8 q_splits_9 q_boilings_10 q_fizzles_11
      else
        gd (ix x2 150) (
        jn (fun (v27 : Int32) (v28 : Int32) (q_heats_29 : Ar) (q_starts_30 : Ar) (q_families_31 : Ar) (q_generations_32 : Ar) (q_stories_33 : Int32) (q_splits_34 : Int32) (q_boilings_35 : Int32) (q_fizzles_36 : Int32) =>
          f_X2_react_L6 Fu k_6 q_settings fu v27 v28 (x3 + (nI 1)) q_heats_29 q_starts_30 q_families_31 q_generations_32 q_stories_33 q_splits_34 q_boilings_35 q_fizzles_36)
          (fun j37 =>
          if (q_settings 0) ≤ (q_heats_4 (x2).toNatClampNeg) then
            bd8 (f_X2_reactAt Fu q_settings q_heats_4 q_starts_5 q_families_6 q_generations_7 q_stories_8 q_splits_9 q_boilings_10 q_fizzles_11 x2) (fun q_heats_18 q_starts_19 q_families_20 q_generations_21 q_stories_22 q_splits_23 q_boilings_24 q_fizzles_25 =>
            j37 (x1 + (nI 1)) (jmax (nI 0) (x2 - (nI 1))) q_heats_18 q_starts_19 q_families_20 q_generations_21 q_stories_22 q_splits_23 q_boilings_24 q_fizzles_25)
          else
            j37 x1 (x2 + (nI 1)) q_heats_4 q_starts_5 q_families_6 q_generations_7 q_stories_8 q_splits_9 q_boilings_10 q_fizzles_11)))
theorem f_X2_react_L6_s (Fu : Nat) (k_6 : Int32 → Ar → Ar → Ar → Ar → Int32 → Int32 → Int32 → Int32 → Option (Int32 × Ar × Ar × Ar × Ar × Int32 × Int32 × Int32 × Int32)) (q_settings : Ar) (fu : Nat) (x1 : Int32) (x2 : Int32) (x3 : Int32) (q_heats_4 : Ar) (q_starts_5 : Ar) (q_families_6 : Ar) (q_generations_7 : Ar) (q_stories_8 : Int32) (q_splits_9 : Int32) (q_boilings_10 : Int32) (q_fizzles_11 : Int32) : f_X2_react_L6 Fu k_6 q_settings (fu + 1) x1 x2 x3 q_heats_4 q_starts_5 q_families_6 q_generations_7 q_stories_8 q_splits_9 q_boilings_10 q_fizzles_11 =
    if (nI 1000000) ≤ x3 then
      k_6 x1 q_heats_4 q_starts_5 q_families_6 q_generations_7 q_stories_8 q_splits_9 q_boilings_10 q_fizzles_11
    else
      bd1 (f_X2_words Fu q_starts_5 q_stories_8) (fun r13 =>
      if r13 ≤ x2 then
        k_6 x1 q_heats_4 q_starts_5 q_families_6 q_generations_7 q_stories_8 q_splits_9 q_boilings_10 q_fizzles_11
      else
        gd (ix x2 150) (
        jn (fun (v27 : Int32) (v28 : Int32) (q_heats_29 : Ar) (q_starts_30 : Ar) (q_families_31 : Ar) (q_generations_32 : Ar) (q_stories_33 : Int32) (q_splits_34 : Int32) (q_boilings_35 : Int32) (q_fizzles_36 : Int32) =>
          f_X2_react_L6 Fu k_6 q_settings fu v27 v28 (x3 + (nI 1)) q_heats_29 q_starts_30 q_families_31 q_generations_32 q_stories_33 q_splits_34 q_boilings_35 q_fizzles_36)
          (fun j37 =>
          if (q_settings 0) ≤ (q_heats_4 (x2).toNatClampNeg) then
            bd8 (f_X2_reactAt Fu q_settings q_heats_4 q_starts_5 q_families_6 q_generations_7 q_stories_8 q_splits_9 q_boilings_10 q_fizzles_11 x2) (fun q_heats_18 q_starts_19 q_families_20 q_generations_21 q_stories_22 q_splits_23 q_boilings_24 q_fizzles_25 =>
            j37 (x1 + (nI 1)) (jmax (nI 0) (x2 - (nI 1))) q_heats_18 q_starts_19 q_families_20 q_generations_21 q_stories_22 q_splits_23 q_boilings_24 q_fizzles_25)
          else
            j37 x1 (x2 + (nI 1)) q_heats_4 q_starts_5 q_families_6 q_generations_7 q_stories_8 q_splits_9 q_boilings_10 q_fizzles_11))) := rfl
def f_X2_react (Fu : Nat) (q_settings : Ar) (q_heats : Ar) (q_starts : Ar) (q_families : Ar) (q_generations : Ar) (q_stories : Int32) (q_splits : Int32) (q_boilings : Int32) (q_fizzles : Int32) : Option (Int32 × Ar × Ar × Ar × Ar × Int32 × Int32 × Int32 × Int32) :=
  jn (fun (v38 : Int32) (q_heats_39 : Ar) (q_starts_40 : Ar) (q_families_41 : Ar) (q_generations_42 : Ar) (q_stories_43 : Int32) (q_splits_44 : Int32) (q_boilings_45 : Int32) (q_fizzles_46 : Int32) =>
    some (v38, q_heats_39, q_starts_40, q_families_41, q_generations_42, q_stories_43, q_splits_44, q_boilings_45, q_fizzles_46))
    (fun k_6 => f_X2_react_L6 Fu k_6 q_settings Fu (nI 0) (nI 0) (nI 0) q_heats q_starts q_families q_generations q_stories q_splits q_boilings q_fizzles)
def f_X2_heatBetween_L5 (Fu : Nat) (k_5 : Int32 → Option Int32) (q_heats : Ar) (p2 : Int32) : Nat → Int32 → Int32 → Option Int32
  | 0, _, _ => none
  | fu + 1, x1, x2 =>
    if p2 ≤ x2 then
      k_5 x1
    else
      gd (ix x2 150) (
      nm ((x1 + (q_heats (x2).toNatClampNeg))) (fun v5 =>
      f_X2_heatBetween_L5 Fu k_5 q_heats p2 fu v5 (x2 + (nI 1))))
theorem f_X2_heatBetween_L5_s (Fu : Nat) (k_5 : Int32 → Option Int32) (q_heats : Ar) (p2 : Int32) (fu : Nat) (x1 : Int32) (x2 : Int32) : f_X2_heatBetween_L5 Fu k_5 q_heats p2 (fu + 1) x1 x2 =
    if p2 ≤ x2 then
      k_5 x1
    else
      gd (ix x2 150) (
      nm ((x1 + (q_heats (x2).toNatClampNeg))) (fun v5 =>
      f_X2_heatBetween_L5 Fu k_5 q_heats p2 fu v5 (x2 + (nI 1)))) := rfl
def f_X2_heatBetween (Fu : Nat) (q_heats : Ar) (p1 : Int32) (p2 : Int32) : Option Int32 :=
  jn (fun (v6 : Int32) =>
    some (v6))
    (fun k_5 => f_X2_heatBetween_L5 Fu k_5 q_heats p2 Fu (nI 0) p1)
def f_X2_heatOf (Fu : Nat) (q_heats : Ar) (q_starts : Ar) (p1 : Int32) : Option Int32 :=
  gd (ix p1 13) (
  gd (ix (p1 + (nI 1)) 13) (
  bd1 (f_X2_heatBetween Fu q_heats (q_starts (p1).toNatClampNeg) (q_starts (p1 + (nI 1)).toNatClampNeg)) (fun r3 =>
  some (r3))))
def f_X2_heatOfAll (Fu : Nat) (q_heats : Ar) (q_starts : Ar) (q_stories : Int32) : Option Int32 :=
  bd1 (f_X2_words Fu q_starts q_stories) (fun r1 =>
  bd1 (f_X2_heatBetween Fu q_heats (nI 0) r1) (fun r3 =>
  some (r3)))
def f_X2_timesBetween_L6 (Fu : Nat) (k_6 : Int32 → Option Int32) (q_letters : Ar) (p2 : Int32) (p3 : Int32) : Nat → Int32 → Int32 → Option Int32
  | 0, _, _ => none
  | fu + 1, x1, x2 =>
    if p2 ≤ x2 then
      k_6 x1
    else
      gd (ix x2 150) (
      nm (if (q_letters (x2).toNatClampNeg) = p3 then (nI 1) else nI 0) (fun v6 =>
      f_X2_timesBetween_L6 Fu k_6 q_letters p2 p3 fu (x1 + v6) (x2 + (nI 1))))
theorem f_X2_timesBetween_L6_s (Fu : Nat) (k_6 : Int32 → Option Int32) (q_letters : Ar) (p2 : Int32) (p3 : Int32) (fu : Nat) (x1 : Int32) (x2 : Int32) : f_X2_timesBetween_L6 Fu k_6 q_letters p2 p3 (fu + 1) x1 x2 =
    if p2 ≤ x2 then
      k_6 x1
    else
      gd (ix x2 150) (
      nm (if (q_letters (x2).toNatClampNeg) = p3 then (nI 1) else nI 0) (fun v6 =>
      f_X2_timesBetween_L6 Fu k_6 q_letters p2 p3 fu (x1 + v6) (x2 + (nI 1)))) := rfl
def f_X2_timesBetween (Fu : Nat) (q_letters : Ar) (p1 : Int32) (p2 : Int32) (p3 : Int32) : Option Int32 :=
  jn (fun (v7 : Int32) =>
    some (v7))
    (fun k_6 => f_X2_timesBetween_L6 Fu k_6 q_letters p2 p3 Fu (nI 0) p1)
def f_X2_timesIn (Fu : Nat) (q_letters : Ar) (q_starts : Ar) (p1 : Int32) (p2 : Int32) : Option Int32 :=
  gd (ix p1 13) (
  gd (ix (p1 + (nI 1)) 13) (
  bd1 (f_X2_timesBetween Fu q_letters (q_starts (p1).toNatClampNeg) (q_starts (p1 + (nI 1)).toNatClampNeg) p2) (fun r3 =>
  some (r3))))
def f_X2_timesInAll (Fu : Nat) (q_letters : Ar) (q_starts : Ar) (q_stories : Int32) (p1 : Int32) : Option Int32 :=
  bd1 (f_X2_words Fu q_starts q_stories) (fun r1 =>
  bd1 (f_X2_timesBetween Fu q_letters (nI 0) r1 p1) (fun r3 =>
  some (r3)))
def f_X2_tallyOf_L15 (Fu : Nat) (k_15 : Ar → Option Ar) (q_letters : Ar) (q_starts : Ar) (p1 : Int32) : Nat → Int32 → Ar → Option Ar
  | 0, _, _ => none
  | fu + 1, x2, q_tally_3 =>
    gd (ix (p1 + (nI 1)) 13) (
    if (q_starts (p1 + (nI 1)).toNatClampNeg) ≤ x2 then
      k_15 q_tally_3
    else
      gd (ix x2 150) (
      gd (ix (q_letters (x2).toNatClampNeg) 26) (
      gd (ix (q_letters (x2).toNatClampNeg) 26) (
      nm ((upd q_tally_3 (q_letters (x2).toNatClampNeg).toNatClampNeg ((q_tally_3 (q_letters (x2).toNatClampNeg).toNatClampNeg) + (nI 1)))) (fun (q_tally_9 : Ar) =>
      f_X2_tallyOf_L15 Fu k_15 q_letters q_starts p1 fu (x2 + (nI 1)) q_tally_9)))))
theorem f_X2_tallyOf_L15_s (Fu : Nat) (k_15 : Ar → Option Ar) (q_letters : Ar) (q_starts : Ar) (p1 : Int32) (fu : Nat) (x2 : Int32) (q_tally_3 : Ar) : f_X2_tallyOf_L15 Fu k_15 q_letters q_starts p1 (fu + 1) x2 q_tally_3 =
    gd (ix (p1 + (nI 1)) 13) (
    if (q_starts (p1 + (nI 1)).toNatClampNeg) ≤ x2 then
      k_15 q_tally_3
    else
      gd (ix x2 150) (
      gd (ix (q_letters (x2).toNatClampNeg) 26) (
      gd (ix (q_letters (x2).toNatClampNeg) 26) (
      nm ((upd q_tally_3 (q_letters (x2).toNatClampNeg).toNatClampNeg ((q_tally_3 (q_letters (x2).toNatClampNeg).toNatClampNeg) + (nI 1)))) (fun (q_tally_9 : Ar) =>
      f_X2_tallyOf_L15 Fu k_15 q_letters q_starts p1 fu (x2 + (nI 1)) q_tally_9))))) := rfl
def f_X2_tallyOf (Fu : Nat) (q_letters : Ar) (q_starts : Ar) (q_tally : Ar) (p1 : Int32) : Option Ar :=
  gd (ix p1 13) (
  jn (fun (q_tally_10 : Ar) =>
    some (q_tally_10))
    (fun k_15 => f_X2_tallyOf_L15 Fu k_15 q_letters q_starts p1 Fu (q_starts (p1).toNatClampNeg) (fun _ => (nI 0))))
def f_X2_themeOf_L9 (Fu : Nat) (k_9 : Int32 → Option (Int32 × Ar)) (q_tally_1 : Ar) : Nat → Int32 → Int32 → Option (Int32 × Ar)
  | 0, _, _ => none
  | fu + 1, x3, x4 =>
    if (nI 26) ≤ x4 then
      k_9 x3
    else
      gd (ix x4 26) (
      gd (ix x3 26) (
      nm (if (q_tally_1 (x4).toNatClampNeg) ≤ (q_tally_1 (x3).toNatClampNeg) then x3 else x4) (fun v9 =>
      f_X2_themeOf_L9 Fu k_9 q_tally_1 fu v9 (x4 + (nI 1)))))
theorem f_X2_themeOf_L9_s (Fu : Nat) (k_9 : Int32 → Option (Int32 × Ar)) (q_tally_1 : Ar) (fu : Nat) (x3 : Int32) (x4 : Int32) : f_X2_themeOf_L9 Fu k_9 q_tally_1 (fu + 1) x3 x4 =
    if (nI 26) ≤ x4 then
      k_9 x3
    else
      gd (ix x4 26) (
      gd (ix x3 26) (
      nm (if (q_tally_1 (x4).toNatClampNeg) ≤ (q_tally_1 (x3).toNatClampNeg) then x3 else x4) (fun v9 =>
      f_X2_themeOf_L9 Fu k_9 q_tally_1 fu v9 (x4 + (nI 1))))) := rfl
def f_X2_themeOf (Fu : Nat) (q_letters : Ar) (q_starts : Ar) (q_tally : Ar) (p1 : Int32) : Option (Int32 × Ar) :=
  bd1 (f_X2_tallyOf Fu q_letters q_starts q_tally p1) (fun q_tally_1 =>
  jn (fun (v10 : Int32) =>
    some (v10, q_tally_1))
    (fun k_9 => f_X2_themeOf_L9 Fu k_9 q_tally_1 Fu (nI 0) (nI 1)))
def f_X2_unlikeLettersOf_L9 (Fu : Nat) (k_9 : Int32 → Option (Int32 × Ar)) (q_tally_1 : Ar) : Nat → Int32 → Int32 → Option (Int32 × Ar)
  | 0, _, _ => none
  | fu + 1, x3, x4 =>
    if (nI 26) ≤ x4 then
      k_9 x3
    else
      gd (ix x4 26) (
      nm (if (q_tally_1 (x4).toNatClampNeg) ≤ 0 then (nI 0) else nI 1) (fun v8 =>
      f_X2_unlikeLettersOf_L9 Fu k_9 q_tally_1 fu (x3 + v8) (x4 + (nI 1))))
theorem f_X2_unlikeLettersOf_L9_s (Fu : Nat) (k_9 : Int32 → Option (Int32 × Ar)) (q_tally_1 : Ar) (fu : Nat) (x3 : Int32) (x4 : Int32) : f_X2_unlikeLettersOf_L9 Fu k_9 q_tally_1 (fu + 1) x3 x4 =
    if (nI 26) ≤ x4 then
      k_9 x3
    else
      gd (ix x4 26) (
      nm (if (q_tally_1 (x4).toNatClampNeg) ≤ 0 then (nI 0) else nI 1) (fun v8 =>
      f_X2_unlikeLettersOf_L9 Fu k_9 q_tally_1 fu (x3 + v8) (x4 + (nI 1)))) := rfl
def f_X2_unlikeLettersOf (Fu : Nat) (q_letters : Ar) (q_starts : Ar) (q_tally : Ar) (p1 : Int32) : Option (Int32 × Ar) :=
  bd1 (f_X2_tallyOf Fu q_letters q_starts q_tally p1) (fun q_tally_1 =>
  jn (fun (v9 : Int32) =>
    some (v9, q_tally_1))
    (fun k_9 => f_X2_unlikeLettersOf_L9 Fu k_9 q_tally_1 Fu (nI 0) (nI 0)))
def f_X2_hottestOf_L14 (Fu : Nat) (k_14 : Int32 → Option Int32) (q_heats : Ar) (q_starts : Ar) (p1 : Int32) : Nat → Int32 → Int32 → Option Int32
  | 0, _, _ => none
  | fu + 1, x3, x4 =>
    gd (ix (p1 + (nI 1)) 13) (
    if (q_starts (p1 + (nI 1)).toNatClampNeg) ≤ x4 then
      k_14 x3
    else
      gd (ix x4 150) (
      gd (ix x3 150) (
      nm (if (q_heats (x4).toNatClampNeg) ≤ (q_heats (x3).toNatClampNeg) then x3 else x4) (fun v10 =>
      f_X2_hottestOf_L14 Fu k_14 q_heats q_starts p1 fu v10 (x4 + (nI 1))))))
theorem f_X2_hottestOf_L14_s (Fu : Nat) (k_14 : Int32 → Option Int32) (q_heats : Ar) (q_starts : Ar) (p1 : Int32) (fu : Nat) (x3 : Int32) (x4 : Int32) : f_X2_hottestOf_L14 Fu k_14 q_heats q_starts p1 (fu + 1) x3 x4 =
    gd (ix (p1 + (nI 1)) 13) (
    if (q_starts (p1 + (nI 1)).toNatClampNeg) ≤ x4 then
      k_14 x3
    else
      gd (ix x4 150) (
      gd (ix x3 150) (
      nm (if (q_heats (x4).toNatClampNeg) ≤ (q_heats (x3).toNatClampNeg) then x3 else x4) (fun v10 =>
      f_X2_hottestOf_L14 Fu k_14 q_heats q_starts p1 fu v10 (x4 + (nI 1)))))) := rfl
def f_X2_hottestOf (Fu : Nat) (q_heats : Ar) (q_starts : Ar) (p1 : Int32) : Option Int32 :=
  gd (ix p1 13) (
  gd (ix p1 13) (
  jn (fun (v11 : Int32) =>
    gd (ix p1 13) (
    some (v11 - (q_starts (p1).toNatClampNeg))))
    (fun k_14 => f_X2_hottestOf_L14 Fu k_14 q_heats q_starts p1 Fu (q_starts (p1).toNatClampNeg) (q_starts (p1).toNatClampNeg))))
def f_X2_readsFromBothEnds_L13 (Fu : Nat) (q_letters : Ar) (q_starts : Ar) (p1 : Int32) (v2 : Int32) : Nat → Int32 → Option Int32
  | 0, _ => none
  | fu + 1, x3 =>
    bd1 (f_X2_sizeOf Fu q_starts p1) (fun r4 =>
    if (r4 / (nI 2)) ≤ x3 then
      some (nI 1)
    else
      gd (ix p1 13) (
      gd (ix ((q_starts (p1).toNatClampNeg) + x3) 150) (
      gd (ix (v2 - x3) 150) (
      if (q_letters ((q_starts (p1).toNatClampNeg) + x3).toNatClampNeg) = (q_letters (v2 - x3).toNatClampNeg) then
        f_X2_readsFromBothEnds_L13 Fu q_letters q_starts p1 v2 fu (x3 + (nI 1))
      else
        some (nI 0)))))
theorem f_X2_readsFromBothEnds_L13_s (Fu : Nat) (q_letters : Ar) (q_starts : Ar) (p1 : Int32) (v2 : Int32) (fu : Nat) (x3 : Int32) : f_X2_readsFromBothEnds_L13 Fu q_letters q_starts p1 v2 (fu + 1) x3 =
    bd1 (f_X2_sizeOf Fu q_starts p1) (fun r4 =>
    if (r4 / (nI 2)) ≤ x3 then
      some (nI 1)
    else
      gd (ix p1 13) (
      gd (ix ((q_starts (p1).toNatClampNeg) + x3) 150) (
      gd (ix (v2 - x3) 150) (
      if (q_letters ((q_starts (p1).toNatClampNeg) + x3).toNatClampNeg) = (q_letters (v2 - x3).toNatClampNeg) then
        f_X2_readsFromBothEnds_L13 Fu q_letters q_starts p1 v2 fu (x3 + (nI 1))
      else
        some (nI 0))))) := rfl
def f_X2_readsFromBothEnds (Fu : Nat) (q_letters : Ar) (q_starts : Ar) (p1 : Int32) : Option Int32 :=
  gd (ix (p1 + (nI 1)) 13) (
  nm (((q_starts (p1 + (nI 1)).toNatClampNeg) - (nI 1))) (fun v2 =>
  f_X2_readsFromBothEnds_L13 Fu q_letters q_starts p1 v2 Fu (nI 0)))
def f_X2_isFirstOfFamily_L2 (Fu : Nat) (q_families : Ar) (p1 : Int32) : Nat → Int32 → Option Int32
  | 0, _ => none
  | fu + 1, x1 =>
    if p1 ≤ x1 then
      some (nI 1)
    else
      gd (ix x1 12) (
      gd (ix p1 12) (
      if (q_families (x1).toNatClampNeg) = (q_families (p1).toNatClampNeg) then
        some (nI 0)
      else
        f_X2_isFirstOfFamily_L2 Fu q_families p1 fu (x1 + (nI 1))))
theorem f_X2_isFirstOfFamily_L2_s (Fu : Nat) (q_families : Ar) (p1 : Int32) (fu : Nat) (x1 : Int32) : f_X2_isFirstOfFamily_L2 Fu q_families p1 (fu + 1) x1 =
    if p1 ≤ x1 then
      some (nI 1)
    else
      gd (ix x1 12) (
      gd (ix p1 12) (
      if (q_families (x1).toNatClampNeg) = (q_families (p1).toNatClampNeg) then
        some (nI 0)
      else
        f_X2_isFirstOfFamily_L2 Fu q_families p1 fu (x1 + (nI 1)))) := rfl
def f_X2_isFirstOfFamily (Fu : Nat) (q_families : Ar) (p1 : Int32) : Option Int32 :=
  f_X2_isFirstOfFamily_L2 Fu q_families p1 Fu (nI 0)
def f_X2_unlikeFamilies_L4 (Fu : Nat) (k_4 : Int32 → Option Int32) (q_families : Ar) (q_stories : Int32) : Nat → Int32 → Int32 → Option Int32
  | 0, _, _ => none
  | fu + 1, x1, x2 =>
    if q_stories ≤ x2 then
      k_4 x1
    else
      bd1 (f_X2_isFirstOfFamily Fu q_families x2) (fun r4 =>
      nm (if r4 = 0 then (nI 0) else nI 1) (fun v7 =>
      f_X2_unlikeFamilies_L4 Fu k_4 q_families q_stories fu (x1 + v7) (x2 + (nI 1))))
theorem f_X2_unlikeFamilies_L4_s (Fu : Nat) (k_4 : Int32 → Option Int32) (q_families : Ar) (q_stories : Int32) (fu : Nat) (x1 : Int32) (x2 : Int32) : f_X2_unlikeFamilies_L4 Fu k_4 q_families q_stories (fu + 1) x1 x2 =
    if q_stories ≤ x2 then
      k_4 x1
    else
      bd1 (f_X2_isFirstOfFamily Fu q_families x2) (fun r4 =>
      nm (if r4 = 0 then (nI 0) else nI 1) (fun v7 =>
      f_X2_unlikeFamilies_L4 Fu k_4 q_families q_stories fu (x1 + v7) (x2 + (nI 1)))) := rfl
def f_X2_unlikeFamilies (Fu : Nat) (q_families : Ar) (q_stories : Int32) : Option Int32 :=
  jn (fun (v8 : Int32) =>
    some (v8))
    (fun k_4 => f_X2_unlikeFamilies_L4 Fu k_4 q_families q_stories Fu (nI 0) (nI 0))
def f_X2_greatestGeneration_L5 (Fu : Nat) (k_5 : Int32 → Option Int32) (q_generations : Ar) (q_stories : Int32) : Nat → Int32 → Int32 → Option Int32
  | 0, _, _ => none
  | fu + 1, x1, x2 =>
    if q_stories ≤ x2 then
      k_5 x1
    else
      gd (ix x2 12) (
      nm ((jmax x1 (q_generations (x2).toNatClampNeg))) (fun v5 =>
      f_X2_greatestGeneration_L5 Fu k_5 q_generations q_stories fu v5 (x2 + (nI 1))))
theorem f_X2_greatestGeneration_L5_s (Fu : Nat) (k_5 : Int32 → Option Int32) (q_generations : Ar) (q_stories : Int32) (fu : Nat) (x1 : Int32) (x2 : Int32) : f_X2_greatestGeneration_L5 Fu k_5 q_generations q_stories (fu + 1) x1 x2 =
    if q_stories ≤ x2 then
      k_5 x1
    else
      gd (ix x2 12) (
      nm ((jmax x1 (q_generations (x2).toNatClampNeg))) (fun v5 =>
      f_X2_greatestGeneration_L5 Fu k_5 q_generations q_stories fu v5 (x2 + (nI 1)))) := rfl
def f_X2_greatestGeneration (Fu : Nat) (q_generations : Ar) (q_stories : Int32) : Option Int32 :=
  jn (fun (v6 : Int32) =>
    some (v6))
    (fun k_5 => f_X2_greatestGeneration_L5 Fu k_5 q_generations q_stories Fu (-6) (nI 0))
def f_X2_storiesWith_L4 (Fu : Nat) (k_4 : Int32 → Option Int32) (q_letters : Ar) (q_starts : Ar) (q_stories : Int32) (p1 : Int32) : Nat → Int32 → Int32 → Option Int32
  | 0, _, _ => none
  | fu + 1, x1, x2 =>
    if q_stories ≤ x2 then
      k_4 x1
    else
      bd1 (f_X2_timesIn Fu q_letters q_starts x2 p1) (fun r4 =>
      nm (if r4 ≤ 0 then (nI 0) else nI 1) (fun v7 =>
      f_X2_storiesWith_L4 Fu k_4 q_letters q_starts q_stories p1 fu (x1 + v7) (x2 + (nI 1))))
theorem f_X2_storiesWith_L4_s (Fu : Nat) (k_4 : Int32 → Option Int32) (q_letters : Ar) (q_starts : Ar) (q_stories : Int32) (p1 : Int32) (fu : Nat) (x1 : Int32) (x2 : Int32) : f_X2_storiesWith_L4 Fu k_4 q_letters q_starts q_stories p1 (fu + 1) x1 x2 =
    if q_stories ≤ x2 then
      k_4 x1
    else
      bd1 (f_X2_timesIn Fu q_letters q_starts x2 p1) (fun r4 =>
      nm (if r4 ≤ 0 then (nI 0) else nI 1) (fun v7 =>
      f_X2_storiesWith_L4 Fu k_4 q_letters q_starts q_stories p1 fu (x1 + v7) (x2 + (nI 1)))) := rfl
def f_X2_storiesWith (Fu : Nat) (q_letters : Ar) (q_starts : Ar) (q_stories : Int32) (p1 : Int32) : Option Int32 :=
  jn (fun (v8 : Int32) =>
    some (v8))
    (fun k_4 => f_X2_storiesWith_L4 Fu k_4 q_letters q_starts q_stories p1 Fu (nI 0) (nI 0))
def f_X2_storiesOfTheme_L4 (Fu : Nat) (k_4 : Int32 → Ar → Option (Int32 × Ar)) (q_letters : Ar) (q_starts : Ar) (q_stories : Int32) (p1 : Int32) : Nat → Int32 → Int32 → Ar → Option (Int32 × Ar)
  | 0, _, _, _ => none
  | fu + 1, x1, x2, q_tally_3 =>
    if q_stories ≤ x2 then
      k_4 x1 q_tally_3
    else
      bd2 (f_X2_themeOf Fu q_letters q_starts q_tally_3 x2) (fun r5 q_tally_6 =>
      nm (if r5 = p1 then (nI 1) else nI 0) (fun v9 =>
      f_X2_storiesOfTheme_L4 Fu k_4 q_letters q_starts q_stories p1 fu (x1 + v9) (x2 + (nI 1)) q_tally_6))
theorem f_X2_storiesOfTheme_L4_s (Fu : Nat) (k_4 : Int32 → Ar → Option (Int32 × Ar)) (q_letters : Ar) (q_starts : Ar) (q_stories : Int32) (p1 : Int32) (fu : Nat) (x1 : Int32) (x2 : Int32) (q_tally_3 : Ar) : f_X2_storiesOfTheme_L4 Fu k_4 q_letters q_starts q_stories p1 (fu + 1) x1 x2 q_tally_3 =
    if q_stories ≤ x2 then
      k_4 x1 q_tally_3
    else
      bd2 (f_X2_themeOf Fu q_letters q_starts q_tally_3 x2) (fun r5 q_tally_6 =>
      nm (if r5 = p1 then (nI 1) else nI 0) (fun v9 =>
      f_X2_storiesOfTheme_L4 Fu k_4 q_letters q_starts q_stories p1 fu (x1 + v9) (x2 + (nI 1)) q_tally_6)) := rfl
def f_X2_storiesOfTheme (Fu : Nat) (q_letters : Ar) (q_starts : Ar) (q_tally : Ar) (q_stories : Int32) (p1 : Int32) : Option (Int32 × Ar) :=
  jn (fun (v10 : Int32) (q_tally_11 : Ar) =>
    some (v10, q_tally_11))
    (fun k_4 => f_X2_storiesOfTheme_L4 Fu k_4 q_letters q_starts q_stories p1 Fu (nI 0) (nI 0) q_tally)
def f_X2_heatOfLetter_L4 (Fu : Nat) (k_4 : Int32 → Option Int32) (q_letters : Ar) (q_heats : Ar) (q_starts : Ar) (q_stories : Int32) (p1 : Int32) : Nat → Int32 → Int32 → Option Int32
  | 0, _, _ => none
  | fu + 1, x1, x2 =>
    bd1 (f_X2_words Fu q_starts q_stories) (fun r3 =>
    if r3 ≤ x2 then
      k_4 x1
    else
      gd (ix x2 150) (
      jn (fun (v9 : Int32) =>
        f_X2_heatOfLetter_L4 Fu k_4 q_letters q_heats q_starts q_stories p1 fu (x1 + v9) (x2 + (nI 1)))
        (fun j10 =>
        if (q_letters (x2).toNatClampNeg) = p1 then
          gd (ix x2 150) (
          j10 (q_heats (x2).toNatClampNeg))
        else
          j10 (nI 0))))
theorem f_X2_heatOfLetter_L4_s (Fu : Nat) (k_4 : Int32 → Option Int32) (q_letters : Ar) (q_heats : Ar) (q_starts : Ar) (q_stories : Int32) (p1 : Int32) (fu : Nat) (x1 : Int32) (x2 : Int32) : f_X2_heatOfLetter_L4 Fu k_4 q_letters q_heats q_starts q_stories p1 (fu + 1) x1 x2 =
    bd1 (f_X2_words Fu q_starts q_stories) (fun r3 =>
    if r3 ≤ x2 then
      k_4 x1
    else
      gd (ix x2 150) (
      jn (fun (v9 : Int32) =>
        f_X2_heatOfLetter_L4 Fu k_4 q_letters q_heats q_starts q_stories p1 fu (x1 + v9) (x2 + (nI 1)))
        (fun j10 =>
        if (q_letters (x2).toNatClampNeg) = p1 then
          gd (ix x2 150) (
          j10 (q_heats (x2).toNatClampNeg))
        else
          j10 (nI 0)))) := rfl
def f_X2_heatOfLetter (Fu : Nat) (q_letters : Ar) (q_heats : Ar) (q_starts : Ar) (q_stories : Int32) (p1 : Int32) : Option Int32 :=
  jn (fun (v11 : Int32) =>
    some (v11))
    (fun k_4 => f_X2_heatOfLetter_L4 Fu k_4 q_letters q_heats q_starts q_stories p1 Fu (nI 0) (nI 0))
def f_X2_isPair (Fu : Nat) (q_letters : Ar) (q_starts : Ar) (q_stories : Int32) (p1 : Int32) (p2 : Int32) (p3 : Int32) : Option Int32 :=
  gd (ix p1 150) (
  jn (fun (v10 : Int32) =>
    gd (bz v10) (some (v10)))
    (fun j11 =>
    if (q_letters (p1).toNatClampNeg) = p2 then
      gd (ix (p1 + (nI 1)) 150) (
      if (q_letters (p1 + (nI 1)).toNatClampNeg) = p3 then
        bd1 (f_X2_storyAt Fu q_starts q_stories p1) (fun r5 =>
        bd1 (f_X2_storyAt Fu q_starts q_stories (p1 + (nI 1))) (fun r7 =>
        if r5 = r7 then
          j11 (nI 1)
        else
          j11 (nI 0)))
      else
        j11 (nI 0))
    else
      j11 (nI 0)))
def f_X3_write (Fu : Nat) (p_characters : Ar) (p_length : Int32) (n_settings : Ar) (n_letters : Ar) (n_heats : Ar) (n_starts : Ar) (n_families : Ar) (n_generations : Ar) (n_stories : Int32) (n_nextFamily : Int32) (n_splits : Int32) (n_boilings : Int32) (n_fizzles : Int32) (h_v : (Nat → SV)) (h_oldest : Int32) (h_size : Int32) : Option (Int32 × Int32 × Ar × Ar × Ar × Ar × Ar × Int32 × Int32 × Int32 × Int32 × Int32 × (Nat → SV) × Int32 × Int32) :=
  bd1 (f_X1_firstFault Fu p_characters p_length) (fun r1 =>
  if r1 = (-6) then
    bd1 (f_X1_storiesIn Fu p_characters p_length) (fun r4 =>
    if (nI 12) < (n_stories + r4) then
      some (-4, p_length, n_letters, n_heats, n_starts, n_families, n_generations, n_stories, n_nextFamily, n_splits, n_boilings, n_fizzles, h_v, h_oldest, h_size)
    else
      bd1 (f_X2_words Fu n_starts n_stories) (fun r7 =>
      bd1 (f_X1_wordsIn Fu p_characters p_length) (fun r9 =>
      if (r7 + r9) ≤ (nI 150) then
        bd3 (f_X0_record Fu h_v h_oldest h_size n_settings n_letters n_heats n_starts n_families n_generations n_stories n_nextFamily n_splits n_boilings n_fizzles) (fun h_v_12 h_oldest_13 h_size_14 =>
        bd7 (f_X1_writeTo Fu p_characters p_length n_letters n_heats n_starts n_families n_generations n_stories n_nextFamily) (fun n_letters_16 n_heats_17 n_starts_18 n_families_19 n_generations_20 n_stories_21 n_nextFamily_22 =>
        bd9 (f_X2_react Fu n_settings n_heats_17 n_starts_18 n_families_19 n_generations_20 n_stories_21 n_splits n_boilings n_fizzles) (fun r24 n_heats_25 n_starts_26 n_families_27 n_generations_28 n_stories_29 n_splits_30 n_boilings_31 n_fizzles_32 =>
        some (n_stories_29, nI 0, n_letters_16, n_heats_25, n_starts_26, n_families_27, n_generations_28, n_stories_29, n_nextFamily_22, n_splits_30, n_boilings_31, n_fizzles_32, h_v_12, h_oldest_13, h_size_14))))
      else
        some (-4, p_length, n_letters, n_heats, n_starts, n_families, n_generations, n_stories, n_nextFamily, n_splits, n_boilings, n_fizzles, h_v, h_oldest, h_size))))
  else
    some (-3, p_length, n_letters, n_heats, n_starts, n_families, n_generations, n_stories, n_nextFamily, n_splits, n_boilings, n_fizzles, h_v, h_oldest, h_size))
def f_X3_heat (Fu : Nat) (n_settings : Ar) (n_letters : Ar) (n_heats : Ar) (n_starts : Ar) (n_families : Ar) (n_generations : Ar) (n_stories : Int32) (n_nextFamily : Int32) (n_splits : Int32) (n_boilings : Int32) (n_fizzles : Int32) (h_v : (Nat → SV)) (h_oldest : Int32) (h_size : Int32) (p1 : Int32) (p2 : Int32) (p3 : Int32) : Option (Int32 × Ar × Ar × Ar × Ar × Int32 × Int32 × Int32 × Int32 × (Nat → SV) × Int32 × Int32) :=
  bd1 (f_X2_hasWord Fu n_starts n_stories p1 p2) (fun r1 =>
  if r1 = 0 then
    some (-1, n_heats, n_starts, n_families, n_generations, n_stories, n_splits, n_boilings, n_fizzles, h_v, h_oldest, h_size)
  else
    bd1 (f_X3_isWithin Fu p3 (nI 1) (nI 500)) (fun r4 =>
    if r4 = 0 then
      some (-2, n_heats, n_starts, n_families, n_generations, n_stories, n_splits, n_boilings, n_fizzles, h_v, h_oldest, h_size)
    else
      bd3 (f_X0_record Fu h_v h_oldest h_size n_settings n_letters n_heats n_starts n_families n_generations n_stories n_nextFamily n_splits n_boilings n_fizzles) (fun h_v_7 h_oldest_8 h_size_9 =>
      gd (ix p1 13) (
      bd1 (f_X2_warm Fu n_heats ((n_starts (p1).toNatClampNeg) + p2) p3) (fun n_heats_12 =>
      bd9 (f_X2_react Fu n_settings n_heats_12 n_starts n_families n_generations n_stories n_splits n_boilings n_fizzles) (fun r14 n_heats_15 n_starts_16 n_families_17 n_generations_18 n_stories_19 n_splits_20 n_boilings_21 n_fizzles_22 =>
      some (r14, n_heats_15, n_starts_16, n_families_17, n_generations_18, n_stories_19, n_splits_20, n_boilings_21, n_fizzles_22, h_v_7, h_oldest_8, h_size_9)))))))
def f_X3_read_L47 (Fu : Nat) (k_47 : Ar → Option (Int32 × Ar × Ar × Ar × Ar × Int32 × Int32 × Int32 × Int32 × (Nat → SV) × Int32 × Int32)) (n_starts : Ar) (p1 : Int32) (p2 : Int32) : Nat → Int32 → Ar → Option (Int32 × Ar × Ar × Ar × Ar × Int32 × Int32 × Int32 × Int32 × (Nat → SV) × Int32 × Int32)
  | 0, _, _ => none
  | fu + 1, x12, n_heats_13 =>
    gd (ix (p1 + (nI 1)) 13) (
    if (n_starts (p1 + (nI 1)).toNatClampNeg) ≤ x12 then
      k_47 n_heats_13
    else
      bd1 (f_X2_warm Fu n_heats_13 x12 p2) (fun n_heats_16 =>
      f_X3_read_L47 Fu k_47 n_starts p1 p2 fu (x12 + (nI 1)) n_heats_16))
theorem f_X3_read_L47_s (Fu : Nat) (k_47 : Ar → Option (Int32 × Ar × Ar × Ar × Ar × Int32 × Int32 × Int32 × Int32 × (Nat → SV) × Int32 × Int32)) (n_starts : Ar) (p1 : Int32) (p2 : Int32) (fu : Nat) (x12 : Int32) (n_heats_13 : Ar) : f_X3_read_L47 Fu k_47 n_starts p1 p2 (fu + 1) x12 n_heats_13 =
    gd (ix (p1 + (nI 1)) 13) (
    if (n_starts (p1 + (nI 1)).toNatClampNeg) ≤ x12 then
      k_47 n_heats_13
    else
      bd1 (f_X2_warm Fu n_heats_13 x12 p2) (fun n_heats_16 =>
      f_X3_read_L47 Fu k_47 n_starts p1 p2 fu (x12 + (nI 1)) n_heats_16)) := rfl
def f_X3_read (Fu : Nat) (n_settings : Ar) (n_letters : Ar) (n_heats : Ar) (n_starts : Ar) (n_families : Ar) (n_generations : Ar) (n_stories : Int32) (n_nextFamily : Int32) (n_splits : Int32) (n_boilings : Int32) (n_fizzles : Int32) (h_v : (Nat → SV)) (h_oldest : Int32) (h_size : Int32) (p1 : Int32) (p2 : Int32) : Option (Int32 × Ar × Ar × Ar × Ar × Int32 × Int32 × Int32 × Int32 × (Nat → SV) × Int32 × Int32) :=
  bd1 (f_X2_hasStory Fu n_stories p1) (fun r1 =>
  if r1 = 0 then
    some (-1, n_heats, n_starts, n_families, n_generations, n_stories, n_splits, n_boilings, n_fizzles, h_v, h_oldest, h_size)
  else
    bd1 (f_X3_isWithin Fu p2 (nI 1) (nI 50)) (fun r4 =>
    if r4 = 0 then
      some (-2, n_heats, n_starts, n_families, n_generations, n_stories, n_splits, n_boilings, n_fizzles, h_v, h_oldest, h_size)
    else
      bd3 (f_X0_record Fu h_v h_oldest h_size n_settings n_letters n_heats n_starts n_families n_generations n_stories n_nextFamily n_splits n_boilings n_fizzles) (fun h_v_7 h_oldest_8 h_size_9 =>
      gd (ix p1 13) (
      jn (fun (n_heats_18 : Ar) =>
        bd9 (f_X2_react Fu n_settings n_heats_18 n_starts n_families n_generations n_stories n_splits n_boilings n_fizzles) (fun r19 n_heats_20 n_starts_21 n_families_22 n_generations_23 n_stories_24 n_splits_25 n_boilings_26 n_fizzles_27 =>
        some (r19, n_heats_20, n_starts_21, n_families_22, n_generations_23, n_stories_24, n_splits_25, n_boilings_26, n_fizzles_27, h_v_7, h_oldest_8, h_size_9)))
        (fun k_47 => f_X3_read_L47 Fu k_47 n_starts p1 p2 Fu (n_starts (p1).toNatClampNeg) n_heats)))))
def f_X3_fuse (Fu : Nat) (n_settings : Ar) (n_letters : Ar) (n_heats : Ar) (n_starts : Ar) (n_families : Ar) (n_generations : Ar) (n_tally : Ar) (n_stories : Int32) (n_nextFamily : Int32) (n_splits : Int32) (n_boilings : Int32) (n_fizzles : Int32) (t_settings : Ar) (t_letters : Ar) (t_heats : Ar) (t_starts : Ar) (t_families : Ar) (t_generations : Ar) (t_stories : Int32) (t_nextFamily : Int32) (t_splits : Int32) (t_boilings : Int32) (t_fizzles : Int32) (h_v : (Nat → SV)) (h_oldest : Int32) (h_size : Int32) (p1 : Int32) (p2 : Int32) : Option (Int32 × Ar × Ar × Ar × Ar × Ar × Ar × Int32 × Int32 × Int32 × Int32 × Ar × Ar × Ar × Ar × Ar × Ar × Int32 × Int32 × Int32 × Int32 × Int32 × (Nat → SV) × Int32 × Int32) :=
  bd1 (f_X2_hasStory Fu n_stories p1) (fun r1 =>
  if r1 = 0 then
    some (-1, n_letters, n_heats, n_starts, n_families, n_generations, n_tally, n_stories, n_splits, n_boilings, n_fizzles, t_settings, t_letters, t_heats, t_starts, t_families, t_generations, t_stories, t_nextFamily, t_splits, t_boilings, t_fizzles, h_v, h_oldest, h_size)
  else
    bd1 (f_X2_hasStory Fu n_stories p2) (fun r4 =>
    if r4 = 0 then
      some (-1, n_letters, n_heats, n_starts, n_families, n_generations, n_tally, n_stories, n_splits, n_boilings, n_fizzles, t_settings, t_letters, t_heats, t_starts, t_families, t_generations, t_stories, t_nextFamily, t_splits, t_boilings, t_fizzles, h_v, h_oldest, h_size)
    else
      if p1 = p2 then
        some (-2, n_letters, n_heats, n_starts, n_families, n_generations, n_tally, n_stories, n_splits, n_boilings, n_fizzles, t_settings, t_letters, t_heats, t_starts, t_families, t_generations, t_stories, t_nextFamily, t_splits, t_boilings, t_fizzles, h_v, h_oldest, h_size)
      else
        bd2 (f_X2_themeOf Fu n_letters n_starts n_tally p1) (fun r8 n_tally_9 =>
        bd2 (f_X2_themeOf Fu n_letters n_starts n_tally_9 p2) (fun r11 n_tally_12 =>
        if r8 = r11 then
          bd3 (f_X0_record Fu h_v h_oldest h_size n_settings n_letters n_heats n_starts n_families n_generations n_stories n_nextFamily n_splits n_boilings n_fizzles) (fun h_v_15 h_oldest_16 h_size_17 =>
          bd11 (f_X2_copyFrom Fu t_settings t_letters t_heats t_starts t_families t_generations t_stories t_nextFamily t_splits t_boilings t_fizzles n_settings n_letters n_heats n_starts n_families n_generations n_stories n_nextFamily n_splits n_boilings n_fizzles) (fun t_settings_19 t_letters_20 t_heats_21 t_starts_22 t_families_23 t_generations_24 t_stories_25 t_nextFamily_26 t_splits_27 t_boilings_28 t_fizzles_29 =>
          bd6 (f_X2_remove Fu n_letters n_heats n_starts n_families n_generations n_stories p2) (fun n_letters_31 n_heats_32 n_starts_33 n_families_34 n_generations_35 n_stories_36 =>
          nm (if p1 ≤ p2 then p1 else p1 - (nI 1)) (fun v39 =>
          gd (ix (v39 + (nI 1)) 13) (
          nm ((n_starts_33 (v39 + (nI 1)).toNatClampNeg)) (fun v41 =>
          bd3 (f_X2_append Fu n_letters_31 n_heats_32 n_starts_33 n_stories_36 t_letters_20 t_heats_21 t_starts_22 v39 p2) (fun n_letters_42 n_heats_43 n_starts_44 =>
          gd (ix p1 12) (
          gd (ix p2 12) (
          gd (ix v39 12) (
          nm ((upd n_generations_35 (v39).toNatClampNeg ((nI 1) + (jmax (t_generations_24 (p1).toNatClampNeg) (t_generations_24 (p2).toNatClampNeg))))) (fun (n_generations_49 : Ar) =>
          bd1 (f_X2_warm Fu n_heats_43 (v41 - (nI 1)) (n_settings 1)) (fun n_heats_50 =>
          bd1 (f_X2_warm Fu n_heats_50 v41 (n_settings 1)) (fun n_heats_52 =>
          bd9 (f_X2_react Fu n_settings n_heats_52 n_starts_44 n_families_34 n_generations_49 n_stories_36 n_splits n_boilings n_fizzles) (fun r54 n_heats_55 n_starts_56 n_families_57 n_generations_58 n_stories_59 n_splits_60 n_boilings_61 n_fizzles_62 =>
          some (r54, n_letters_42, n_heats_55, n_starts_56, n_families_57, n_generations_58, n_tally_12, n_stories_59, n_splits_60, n_boilings_61, n_fizzles_62, t_settings_19, t_letters_20, t_heats_21, t_starts_22, t_families_23, t_generations_24, t_stories_25, t_nextFamily_26, t_splits_27, t_boilings_28, t_fizzles_29, h_v_15, h_oldest_16, h_size_17)))))))))))))))
        else
          some (-5, n_letters, n_heats, n_starts, n_families, n_generations, n_tally_12, n_stories, n_splits, n_boilings, n_fizzles, t_settings, t_letters, t_heats, t_starts, t_families, t_generations, t_stories, t_nextFamily, t_splits, t_boilings, t_fizzles, h_v, h_oldest, h_size)))))
def f_X3_pass_L38 (Fu : Nat) (k_38 : Ar → Option (Int32 × Ar × (Nat → SV) × Int32 × Int32)) (n_settings : Ar) (n_starts : Ar) (n_stories : Int32) (p1 : Int32) : Nat → Int32 → Ar → Option (Int32 × Ar × (Nat → SV) × Int32 × Int32)
  | 0, _, _ => none
  | fu + 1, x8, n_heats_9 =>
    bd1 (f_X2_words Fu n_starts n_stories) (fun r10 =>
    if r10 ≤ x8 then
      k_38 n_heats_9
    else
      gd (ix x8 150) (
      gd (ix x8 150) (
      nm ((upd n_heats_9 (x8).toNatClampNeg (jmax (nI 0) ((n_heats_9 (x8).toNatClampNeg) - (p1 * (n_settings 2)))))) (fun (n_heats_15 : Ar) =>
      f_X3_pass_L38 Fu k_38 n_settings n_starts n_stories p1 fu (x8 + (nI 1)) n_heats_15))))
theorem f_X3_pass_L38_s (Fu : Nat) (k_38 : Ar → Option (Int32 × Ar × (Nat → SV) × Int32 × Int32)) (n_settings : Ar) (n_starts : Ar) (n_stories : Int32) (p1 : Int32) (fu : Nat) (x8 : Int32) (n_heats_9 : Ar) : f_X3_pass_L38 Fu k_38 n_settings n_starts n_stories p1 (fu + 1) x8 n_heats_9 =
    bd1 (f_X2_words Fu n_starts n_stories) (fun r10 =>
    if r10 ≤ x8 then
      k_38 n_heats_9
    else
      gd (ix x8 150) (
      gd (ix x8 150) (
      nm ((upd n_heats_9 (x8).toNatClampNeg (jmax (nI 0) ((n_heats_9 (x8).toNatClampNeg) - (p1 * (n_settings 2)))))) (fun (n_heats_15 : Ar) =>
      f_X3_pass_L38 Fu k_38 n_settings n_starts n_stories p1 fu (x8 + (nI 1)) n_heats_15)))) := rfl
def f_X3_pass (Fu : Nat) (n_settings : Ar) (n_letters : Ar) (n_heats : Ar) (n_starts : Ar) (n_families : Ar) (n_generations : Ar) (n_stories : Int32) (n_nextFamily : Int32) (n_splits : Int32) (n_boilings : Int32) (n_fizzles : Int32) (h_v : (Nat → SV)) (h_oldest : Int32) (h_size : Int32) (p1 : Int32) : Option (Int32 × Ar × (Nat → SV) × Int32 × Int32) :=
  bd1 (f_X3_isWithin Fu p1 (nI 1) (nI 30)) (fun r1 =>
  if r1 = 0 then
    some (-2, n_heats, h_v, h_oldest, h_size)
  else
    bd3 (f_X0_record Fu h_v h_oldest h_size n_settings n_letters n_heats n_starts n_families n_generations n_stories n_nextFamily n_splits n_boilings n_fizzles) (fun h_v_4 h_oldest_5 h_size_6 =>
    jn (fun (n_heats_16 : Ar) =>
      bd1 (f_X2_heatOfAll Fu n_heats_16 n_starts n_stories) (fun r17 =>
      some (r17, n_heats_16, h_v_4, h_oldest_5, h_size_6)))
      (fun k_38 => f_X3_pass_L38 Fu k_38 n_settings n_starts n_stories p1 Fu (nI 0) n_heats)))
def f_X3_burn (Fu : Nat) (n_settings : Ar) (n_letters : Ar) (n_heats : Ar) (n_starts : Ar) (n_families : Ar) (n_generations : Ar) (n_stories : Int32) (n_nextFamily : Int32) (n_splits : Int32) (n_boilings : Int32) (n_fizzles : Int32) (h_v : (Nat → SV)) (h_oldest : Int32) (h_size : Int32) (p1 : Int32) : Option (Int32 × Ar × Ar × Ar × Ar × Ar × Int32 × (Nat → SV) × Int32 × Int32) :=
  bd1 (f_X2_hasStory Fu n_stories p1) (fun r1 =>
  if r1 = 0 then
    some (-1, n_letters, n_heats, n_starts, n_families, n_generations, n_stories, h_v, h_oldest, h_size)
  else
    bd3 (f_X0_record Fu h_v h_oldest h_size n_settings n_letters n_heats n_starts n_families n_generations n_stories n_nextFamily n_splits n_boilings n_fizzles) (fun h_v_4 h_oldest_5 h_size_6 =>
    bd1 (f_X2_sizeOf Fu n_starts p1) (fun r8 =>
    bd6 (f_X2_remove Fu n_letters n_heats n_starts n_families n_generations n_stories p1) (fun n_letters_10 n_heats_11 n_starts_12 n_families_13 n_generations_14 n_stories_15 =>
    some (r8, n_letters_10, n_heats_11, n_starts_12, n_families_13, n_generations_14, n_stories_15, h_v_4, h_oldest_5, h_size_6)))))
def f_X3_word (Fu : Nat) (n_letters : Ar) (n_heats : Ar) (n_starts : Ar) (n_stories : Int32) (p1 : Int32) (p2 : Int32) (p3 : Int32) : Option Int32 :=
  bd1 (f_X2_hasWord Fu n_starts n_stories p1 p2) (fun r1 =>
  if r1 = 0 then
    some (-1)
  else
    gd (ix p1 13) (
    nm (((n_starts (p1).toNatClampNeg) + p2)) (fun v5 =>
    nm (p3) (fun v6 =>
    if v6 = nI 0 then
      gd (ix v5 150) (
      some (n_letters (v5).toNatClampNeg))
    else
    if v6 = nI 1 then
      gd (ix v5 150) (
      some (n_heats (v5).toNatClampNeg))
    else
    if v6 = nI 2 then
      gd (ix v5 150) (
      bd1 (f_X2_timesIn Fu n_letters n_starts p1 (n_letters (v5).toNatClampNeg)) (fun r10 =>
      some (r10)))
    else
      some (-2)))))
def f_X3_story (Fu : Nat) (n_letters : Ar) (n_heats : Ar) (n_starts : Ar) (n_families : Ar) (n_generations : Ar) (n_tally : Ar) (n_stories : Int32) (p1 : Int32) (p2 : Int32) : Option (Int32 × Ar) :=
  bd1 (f_X2_hasStory Fu n_stories p1) (fun r1 =>
  if r1 = 0 then
    some (-1, n_tally)
  else
    nm (p2) (fun v4 =>
    if v4 = nI 0 then
      bd1 (f_X2_sizeOf Fu n_starts p1) (fun r5 =>
      some (r5, n_tally))
    else
    if v4 = nI 1 then
      bd1 (f_X2_heatOf Fu n_heats n_starts p1) (fun r7 =>
      some (r7, n_tally))
    else
    if v4 = nI 2 then
      bd2 (f_X2_themeOf Fu n_letters n_starts n_tally p1) (fun r9 n_tally_10 =>
      some (r9, n_tally_10))
    else
    if v4 = nI 3 then
      gd (ix p1 12) (
      some (n_families (p1).toNatClampNeg, n_tally))
    else
    if v4 = nI 4 then
      gd (ix p1 12) (
      some (n_generations (p1).toNatClampNeg, n_tally))
    else
    if v4 = nI 5 then
      bd1 (f_X2_hottestOf Fu n_heats n_starts p1) (fun r14 =>
      some (r14, n_tally))
    else
    if v4 = nI 6 then
      bd2 (f_X2_unlikeLettersOf Fu n_letters n_starts n_tally p1) (fun r16 n_tally_17 =>
      some (r16, n_tally_17))
    else
    if v4 = nI 7 then
      bd1 (f_X2_readsFromBothEnds Fu n_letters n_starts p1) (fun r19 =>
      nm (if r19 = 0 then (nI 0) else nI 1) (fun v22 =>
      some (v22, n_tally)))
    else
      some (-2, n_tally)))
def f_X3_count (Fu : Nat) (p_length : Int32) (n_settings : Ar) (n_heats : Ar) (n_starts : Ar) (n_families : Ar) (n_generations : Ar) (n_stories : Int32) (n_splits : Int32) (n_boilings : Int32) (n_fizzles : Int32) (h_size : Int32) (p1 : Int32) : Option Int32 :=
  nm (p1) (fun v1 =>
  if v1 = nI 0 then
    some (n_stories)
  else
  if v1 = nI 1 then
    bd1 (f_X2_words Fu n_starts n_stories) (fun r2 =>
    some (r2))
  else
  if v1 = nI 2 then
    bd1 (f_X2_heatOfAll Fu n_heats n_starts n_stories) (fun r4 =>
    some (r4))
  else
  if v1 = nI 3 then
    bd1 (f_X2_unlikeFamilies Fu n_families n_stories) (fun r6 =>
    some (r6))
  else
  if v1 = nI 4 then
    some (n_splits)
  else
  if v1 = nI 5 then
    some (n_boilings)
  else
  if v1 = nI 6 then
    some (n_fizzles)
  else
  if v1 = nI 7 then
    bd1 (f_X2_greatestGeneration Fu n_generations n_stories) (fun r8 =>
    some (r8))
  else
  if v1 = nI 8 then
    some (n_settings 0)
  else
  if v1 = nI 9 then
    some (n_settings 1)
  else
  if v1 = nI 10 then
    some (n_settings 2)
  else
  if v1 = nI 11 then
    some (p_length)
  else
  if v1 = nI 12 then
    some (h_size)
  else
    some (-2))
def f_X3_isLetter (Fu : Nat) (p0 : Int32) : Option Int32 :=
  bd1 (f_X3_isWithin Fu p0 (nI 0) (nI 25)) (fun r1 =>
  gd (bz r1) (some (r1)))
def f_X3_letter (Fu : Nat) (n_letters : Ar) (n_heats : Ar) (n_starts : Ar) (n_tally : Ar) (n_stories : Int32) (p1 : Int32) (p2 : Int32) : Option (Int32 × Ar) :=
  bd1 (f_X3_isLetter Fu p1) (fun r1 =>
  if r1 = 0 then
    some (-2, n_tally)
  else
    nm (p2) (fun v4 =>
    if v4 = nI 0 then
      bd1 (f_X2_timesInAll Fu n_letters n_starts n_stories p1) (fun r5 =>
      some (r5, n_tally))
    else
    if v4 = nI 1 then
      bd1 (f_X2_storiesWith Fu n_letters n_starts n_stories p1) (fun r7 =>
      some (r7, n_tally))
    else
    if v4 = nI 2 then
      bd2 (f_X2_storiesOfTheme Fu n_letters n_starts n_tally n_stories p1) (fun r9 n_tally_10 =>
      some (r9, n_tally_10))
    else
    if v4 = nI 3 then
      bd1 (f_X2_heatOfLetter Fu n_letters n_heats n_starts n_stories p1) (fun r12 =>
      some (r12, n_tally))
    else
      some (-2, n_tally)))
def f_X3_sideBySide_L36 (Fu : Nat) (k_36 : Int32 → Int32 → Option Int32) (n_letters : Ar) (n_starts : Ar) (n_stories : Int32) (p1 : Int32) (p2 : Int32) : Nat → Int32 → Int32 → Int32 → Option Int32
  | 0, _, _, _ => none
  | fu + 1, x10, x11, x12 =>
    bd1 (f_X2_words Fu n_starts n_stories) (fun r13 =>
    if r13 ≤ (x12 + (nI 1)) then
      k_36 x10 x11
    else
      bd1 (f_X2_isPair Fu n_letters n_starts n_stories x12 p1 p2) (fun r16 =>
      jn (fun (v21 : Int32) (v22 : Int32) =>
        f_X3_sideBySide_L36 Fu k_36 n_letters n_starts n_stories p1 p2 fu v21 v22 (x12 + (nI 1)))
        (fun j23 =>
        if r16 = 0 then
          j23 x10 x11
        else
          nm (if x10 = 0 then x12 else x11) (fun v20 =>
          j23 (x10 + (nI 1)) v20))))
theorem f_X3_sideBySide_L36_s (Fu : Nat) (k_36 : Int32 → Int32 → Option Int32) (n_letters : Ar) (n_starts : Ar) (n_stories : Int32) (p1 : Int32) (p2 : Int32) (fu : Nat) (x10 : Int32) (x11 : Int32) (x12 : Int32) : f_X3_sideBySide_L36 Fu k_36 n_letters n_starts n_stories p1 p2 (fu + 1) x10 x11 x12 =
    bd1 (f_X2_words Fu n_starts n_stories) (fun r13 =>
    if r13 ≤ (x12 + (nI 1)) then
      k_36 x10 x11
    else
      bd1 (f_X2_isPair Fu n_letters n_starts n_stories x12 p1 p2) (fun r16 =>
      jn (fun (v21 : Int32) (v22 : Int32) =>
        f_X3_sideBySide_L36 Fu k_36 n_letters n_starts n_stories p1 p2 fu v21 v22 (x12 + (nI 1)))
        (fun j23 =>
        if r16 = 0 then
          j23 x10 x11
        else
          nm (if x10 = 0 then x12 else x11) (fun v20 =>
          j23 (x10 + (nI 1)) v20)))) := rfl
def f_X3_sideBySide (Fu : Nat) (n_letters : Ar) (n_starts : Ar) (n_stories : Int32) (p1 : Int32) (p2 : Int32) (p3 : Int32) : Option Int32 :=
  bd1 (f_X3_isLetter Fu p1) (fun r1 =>
  if r1 = 0 then
    some (-2)
  else
    bd1 (f_X3_isLetter Fu p2) (fun r4 =>
    if r4 = 0 then
      some (-2)
    else
      bd1 (f_X3_isWithin Fu p3 (nI 0) (nI 2)) (fun r7 =>
      if r7 = 0 then
        some (-2)
      else
        jn (fun (v24 : Int32) (v25 : Int32) =>
          if p3 = 0 then
            some (v24)
          else
            if v24 = 0 then
              some (-6)
            else
              jn (fun (v33 : Int32) =>
                some (v33))
                (fun j34 =>
                if p3 = (nI 1) then
                  bd1 (f_X2_storyAt Fu n_starts n_stories v25) (fun r31 =>
                  j34 r31)
                else
                  bd1 (f_X2_placeOf Fu n_starts n_stories v25) (fun r29 =>
                  j34 r29)))
          (fun k_36 => f_X3_sideBySide_L36 Fu k_36 n_letters n_starts n_stories p1 p2 Fu (nI 0) (-6) (nI 0)))))
def f_X3_common_L88 (Fu : Nat) (k_88 : Int32 → Ar → Option (Int32 × Ar)) (n_letters : Ar) (n_starts : Ar) (p2 : Int32) (x12 : Int32) : Nat → Int32 → Int32 → Ar → Option (Int32 × Ar)
  | 0, _, _, _ => none
  | fu + 1, x16, x17, q_runs_18 =>
    if x17 < 0 then
      k_88 x16 q_runs_18
    else
      gd (ix x12 150) (
      gd (ix ((n_starts (p2).toNatClampNeg) + x17) 150) (
      nm (if (n_letters (x12).toNatClampNeg) = (n_letters ((n_starts (p2).toNatClampNeg) + x17).toNatClampNeg) then (nI 1) else nI 0) (fun v23 =>
      jn (fun (v26 : Int32) =>
        nm (if v23 = 0 then (nI 0) else v26 + (nI 1)) (fun v29 =>
        gd (ix x17 150) (
        gd (ix x17 150) (
        nm ((jmax x16 ((upd q_runs_18 (x17).toNatClampNeg v29) (x17).toNatClampNeg))) (fun v32 =>
        f_X3_common_L88 Fu k_88 n_letters n_starts p2 x12 fu v32 (x17 + (-1)) (upd q_runs_18 (x17).toNatClampNeg v29))))))
        (fun j27 =>
        if x17 ≤ 0 then
          j27 (nI 0)
        else
          gd (ix (x17 - (nI 1)) 150) (
          j27 (q_runs_18 (x17 - (nI 1)).toNatClampNeg))))))
theorem f_X3_common_L88_s (Fu : Nat) (k_88 : Int32 → Ar → Option (Int32 × Ar)) (n_letters : Ar) (n_starts : Ar) (p2 : Int32) (x12 : Int32) (fu : Nat) (x16 : Int32) (x17 : Int32) (q_runs_18 : Ar) : f_X3_common_L88 Fu k_88 n_letters n_starts p2 x12 (fu + 1) x16 x17 q_runs_18 =
    if x17 < 0 then
      k_88 x16 q_runs_18
    else
      gd (ix x12 150) (
      gd (ix ((n_starts (p2).toNatClampNeg) + x17) 150) (
      nm (if (n_letters (x12).toNatClampNeg) = (n_letters ((n_starts (p2).toNatClampNeg) + x17).toNatClampNeg) then (nI 1) else nI 0) (fun v23 =>
      jn (fun (v26 : Int32) =>
        nm (if v23 = 0 then (nI 0) else v26 + (nI 1)) (fun v29 =>
        gd (ix x17 150) (
        gd (ix x17 150) (
        nm ((jmax x16 ((upd q_runs_18 (x17).toNatClampNeg v29) (x17).toNatClampNeg))) (fun v32 =>
        f_X3_common_L88 Fu k_88 n_letters n_starts p2 x12 fu v32 (x17 + (-1)) (upd q_runs_18 (x17).toNatClampNeg v29))))))
        (fun j27 =>
        if x17 ≤ 0 then
          j27 (nI 0)
        else
          gd (ix (x17 - (nI 1)) 150) (
          j27 (q_runs_18 (x17 - (nI 1)).toNatClampNeg)))))) := rfl
def f_X3_common_L66 (Fu : Nat) (k_66 : Int32 → Ar → Option (Int32 × Ar)) (n_letters : Ar) (n_starts : Ar) (p1 : Int32) (p2 : Int32) (r8 : Int32) : Nat → Int32 → Int32 → Ar → Option (Int32 × Ar)
  | 0, _, _, _ => none
  | fu + 1, x11, x12, q_runs_13 =>
    gd (ix (p1 + (nI 1)) 13) (
    if (n_starts (p1 + (nI 1)).toNatClampNeg) ≤ x12 then
      k_66 x11 q_runs_13
    else
      jn (fun (v33 : Int32) (q_runs_34 : Ar) =>
        f_X3_common_L66 Fu k_66 n_letters n_starts p1 p2 r8 fu v33 (x12 + (nI 1)) q_runs_34)
        (fun k_88 => f_X3_common_L88 Fu k_88 n_letters n_starts p2 x12 Fu x11 (r8 - (nI 1)) q_runs_13))
theorem f_X3_common_L66_s (Fu : Nat) (k_66 : Int32 → Ar → Option (Int32 × Ar)) (n_letters : Ar) (n_starts : Ar) (p1 : Int32) (p2 : Int32) (r8 : Int32) (fu : Nat) (x11 : Int32) (x12 : Int32) (q_runs_13 : Ar) : f_X3_common_L66 Fu k_66 n_letters n_starts p1 p2 r8 (fu + 1) x11 x12 q_runs_13 =
    gd (ix (p1 + (nI 1)) 13) (
    if (n_starts (p1 + (nI 1)).toNatClampNeg) ≤ x12 then
      k_66 x11 q_runs_13
    else
      jn (fun (v33 : Int32) (q_runs_34 : Ar) =>
        f_X3_common_L66 Fu k_66 n_letters n_starts p1 p2 r8 fu v33 (x12 + (nI 1)) q_runs_34)
        (fun k_88 => f_X3_common_L88 Fu k_88 n_letters n_starts p2 x12 Fu x11 (r8 - (nI 1)) q_runs_13)) := rfl
def f_X3_common (Fu : Nat) (q_runs : Ar) (n_letters : Ar) (n_starts : Ar) (n_stories : Int32) (p1 : Int32) (p2 : Int32) : Option (Int32 × Ar) :=
  bd1 (f_X2_hasStory Fu n_stories p1) (fun r1 =>
  if r1 = 0 then
    some (-1, q_runs)
  else
    bd1 (f_X2_hasStory Fu n_stories p2) (fun r4 =>
    if r4 = 0 then
      some (-1, q_runs)
    else
      gd (ix p2 13) (
      bd1 (f_X2_sizeOf Fu n_starts p2) (fun r8 =>
      gd (ix p1 13) (
      jn (fun (v35 : Int32) (q_runs_36 : Ar) =>
        some (v35, q_runs_36))
        (fun k_66 => f_X3_common_L66 Fu k_66 n_letters n_starts p1 p2 r8 Fu (nI 0) (n_starts (p1).toNatClampNeg) (fun _ => (nI 0))))))))
def f_X3_tryHeating (Fu : Nat) (n_settings : Ar) (n_letters : Ar) (n_heats : Ar) (n_starts : Ar) (n_families : Ar) (n_generations : Ar) (n_stories : Int32) (n_nextFamily : Int32) (n_splits : Int32) (n_boilings : Int32) (n_fizzles : Int32) (t_settings : Ar) (t_letters : Ar) (t_heats : Ar) (t_starts : Ar) (t_families : Ar) (t_generations : Ar) (t_stories : Int32) (t_nextFamily : Int32) (t_splits : Int32) (t_boilings : Int32) (t_fizzles : Int32) (p1 : Int32) (p2 : Int32) : Option (Int32 × Ar × Ar × Ar × Ar × Ar × Ar × Int32 × Int32 × Int32 × Int32 × Int32) :=
  bd11 (f_X2_copyFrom Fu t_settings t_letters t_heats t_starts t_families t_generations t_stories t_nextFamily t_splits t_boilings t_fizzles n_settings n_letters n_heats n_starts n_families n_generations n_stories n_nextFamily n_splits n_boilings n_fizzles) (fun t_settings_1 t_letters_2 t_heats_3 t_starts_4 t_families_5 t_generations_6 t_stories_7 t_nextFamily_8 t_splits_9 t_boilings_10 t_fizzles_11 =>
  bd1 (f_X2_warm Fu t_heats_3 p1 p2) (fun t_heats_13 =>
  bd9 (f_X2_react Fu t_settings_1 t_heats_13 t_starts_4 t_families_5 t_generations_6 t_stories_7 t_splits_9 t_boilings_10 t_fizzles_11) (fun r15 t_heats_16 t_starts_17 t_families_18 t_generations_19 t_stories_20 t_splits_21 t_boilings_22 t_fizzles_23 =>
  some (r15, t_settings_1, t_letters_2, t_heats_16, t_starts_17, t_families_18, t_generations_19, t_stories_20, t_nextFamily_8, t_splits_21, t_boilings_22, t_fizzles_23))))
def f_X3_ifHeated (Fu : Nat) (n_settings : Ar) (n_letters : Ar) (n_heats : Ar) (n_starts : Ar) (n_families : Ar) (n_generations : Ar) (n_stories : Int32) (n_nextFamily : Int32) (n_splits : Int32) (n_boilings : Int32) (n_fizzles : Int32) (t_settings : Ar) (t_letters : Ar) (t_heats : Ar) (t_starts : Ar) (t_families : Ar) (t_generations : Ar) (t_stories : Int32) (t_nextFamily : Int32) (t_splits : Int32) (t_boilings : Int32) (t_fizzles : Int32) (p1 : Int32) (p2 : Int32) (p3 : Int32) (p4 : Int32) : Option (Int32 × Ar × Ar × Ar × Ar × Ar × Ar × Int32 × Int32 × Int32 × Int32 × Int32) :=
  bd1 (f_X2_hasWord Fu n_starts n_stories p1 p2) (fun r1 =>
  if r1 = 0 then
    some (-1, t_settings, t_letters, t_heats, t_starts, t_families, t_generations, t_stories, t_nextFamily, t_splits, t_boilings, t_fizzles)
  else
    bd1 (f_X3_isWithin Fu p3 (nI 1) (nI 500)) (fun r4 =>
    if r4 = 0 then
      some (-2, t_settings, t_letters, t_heats, t_starts, t_families, t_generations, t_stories, t_nextFamily, t_splits, t_boilings, t_fizzles)
    else
      bd1 (f_X3_isWithin Fu p4 (nI 0) (nI 3)) (fun r7 =>
      if r7 = 0 then
        some (-2, t_settings, t_letters, t_heats, t_starts, t_families, t_generations, t_stories, t_nextFamily, t_splits, t_boilings, t_fizzles)
      else
        gd (ix p1 13) (
        bd12 (f_X3_tryHeating Fu n_settings n_letters n_heats n_starts n_families n_generations n_stories n_nextFamily n_splits n_boilings n_fizzles t_settings t_letters t_heats t_starts t_families t_generations t_stories t_nextFamily t_splits t_boilings t_fizzles ((n_starts (p1).toNatClampNeg) + p2) p3) (fun r11 t_settings_12 t_letters_13 t_heats_14 t_starts_15 t_families_16 t_generations_17 t_stories_18 t_nextFamily_19 t_splits_20 t_boilings_21 t_fizzles_22 =>
        nm (p4) (fun v24 =>
        if v24 = nI 0 then
          some (r11, t_settings_12, t_letters_13, t_heats_14, t_starts_15, t_families_16, t_generations_17, t_stories_18, t_nextFamily_19, t_splits_20, t_boilings_21, t_fizzles_22)
        else
        if v24 = nI 1 then
          some (t_splits_20 - n_splits, t_settings_12, t_letters_13, t_heats_14, t_starts_15, t_families_16, t_generations_17, t_stories_18, t_nextFamily_19, t_splits_20, t_boilings_21, t_fizzles_22)
        else
        if v24 = nI 2 then
          some (t_stories_18, t_settings_12, t_letters_13, t_heats_14, t_starts_15, t_families_16, t_generations_17, t_stories_18, t_nextFamily_19, t_splits_20, t_boilings_21, t_fizzles_22)
        else
          bd1 (f_X2_heatOfAll Fu t_heats_14 t_starts_15 t_stories_18) (fun r25 =>
          some (r25, t_settings_12, t_letters_13, t_heats_14, t_starts_15, t_families_16, t_generations_17, t_stories_18, t_nextFamily_19, t_splits_20, t_boilings_21, t_fizzles_22))))))))
def f_X3_critical_L73 (Fu : Nat) (n_settings : Ar) (n_letters : Ar) (n_heats : Ar) (n_starts : Ar) (n_families : Ar) (n_generations : Ar) (n_stories : Int32) (n_nextFamily : Int32) (n_splits : Int32) (n_boilings : Int32) (n_fizzles : Int32) (v5 : Int32) (v7 : Int32) : Nat → Int32 → Ar → Ar → Ar → Ar → Ar → Ar → Int32 → Int32 → Int32 → Int32 → Int32 → Option (Int32 × Ar × Ar × Ar × Ar × Ar × Ar × Int32 × Int32 × Int32 × Int32 × Int32)
  | 0, _, _, _, _, _, _, _, _, _, _, _, _ => none
  | fu + 1, x12, t_settings_13, t_letters_14, t_heats_15, t_starts_16, t_families_17, t_generations_18, t_stories_19, t_nextFamily_20, t_splits_21, t_boilings_22, t_fizzles_23 =>
    if v7 < x12 then
      some (-6, t_settings_13, t_letters_14, t_heats_15, t_starts_16, t_families_17, t_generations_18, t_stories_19, t_nextFamily_20, t_splits_21, t_boilings_22, t_fizzles_23)
    else
      bd12 (f_X3_tryHeating Fu n_settings n_letters n_heats n_starts n_families n_generations n_stories n_nextFamily n_splits n_boilings n_fizzles t_settings_13 t_letters_14 t_heats_15 t_starts_16 t_families_17 t_generations_18 t_stories_19 t_nextFamily_20 t_splits_21 t_boilings_22 t_fizzles_23 v5 x12) (fun r25 t_settings_26 t_letters_27 t_heats_28 t_starts_29 t_families_30 t_generations_31 t_stories_32 t_nextFamily_33 t_splits_34 t_boilings_35 t_fizzles_36 =>
      if t_splits_34 ≤ n_splits then
        f_X3_critical_L73 Fu n_settings n_letters n_heats n_starts n_families n_generations n_stories n_nextFamily n_splits n_boilings n_fizzles v5 v7 fu (x12 + (nI 1)) t_settings_26 t_letters_27 t_heats_28 t_starts_29 t_families_30 t_generations_31 t_stories_32 t_nextFamily_33 t_splits_34 t_boilings_35 t_fizzles_36
      else
        some (x12, t_settings_26, t_letters_27, t_heats_28, t_starts_29, t_families_30, t_generations_31, t_stories_32, t_nextFamily_33, t_splits_34, t_boilings_35, t_fizzles_36))
theorem f_X3_critical_L73_s (Fu : Nat) (n_settings : Ar) (n_letters : Ar) (n_heats : Ar) (n_starts : Ar) (n_families : Ar) (n_generations : Ar) (n_stories : Int32) (n_nextFamily : Int32) (n_splits : Int32) (n_boilings : Int32) (n_fizzles : Int32) (v5 : Int32) (v7 : Int32) (fu : Nat) (x12 : Int32) (t_settings_13 : Ar) (t_letters_14 : Ar) (t_heats_15 : Ar) (t_starts_16 : Ar) (t_families_17 : Ar) (t_generations_18 : Ar) (t_stories_19 : Int32) (t_nextFamily_20 : Int32) (t_splits_21 : Int32) (t_boilings_22 : Int32) (t_fizzles_23 : Int32) : f_X3_critical_L73 Fu n_settings n_letters n_heats n_starts n_families n_generations n_stories n_nextFamily n_splits n_boilings n_fizzles v5 v7 (fu + 1) x12 t_settings_13 t_letters_14 t_heats_15 t_starts_16 t_families_17 t_generations_18 t_stories_19 t_nextFamily_20 t_splits_21 t_boilings_22 t_fizzles_23 =
    if v7 < x12 then
      some (-6, t_settings_13, t_letters_14, t_heats_15, t_starts_16, t_families_17, t_generations_18, t_stories_19, t_nextFamily_20, t_splits_21, t_boilings_22, t_fizzles_23)
    else
      bd12 (f_X3_tryHeating Fu n_settings n_letters n_heats n_starts n_families n_generations n_stories n_nextFamily n_splits n_boilings n_fizzles t_settings_13 t_letters_14 t_heats_15 t_starts_16 t_families_17 t_generations_18 t_stories_19 t_nextFamily_20 t_splits_21 t_boilings_22 t_fizzles_23 v5 x12) (fun r25 t_settings_26 t_letters_27 t_heats_28 t_starts_29 t_families_30 t_generations_31 t_stories_32 t_nextFamily_33 t_splits_34 t_boilings_35 t_fizzles_36 =>
      if t_splits_34 ≤ n_splits then
        f_X3_critical_L73 Fu n_settings n_letters n_heats n_starts n_families n_generations n_stories n_nextFamily n_splits n_boilings n_fizzles v5 v7 fu (x12 + (nI 1)) t_settings_26 t_letters_27 t_heats_28 t_starts_29 t_families_30 t_generations_31 t_stories_32 t_nextFamily_33 t_splits_34 t_boilings_35 t_fizzles_36
      else
        some (x12, t_settings_26, t_letters_27, t_heats_28, t_starts_29, t_families_30, t_generations_31, t_stories_32, t_nextFamily_33, t_splits_34, t_boilings_35, t_fizzles_36)) := rfl
def f_X3_critical (Fu : Nat) (n_settings : Ar) (n_letters : Ar) (n_heats : Ar) (n_starts : Ar) (n_families : Ar) (n_generations : Ar) (n_stories : Int32) (n_nextFamily : Int32) (n_splits : Int32) (n_boilings : Int32) (n_fizzles : Int32) (t_settings : Ar) (t_letters : Ar) (t_heats : Ar) (t_starts : Ar) (t_families : Ar) (t_generations : Ar) (t_stories : Int32) (t_nextFamily : Int32) (t_splits : Int32) (t_boilings : Int32) (t_fizzles : Int32) (p1 : Int32) (p2 : Int32) : Option (Int32 × Ar × Ar × Ar × Ar × Ar × Ar × Int32 × Int32 × Int32 × Int32 × Int32) :=
  bd1 (f_X2_hasWord Fu n_starts n_stories p1 p2) (fun r1 =>
  if r1 = 0 then
    some (-1, t_settings, t_letters, t_heats, t_starts, t_families, t_generations, t_stories, t_nextFamily, t_splits, t_boilings, t_fizzles)
  else
    gd (ix p1 13) (
    nm (((n_starts (p1).toNatClampNeg) + p2)) (fun v5 =>
    gd (ix v5 150) (
    nm ((jmax (nI 1) ((n_settings 0) - (n_heats (v5).toNatClampNeg)))) (fun v7 =>
    bd1 (f_X2_isCalm Fu n_settings n_heats n_starts n_stories) (fun r8 =>
    nm (if r8 = 0 then (nI 1) else v7) (fun v11 =>
    f_X3_critical_L73 Fu n_settings n_letters n_heats n_starts n_families n_generations n_stories n_nextFamily n_splits n_boilings n_fizzles v5 v7 Fu v11 t_settings t_letters t_heats t_starts t_families t_generations t_stories t_nextFamily t_splits t_boilings t_fizzles)))))))
def f_X3_touchiest_L53 (Fu : Nat) (k_53 : Int32 → Int32 → Ar → Ar → Ar → Ar → Ar → Ar → Int32 → Int32 → Int32 → Int32 → Int32 → Option (Int32 × Ar × Ar × Ar × Ar × Ar × Ar × Int32 × Int32 × Int32 × Int32 × Int32)) (n_settings : Ar) (n_letters : Ar) (n_heats : Ar) (n_starts : Ar) (n_families : Ar) (n_generations : Ar) (n_stories : Int32) (n_nextFamily : Int32) (n_splits : Int32) (n_boilings : Int32) (n_fizzles : Int32) (p1 : Int32) (r8 : Int32) : Nat → Int32 → Int32 → Int32 → Ar → Ar → Ar → Ar → Ar → Ar → Int32 → Int32 → Int32 → Int32 → Int32 → Option (Int32 × Ar × Ar × Ar × Ar × Ar × Ar × Int32 × Int32 × Int32 × Int32 × Int32)
  | 0, _, _, _, _, _, _, _, _, _, _, _, _, _, _ => none
  | fu + 1, x10, x11, x12, t_settings_13, t_letters_14, t_heats_15, t_starts_16, t_families_17, t_generations_18, t_stories_19, t_nextFamily_20, t_splits_21, t_boilings_22, t_fizzles_23 =>
    bd1 (f_X2_words Fu n_starts n_stories) (fun r24 =>
    if r24 ≤ x12 then
      k_53 x10 x11 t_settings_13 t_letters_14 t_heats_15 t_starts_16 t_families_17 t_generations_18 t_stories_19 t_nextFamily_20 t_splits_21 t_boilings_22 t_fizzles_23
    else
      jn (fun (v30 : Int32) =>
        jn (fun (v46 : Int32) (t_settings_47 : Ar) (t_letters_48 : Ar) (t_heats_49 : Ar) (t_starts_50 : Ar) (t_families_51 : Ar) (t_generations_52 : Ar) (t_stories_53 : Int32) (t_nextFamily_54 : Int32) (t_splits_55 : Int32) (t_boilings_56 : Int32) (t_fizzles_57 : Int32) =>
          nm (if v46 ≤ x11 then x10 else x12) (fun v60 =>
          nm (if v46 ≤ x11 then x11 else v46) (fun v61 =>
          f_X3_touchiest_L53 Fu k_53 n_settings n_letters n_heats n_starts n_families n_generations n_stories n_nextFamily n_splits n_boilings n_fizzles p1 r8 fu v60 v61 (x12 + (nI 1)) t_settings_47 t_letters_48 t_heats_49 t_starts_50 t_families_51 t_generations_52 t_stories_53 t_nextFamily_54 t_splits_55 t_boilings_56 t_fizzles_57)))
          (fun j58 =>
          if v30 = 0 then
            bd12 (f_X3_tryHeating Fu n_settings n_letters n_heats n_starts n_families n_generations n_stories n_nextFamily n_splits n_boilings n_fizzles t_settings_13 t_letters_14 t_heats_15 t_starts_16 t_families_17 t_generations_18 t_stories_19 t_nextFamily_20 t_splits_21 t_boilings_22 t_fizzles_23 x12 p1) (fun r33 t_settings_34 t_letters_35 t_heats_36 t_starts_37 t_families_38 t_generations_39 t_stories_40 t_nextFamily_41 t_splits_42 t_boilings_43 t_fizzles_44 =>
            j58 r33 t_settings_34 t_letters_35 t_heats_36 t_starts_37 t_families_38 t_generations_39 t_stories_40 t_nextFamily_41 t_splits_42 t_boilings_43 t_fizzles_44)
          else
            j58 (nI 0) t_settings_13 t_letters_14 t_heats_15 t_starts_16 t_families_17 t_generations_18 t_stories_19 t_nextFamily_20 t_splits_21 t_boilings_22 t_fizzles_23))
        (fun j31 =>
        if r8 = 0 then
          j31 (nI 0)
        else
          gd (ix x12 150) (
          if (n_settings 0) ≤ ((n_heats (x12).toNatClampNeg) + p1) then
            j31 (nI 0)
          else
            j31 (nI 1))))
theorem f_X3_touchiest_L53_s (Fu : Nat) (k_53 : Int32 → Int32 → Ar → Ar → Ar → Ar → Ar → Ar → Int32 → Int32 → Int32 → Int32 → Int32 → Option (Int32 × Ar × Ar × Ar × Ar × Ar × Ar × Int32 × Int32 × Int32 × Int32 × Int32)) (n_settings : Ar) (n_letters : Ar) (n_heats : Ar) (n_starts : Ar) (n_families : Ar) (n_generations : Ar) (n_stories : Int32) (n_nextFamily : Int32) (n_splits : Int32) (n_boilings : Int32) (n_fizzles : Int32) (p1 : Int32) (r8 : Int32) (fu : Nat) (x10 : Int32) (x11 : Int32) (x12 : Int32) (t_settings_13 : Ar) (t_letters_14 : Ar) (t_heats_15 : Ar) (t_starts_16 : Ar) (t_families_17 : Ar) (t_generations_18 : Ar) (t_stories_19 : Int32) (t_nextFamily_20 : Int32) (t_splits_21 : Int32) (t_boilings_22 : Int32) (t_fizzles_23 : Int32) : f_X3_touchiest_L53 Fu k_53 n_settings n_letters n_heats n_starts n_families n_generations n_stories n_nextFamily n_splits n_boilings n_fizzles p1 r8 (fu + 1) x10 x11 x12 t_settings_13 t_letters_14 t_heats_15 t_starts_16 t_families_17 t_generations_18 t_stories_19 t_nextFamily_20 t_splits_21 t_boilings_22 t_fizzles_23 =
    bd1 (f_X2_words Fu n_starts n_stories) (fun r24 =>
    if r24 ≤ x12 then
      k_53 x10 x11 t_settings_13 t_letters_14 t_heats_15 t_starts_16 t_families_17 t_generations_18 t_stories_19 t_nextFamily_20 t_splits_21 t_boilings_22 t_fizzles_23
    else
      jn (fun (v30 : Int32) =>
        jn (fun (v46 : Int32) (t_settings_47 : Ar) (t_letters_48 : Ar) (t_heats_49 : Ar) (t_starts_50 : Ar) (t_families_51 : Ar) (t_generations_52 : Ar) (t_stories_53 : Int32) (t_nextFamily_54 : Int32) (t_splits_55 : Int32) (t_boilings_56 : Int32) (t_fizzles_57 : Int32) =>
          nm (if v46 ≤ x11 then x10 else x12) (fun v60 =>
          nm (if v46 ≤ x11 then x11 else v46) (fun v61 =>
          f_X3_touchiest_L53 Fu k_53 n_settings n_letters n_heats n_starts n_families n_generations n_stories n_nextFamily n_splits n_boilings n_fizzles p1 r8 fu v60 v61 (x12 + (nI 1)) t_settings_47 t_letters_48 t_heats_49 t_starts_50 t_families_51 t_generations_52 t_stories_53 t_nextFamily_54 t_splits_55 t_boilings_56 t_fizzles_57)))
          (fun j58 =>
          if v30 = 0 then
            bd12 (f_X3_tryHeating Fu n_settings n_letters n_heats n_starts n_families n_generations n_stories n_nextFamily n_splits n_boilings n_fizzles t_settings_13 t_letters_14 t_heats_15 t_starts_16 t_families_17 t_generations_18 t_stories_19 t_nextFamily_20 t_splits_21 t_boilings_22 t_fizzles_23 x12 p1) (fun r33 t_settings_34 t_letters_35 t_heats_36 t_starts_37 t_families_38 t_generations_39 t_stories_40 t_nextFamily_41 t_splits_42 t_boilings_43 t_fizzles_44 =>
            j58 r33 t_settings_34 t_letters_35 t_heats_36 t_starts_37 t_families_38 t_generations_39 t_stories_40 t_nextFamily_41 t_splits_42 t_boilings_43 t_fizzles_44)
          else
            j58 (nI 0) t_settings_13 t_letters_14 t_heats_15 t_starts_16 t_families_17 t_generations_18 t_stories_19 t_nextFamily_20 t_splits_21 t_boilings_22 t_fizzles_23))
        (fun j31 =>
        if r8 = 0 then
          j31 (nI 0)
        else
          gd (ix x12 150) (
          if (n_settings 0) ≤ ((n_heats (x12).toNatClampNeg) + p1) then
            j31 (nI 0)
          else
            j31 (nI 1)))) := rfl
def f_X3_touchiest (Fu : Nat) (n_settings : Ar) (n_letters : Ar) (n_heats : Ar) (n_starts : Ar) (n_families : Ar) (n_generations : Ar) (n_stories : Int32) (n_nextFamily : Int32) (n_splits : Int32) (n_boilings : Int32) (n_fizzles : Int32) (t_settings : Ar) (t_letters : Ar) (t_heats : Ar) (t_starts : Ar) (t_families : Ar) (t_generations : Ar) (t_stories : Int32) (t_nextFamily : Int32) (t_splits : Int32) (t_boilings : Int32) (t_fizzles : Int32) (p1 : Int32) (p2 : Int32) : Option (Int32 × Ar × Ar × Ar × Ar × Ar × Ar × Int32 × Int32 × Int32 × Int32 × Int32) :=
  bd1 (f_X3_isWithin Fu p1 (nI 1) (nI 500)) (fun r1 =>
  if r1 = 0 then
    some (-2, t_settings, t_letters, t_heats, t_starts, t_families, t_generations, t_stories, t_nextFamily, t_splits, t_boilings, t_fizzles)
  else
    bd1 (f_X3_isWithin Fu p2 (nI 0) (nI 2)) (fun r4 =>
    if r4 = 0 then
      some (-2, t_settings, t_letters, t_heats, t_starts, t_families, t_generations, t_stories, t_nextFamily, t_splits, t_boilings, t_fizzles)
    else
      if n_stories = 0 then
        some (-6, t_settings, t_letters, t_heats, t_starts, t_families, t_generations, t_stories, t_nextFamily, t_splits, t_boilings, t_fizzles)
      else
        bd1 (f_X2_isCalm Fu n_settings n_heats n_starts n_stories) (fun r8 =>
        jn (fun (v62 : Int32) (v63 : Int32) (t_settings_64 : Ar) (t_letters_65 : Ar) (t_heats_66 : Ar) (t_starts_67 : Ar) (t_families_68 : Ar) (t_generations_69 : Ar) (t_stories_70 : Int32) (t_nextFamily_71 : Int32) (t_splits_72 : Int32) (t_boilings_73 : Int32) (t_fizzles_74 : Int32) =>
          nm (p2) (fun v75 =>
          if v75 = nI 0 then
            bd1 (f_X2_storyAt Fu n_starts n_stories v62) (fun r76 =>
            some (r76, t_settings_64, t_letters_65, t_heats_66, t_starts_67, t_families_68, t_generations_69, t_stories_70, t_nextFamily_71, t_splits_72, t_boilings_73, t_fizzles_74))
          else
          if v75 = nI 1 then
            bd1 (f_X2_placeOf Fu n_starts n_stories v62) (fun r78 =>
            some (r78, t_settings_64, t_letters_65, t_heats_66, t_starts_67, t_families_68, t_generations_69, t_stories_70, t_nextFamily_71, t_splits_72, t_boilings_73, t_fizzles_74))
          else
            some (v63, t_settings_64, t_letters_65, t_heats_66, t_starts_67, t_families_68, t_generations_69, t_stories_70, t_nextFamily_71, t_splits_72, t_boilings_73, t_fizzles_74)))
          (fun k_53 => f_X3_touchiest_L53 Fu k_53 n_settings n_letters n_heats n_starts n_families n_generations n_stories n_nextFamily n_splits n_boilings n_fizzles p1 r8 Fu (nI 0) (-1) (nI 0) t_settings t_letters t_heats t_starts t_families t_generations t_stories t_nextFamily t_splits t_boilings t_fizzles))))
def f_X3_coolestPair_L14 (Fu : Nat) (k_14 : Ar → Ar → Ar → Option (Int32 × Ar × Ar × Ar)) (n_letters : Ar) (n_heats : Ar) (n_starts : Ar) (n_stories : Int32) : Nat → Int32 → Ar → Ar → Ar → Option (Int32 × Ar × Ar × Ar)
  | 0, _, _, _, _ => none
  | fu + 1, x4, q_themes_5, q_storyHeats_6, n_tally_7 =>
    if n_stories ≤ x4 then
      k_14 q_themes_5 q_storyHeats_6 n_tally_7
    else
      bd2 (f_X2_themeOf Fu n_letters n_starts n_tally_7 x4) (fun r9 n_tally_10 =>
      gd (ix x4 12) (
      bd1 (f_X2_heatOf Fu n_heats n_starts x4) (fun r13 =>
      gd (ix x4 12) (
      f_X3_coolestPair_L14 Fu k_14 n_letters n_heats n_starts n_stories fu (x4 + (nI 1)) (upd q_themes_5 (x4).toNatClampNeg r9) (upd q_storyHeats_6 (x4).toNatClampNeg r13) n_tally_10))))
theorem f_X3_coolestPair_L14_s (Fu : Nat) (k_14 : Ar → Ar → Ar → Option (Int32 × Ar × Ar × Ar)) (n_letters : Ar) (n_heats : Ar) (n_starts : Ar) (n_stories : Int32) (fu : Nat) (x4 : Int32) (q_themes_5 : Ar) (q_storyHeats_6 : Ar) (n_tally_7 : Ar) : f_X3_coolestPair_L14 Fu k_14 n_letters n_heats n_starts n_stories (fu + 1) x4 q_themes_5 q_storyHeats_6 n_tally_7 =
    if n_stories ≤ x4 then
      k_14 q_themes_5 q_storyHeats_6 n_tally_7
    else
      bd2 (f_X2_themeOf Fu n_letters n_starts n_tally_7 x4) (fun r9 n_tally_10 =>
      gd (ix x4 12) (
      bd1 (f_X2_heatOf Fu n_heats n_starts x4) (fun r13 =>
      gd (ix x4 12) (
      f_X3_coolestPair_L14 Fu k_14 n_letters n_heats n_starts n_stories fu (x4 + (nI 1)) (upd q_themes_5 (x4).toNatClampNeg r9) (upd q_storyHeats_6 (x4).toNatClampNeg r13) n_tally_10)))) := rfl
def f_X3_coolestPair_L89 (Fu : Nat) (k_89 : Int32 → Int32 → Int32 → Option (Int32 × Ar × Ar × Ar)) (n_stories : Int32) (q_themes_16 : Ar) (q_storyHeats_17 : Ar) (x22 : Int32) : Nat → Int32 → Int32 → Int32 → Int32 → Option (Int32 × Ar × Ar × Ar)
  | 0, _, _, _, _ => none
  | fu + 1, x24, x25, x26, x27 =>
    if n_stories ≤ x27 then
      k_89 x24 x25 x26
    else
      gd (ix x22 12) (
      gd (ix x27 12) (
      nm (((q_storyHeats_17 (x22).toNatClampNeg) + (q_storyHeats_17 (x27).toNatClampNeg))) (fun v31 =>
      gd (ix x22 12) (
      gd (ix x27 12) (
      nm (if (q_themes_16 (x22).toNatClampNeg) = (q_themes_16 (x27).toNatClampNeg) then (if x24 = (-6) then x22 else (if x26 ≤ v31 then x24 else x22)) else x24) (fun v37 =>
      nm (if (q_themes_16 (x22).toNatClampNeg) = (q_themes_16 (x27).toNatClampNeg) then (if x24 = (-6) then x27 else (if x26 ≤ v31 then x25 else x27)) else x25) (fun v38 =>
      nm (if (q_themes_16 (x22).toNatClampNeg) = (q_themes_16 (x27).toNatClampNeg) then (if x24 = (-6) then v31 else (if x26 ≤ v31 then x26 else v31)) else x26) (fun v39 =>
      f_X3_coolestPair_L89 Fu k_89 n_stories q_themes_16 q_storyHeats_17 x22 fu v37 v38 v39 (x27 + (nI 1))))))))))
theorem f_X3_coolestPair_L89_s (Fu : Nat) (k_89 : Int32 → Int32 → Int32 → Option (Int32 × Ar × Ar × Ar)) (n_stories : Int32) (q_themes_16 : Ar) (q_storyHeats_17 : Ar) (x22 : Int32) (fu : Nat) (x24 : Int32) (x25 : Int32) (x26 : Int32) (x27 : Int32) : f_X3_coolestPair_L89 Fu k_89 n_stories q_themes_16 q_storyHeats_17 x22 (fu + 1) x24 x25 x26 x27 =
    if n_stories ≤ x27 then
      k_89 x24 x25 x26
    else
      gd (ix x22 12) (
      gd (ix x27 12) (
      nm (((q_storyHeats_17 (x22).toNatClampNeg) + (q_storyHeats_17 (x27).toNatClampNeg))) (fun v31 =>
      gd (ix x22 12) (
      gd (ix x27 12) (
      nm (if (q_themes_16 (x22).toNatClampNeg) = (q_themes_16 (x27).toNatClampNeg) then (if x24 = (-6) then x22 else (if x26 ≤ v31 then x24 else x22)) else x24) (fun v37 =>
      nm (if (q_themes_16 (x22).toNatClampNeg) = (q_themes_16 (x27).toNatClampNeg) then (if x24 = (-6) then x27 else (if x26 ≤ v31 then x25 else x27)) else x25) (fun v38 =>
      nm (if (q_themes_16 (x22).toNatClampNeg) = (q_themes_16 (x27).toNatClampNeg) then (if x24 = (-6) then v31 else (if x26 ≤ v31 then x26 else v31)) else x26) (fun v39 =>
      f_X3_coolestPair_L89 Fu k_89 n_stories q_themes_16 q_storyHeats_17 x22 fu v37 v38 v39 (x27 + (nI 1)))))))))) := rfl
def f_X3_coolestPair_L71 (Fu : Nat) (k_71 : Int32 → Int32 → Option (Int32 × Ar × Ar × Ar)) (n_stories : Int32) (q_themes_16 : Ar) (q_storyHeats_17 : Ar) : Nat → Int32 → Int32 → Int32 → Int32 → Option (Int32 × Ar × Ar × Ar)
  | 0, _, _, _, _ => none
  | fu + 1, x19, x20, x21, x22 =>
    if n_stories ≤ x22 then
      k_71 x19 x20
    else
      jn (fun (v40 : Int32) (v41 : Int32) (v42 : Int32) =>
        f_X3_coolestPair_L71 Fu k_71 n_stories q_themes_16 q_storyHeats_17 fu v40 v41 v42 (x22 + (nI 1)))
        (fun k_89 => f_X3_coolestPair_L89 Fu k_89 n_stories q_themes_16 q_storyHeats_17 x22 Fu x19 x20 x21 (x22 + (nI 1)))
theorem f_X3_coolestPair_L71_s (Fu : Nat) (k_71 : Int32 → Int32 → Option (Int32 × Ar × Ar × Ar)) (n_stories : Int32) (q_themes_16 : Ar) (q_storyHeats_17 : Ar) (fu : Nat) (x19 : Int32) (x20 : Int32) (x21 : Int32) (x22 : Int32) : f_X3_coolestPair_L71 Fu k_71 n_stories q_themes_16 q_storyHeats_17 (fu + 1) x19 x20 x21 x22 =
    if n_stories ≤ x22 then
      k_71 x19 x20
    else
      jn (fun (v40 : Int32) (v41 : Int32) (v42 : Int32) =>
        f_X3_coolestPair_L71 Fu k_71 n_stories q_themes_16 q_storyHeats_17 fu v40 v41 v42 (x22 + (nI 1)))
        (fun k_89 => f_X3_coolestPair_L89 Fu k_89 n_stories q_themes_16 q_storyHeats_17 x22 Fu x19 x20 x21 (x22 + (nI 1))) := rfl
def f_X3_coolestPair (Fu : Nat) (q_themes : Ar) (q_storyHeats : Ar) (n_letters : Ar) (n_heats : Ar) (n_starts : Ar) (n_tally : Ar) (n_stories : Int32) (p1 : Int32) : Option (Int32 × Ar × Ar × Ar) :=
  bd1 (f_X3_isWithin Fu p1 (nI 0) (nI 1)) (fun r1 =>
  if r1 = 0 then
    some (-2, q_themes, q_storyHeats, n_tally)
  else
    jn (fun (q_themes_16 : Ar) (q_storyHeats_17 : Ar) (n_tally_18 : Ar) =>
      jn (fun (v43 : Int32) (v44 : Int32) =>
        nm (if p1 = 0 then v43 else v44) (fun v46 =>
        some (v46, q_themes_16, q_storyHeats_17, n_tally_18)))
        (fun k_71 => f_X3_coolestPair_L71 Fu k_71 n_stories q_themes_16 q_storyHeats_17 Fu (-6) (-6) (nI 0) (nI 0)))
      (fun k_14 => f_X3_coolestPair_L14 Fu k_14 n_letters n_heats n_starts n_stories Fu (nI 0) q_themes q_storyHeats n_tally))
def f_X3_put (Fu : Nat) (p_characters : Ar) (p_length : Int32) (p1 : Int64) : Option (Int32 × Ar × Int32) :=
  bd1 (f_X1_charactersIn Fu p1) (fun r1 =>
  if r1 = 0 then
    some (-2, p_characters, p_length)
  else
    if (p_length + r1) ≤ (nI 60) then
      bd2 (f_X1_add Fu p_characters p_length p1 r1) (fun p_characters_5 p_length_6 =>
      some (p_length_6, p_characters_5, p_length_6))
    else
      some (-4, p_characters, p_length))
def f_X3_wipe (Fu : Nat) (p_length : Int32) : Option (Int32 × Int32) :=
  some (p_length, nI 0)
def f_X3_fault (Fu : Nat) (p_characters : Ar) (p_length : Int32) : Option Int32 :=
  bd1 (f_X1_firstFault Fu p_characters p_length) (fun r1 =>
  some (r1))
def f_X3_undo (Fu : Nat) (n_settings : Ar) (n_letters : Ar) (n_heats : Ar) (n_starts : Ar) (n_families : Ar) (n_generations : Ar) (n_stories : Int32) (n_nextFamily : Int32) (n_splits : Int32) (n_boilings : Int32) (n_fizzles : Int32) (h_v : (Nat → SV)) (h_oldest : Int32) (h_size : Int32) : Option (Int32 × Ar × Ar × Ar × Ar × Ar × Ar × Int32 × Int32 × Int32 × Int32 × Int32 × Int32) :=
  if h_size = 0 then
    some (-5, n_settings, n_letters, n_heats, n_starts, n_families, n_generations, n_stories, n_nextFamily, n_splits, n_boilings, n_fizzles, h_size)
  else
    bd12 (f_X0_takeBack Fu h_v h_oldest h_size n_settings n_letters n_heats n_starts n_families n_generations n_stories n_nextFamily n_splits n_boilings n_fizzles) (fun h_size_2 n_settings_3 n_letters_4 n_heats_5 n_starts_6 n_families_7 n_generations_8 n_stories_9 n_nextFamily_10 n_splits_11 n_boilings_12 n_fizzles_13 =>
    some (h_size_2, n_settings_3, n_letters_4, n_heats_5, n_starts_6, n_families_7, n_generations_8, n_stories_9, n_nextFamily_10, n_splits_11, n_boilings_12, n_fizzles_13, h_size_2))
def f_X3_save (Fu : Nat) (q_saved : Ar) (n_settings : Ar) (n_letters : Ar) (n_heats : Ar) (n_starts : Ar) (n_families : Ar) (n_generations : Ar) (n_stories : Int32) (n_nextFamily : Int32) (n_splits : Int32) (n_boilings : Int32) (n_fizzles : Int32) (s_v : (Nat → SV)) (p1 : Int32) : Option (Int32 × Ar × (Nat → SV)) :=
  bd1 (f_X3_isWithin Fu p1 (nI 0) (nI 1)) (fun r1 =>
  if r1 = 0 then
    some (-2, q_saved, s_v)
  else
    gd (ix p1 2) (
    nm ((p1).toNatClampNeg) (fun i5 =>
    bd11 (f_X2_copyFrom Fu (sv_settings (s_v i5)) (sv_letters (s_v i5)) (sv_heats (s_v i5)) (sv_starts (s_v i5)) (sv_families (s_v i5)) (sv_generations (s_v i5)) (sv_stories (s_v i5)) (sv_nextFamily (s_v i5)) (sv_splits (s_v i5)) (sv_boilings (s_v i5)) (sv_fizzles (s_v i5)) n_settings n_letters n_heats n_starts n_families n_generations n_stories n_nextFamily n_splits n_boilings n_fizzles) (fun z_settings_6 z_letters_7 z_heats_8 z_starts_9 z_families_10 z_generations_11 z_stories_12 z_nextFamily_13 z_splits_14 z_boilings_15 z_fizzles_16 =>
    nm ((va_up s_v i5 (mkSV z_settings_6 z_letters_7 z_heats_8 z_starts_9 z_families_10 z_generations_11 (sv_tally (s_v i5)) z_stories_12 z_nextFamily_13 z_splits_14 z_boilings_15 z_fizzles_16))) (fun (s_v_18 : (Nat → SV)) =>
    gd (ix p1 2) (
    some (n_stories, upd q_saved (p1).toNatClampNeg (nI 1), s_v_18)))))))
def f_X3_restore (Fu : Nat) (q_saved : Ar) (n_settings : Ar) (n_letters : Ar) (n_heats : Ar) (n_starts : Ar) (n_families : Ar) (n_generations : Ar) (n_stories : Int32) (n_nextFamily : Int32) (n_splits : Int32) (n_boilings : Int32) (n_fizzles : Int32) (h_v : (Nat → SV)) (h_oldest : Int32) (h_size : Int32) (s_v : (Nat → SV)) (p1 : Int32) : Option (Int32 × Ar × Ar × Ar × Ar × Ar × Ar × Int32 × Int32 × Int32 × Int32 × Int32 × (Nat → SV) × Int32 × Int32) :=
  bd1 (f_X3_isWithin Fu p1 (nI 0) (nI 1)) (fun r1 =>
  if r1 = 0 then
    some (-2, n_settings, n_letters, n_heats, n_starts, n_families, n_generations, n_stories, n_nextFamily, n_splits, n_boilings, n_fizzles, h_v, h_oldest, h_size)
  else
    gd (ix p1 2) (
    if (q_saved (p1).toNatClampNeg) = 0 then
      some (-5, n_settings, n_letters, n_heats, n_starts, n_families, n_generations, n_stories, n_nextFamily, n_splits, n_boilings, n_fizzles, h_v, h_oldest, h_size)
    else
      bd3 (f_X0_record Fu h_v h_oldest h_size n_settings n_letters n_heats n_starts n_families n_generations n_stories n_nextFamily n_splits n_boilings n_fizzles) (fun h_v_6 h_oldest_7 h_size_8 =>
      gd (ix p1 2) (
      nm ((p1).toNatClampNeg) (fun i11 =>
      bd11 (f_X2_copyFrom Fu n_settings n_letters n_heats n_starts n_families n_generations n_stories n_nextFamily n_splits n_boilings n_fizzles (sv_settings (s_v i11)) (sv_letters (s_v i11)) (sv_heats (s_v i11)) (sv_starts (s_v i11)) (sv_families (s_v i11)) (sv_generations (s_v i11)) (sv_stories (s_v i11)) (sv_nextFamily (s_v i11)) (sv_splits (s_v i11)) (sv_boilings (s_v i11)) (sv_fizzles (s_v i11))) (fun n_settings_12 n_letters_13 n_heats_14 n_starts_15 n_families_16 n_generations_17 n_stories_18 n_nextFamily_19 n_splits_20 n_boilings_21 n_fizzles_22 =>
      some (n_stories_18, n_settings_12, n_letters_13, n_heats_14, n_starts_15, n_families_16, n_generations_17, n_stories_18, n_nextFamily_19, n_splits_20, n_boilings_21, n_fizzles_22, h_v_6, h_oldest_7, h_size_8)))))))
def f_X4_in (Fu : Nat) (p0 : Int32) (p1 : Int32) (p2 : Int32) : Option Int32 :=
  nm (if p0 < p1 then (nI 0) else (if p2 < p0 then (nI 0) else nI 1)) (fun v3 =>
  gd (bz v3) (some (v3)))
def f_X4_isStory (Fu : Nat) (q_s : Ar) (p1 : Int32) : Option Int32 :=
  bd1 (f_X4_in Fu p1 (nI 0) ((q_s 3) - (nI 1))) (fun r1 =>
  gd (bz r1) (some (r1)))
def f_X4_isWord (Fu : Nat) (q_s : Ar) (p1 : Int32) (p2 : Int32) : Option Int32 :=
  bd1 (f_X4_isStory Fu q_s p1) (fun r1 =>
  jn (fun (v8 : Int32) =>
    gd (bz v8) (some (v8)))
    (fun j9 =>
    if r1 = 0 then
      j9 (nI 0)
    else
      gd (ix ((nI 9) + p1) 345) (
      bd1 (f_X4_in Fu p2 (nI 0) ((q_s ((nI 9) + p1).toNatClampNeg) - (nI 1))) (fun r5 =>
      if r5 = 0 then
        j9 (nI 0)
      else
        j9 (nI 1)))))
def f_X4_first_L4 (Fu : Nat) (k_4 : Int32 → Option Int32) (q_s : Ar) (p1 : Int32) : Nat → Int32 → Int32 → Option Int32
  | 0, _, _ => none
  | fu + 1, x1, x2 =>
    if p1 ≤ x2 then
      k_4 x1
    else
      gd (ix ((nI 9) + x2) 345) (
      nm ((x1 + (q_s ((nI 9) + x2).toNatClampNeg))) (fun v5 =>
      f_X4_first_L4 Fu k_4 q_s p1 fu v5 (x2 + (nI 1))))
theorem f_X4_first_L4_s (Fu : Nat) (k_4 : Int32 → Option Int32) (q_s : Ar) (p1 : Int32) (fu : Nat) (x1 : Int32) (x2 : Int32) : f_X4_first_L4 Fu k_4 q_s p1 (fu + 1) x1 x2 =
    if p1 ≤ x2 then
      k_4 x1
    else
      gd (ix ((nI 9) + x2) 345) (
      nm ((x1 + (q_s ((nI 9) + x2).toNatClampNeg))) (fun v5 =>
      f_X4_first_L4 Fu k_4 q_s p1 fu v5 (x2 + (nI 1)))) := rfl
def f_X4_first (Fu : Nat) (q_s : Ar) (p1 : Int32) : Option Int32 :=
  jn (fun (v6 : Int32) =>
    some (v6))
    (fun k_4 => f_X4_first_L4 Fu k_4 q_s p1 Fu (nI 0) (nI 0))
def f_X4_know_L52 (Fu : Nat) (k_52 : Ar → Option (Ar × Int32)) (q_s : Ar) (q_known_10 : Int32) : Nat → Int32 → Ar → Option (Ar × Int32)
  | 0, _, _ => none
  | fu + 1, x12, q_before_13 =>
    if (nI 345) ≤ x12 then
      k_52 q_before_13
    else
      gd (ix x12 345) (
      gd (ix (((nI 345) * q_known_10) + x12) 2070) (
      nm ((upd q_before_13 (((nI 345) * q_known_10) + x12).toNatClampNeg (q_s (x12).toNatClampNeg))) (fun (q_before_17 : Ar) =>
      f_X4_know_L52 Fu k_52 q_s q_known_10 fu (x12 + (nI 1)) q_before_17)))
theorem f_X4_know_L52_s (Fu : Nat) (k_52 : Ar → Option (Ar × Int32)) (q_s : Ar) (q_known_10 : Int32) (fu : Nat) (x12 : Int32) (q_before_13 : Ar) : f_X4_know_L52 Fu k_52 q_s q_known_10 (fu + 1) x12 q_before_13 =
    if (nI 345) ≤ x12 then
      k_52 q_before_13
    else
      gd (ix x12 345) (
      gd (ix (((nI 345) * q_known_10) + x12) 2070) (
      nm ((upd q_before_13 (((nI 345) * q_known_10) + x12).toNatClampNeg (q_s (x12).toNatClampNeg))) (fun (q_before_17 : Ar) =>
      f_X4_know_L52 Fu k_52 q_s q_known_10 fu (x12 + (nI 1)) q_before_17))) := rfl
def f_X4_know_L11 (Fu : Nat) (k_11 : Ar → Option (Ar × Int32)) : Nat → Int32 → Ar → Option (Ar × Int32)
  | 0, _, _ => none
  | fu + 1, x2, q_before_3 =>
    if (nI 1725) ≤ x2 then
      k_11 q_before_3
    else
      gd (ix ((nI 345) + x2) 2070) (
      gd (ix x2 2070) (
      nm ((upd q_before_3 (x2).toNatClampNeg (q_before_3 ((nI 345) + x2).toNatClampNeg))) (fun (q_before_7 : Ar) =>
      f_X4_know_L11 Fu k_11 fu (x2 + (nI 1)) q_before_7)))
theorem f_X4_know_L11_s (Fu : Nat) (k_11 : Ar → Option (Ar × Int32)) (fu : Nat) (x2 : Int32) (q_before_3 : Ar) : f_X4_know_L11 Fu k_11 (fu + 1) x2 q_before_3 =
    if (nI 1725) ≤ x2 then
      k_11 q_before_3
    else
      gd (ix ((nI 345) + x2) 2070) (
      gd (ix x2 2070) (
      nm ((upd q_before_3 (x2).toNatClampNeg (q_before_3 ((nI 345) + x2).toNatClampNeg))) (fun (q_before_7 : Ar) =>
      f_X4_know_L11 Fu k_11 fu (x2 + (nI 1)) q_before_7))) := rfl
def f_X4_know (Fu : Nat) (q_s : Ar) (q_before : Ar) (q_known : Int32) : Option (Ar × Int32) :=
  jn (fun (q_before_9 : Ar) (q_known_10 : Int32) =>
    jn (fun (q_before_18 : Ar) =>
      some (q_before_18, q_known_10 + (nI 1)))
      (fun k_52 => f_X4_know_L52 Fu k_52 q_s q_known_10 Fu (nI 0) q_before_9))
    (fun j11 =>
    if q_known = (nI 6) then
      jn (fun (q_before_8 : Ar) =>
        j11 q_before_8 (q_known - (nI 1)))
        (fun k_11 => f_X4_know_L11 Fu k_11 Fu (nI 0) q_before)
    else
      j11 q_before q_known)
def f_X4_putAside_L2 (Fu : Nat) (k_2 : Ar → Option Ar) (q_s : Ar) : Nat → Int32 → Ar → Option Ar
  | 0, _, _ => none
  | fu + 1, x1, q_aside_2 =>
    if (nI 345) ≤ x1 then
      k_2 q_aside_2
    else
      gd (ix x1 345) (
      gd (ix x1 345) (
      f_X4_putAside_L2 Fu k_2 q_s fu (x1 + (nI 1)) (upd q_aside_2 (x1).toNatClampNeg (q_s (x1).toNatClampNeg))))
theorem f_X4_putAside_L2_s (Fu : Nat) (k_2 : Ar → Option Ar) (q_s : Ar) (fu : Nat) (x1 : Int32) (q_aside_2 : Ar) : f_X4_putAside_L2 Fu k_2 q_s (fu + 1) x1 q_aside_2 =
    if (nI 345) ≤ x1 then
      k_2 q_aside_2
    else
      gd (ix x1 345) (
      gd (ix x1 345) (
      f_X4_putAside_L2 Fu k_2 q_s fu (x1 + (nI 1)) (upd q_aside_2 (x1).toNatClampNeg (q_s (x1).toNatClampNeg)))) := rfl
def f_X4_putAside (Fu : Nat) (q_s : Ar) (q_aside : Ar) : Option Ar :=
  jn (fun (q_aside_6 : Ar) =>
    some (q_aside_6))
    (fun k_2 => f_X4_putAside_L2 Fu k_2 q_s Fu (nI 0) q_aside)
def f_X4_putBack_L2 (Fu : Nat) (k_2 : Ar → Option Ar) (q_aside : Ar) : Nat → Int32 → Ar → Option Ar
  | 0, _, _ => none
  | fu + 1, x1, q_s_2 =>
    if (nI 345) ≤ x1 then
      k_2 q_s_2
    else
      gd (ix x1 345) (
      gd (ix x1 345) (
      f_X4_putBack_L2 Fu k_2 q_aside fu (x1 + (nI 1)) (upd q_s_2 (x1).toNatClampNeg (q_aside (x1).toNatClampNeg))))
theorem f_X4_putBack_L2_s (Fu : Nat) (k_2 : Ar → Option Ar) (q_aside : Ar) (fu : Nat) (x1 : Int32) (q_s_2 : Ar) : f_X4_putBack_L2 Fu k_2 q_aside (fu + 1) x1 q_s_2 =
    if (nI 345) ≤ x1 then
      k_2 q_s_2
    else
      gd (ix x1 345) (
      gd (ix x1 345) (
      f_X4_putBack_L2 Fu k_2 q_aside fu (x1 + (nI 1)) (upd q_s_2 (x1).toNatClampNeg (q_aside (x1).toNatClampNeg)))) := rfl
def f_X4_putBack (Fu : Nat) (q_s : Ar) (q_aside : Ar) : Option Ar :=
  jn (fun (q_s_6 : Ar) =>
    some (q_s_6))
    (fun k_2 => f_X4_putBack_L2 Fu k_2 q_aside Fu (nI 0) q_s)
def f_X4_warm (Fu : Nat) (q_s : Ar) (p1 : Int32) (p2 : Int32) : Option Ar :=
  gd (ix ((nI 195) + p1) 345) (
  nm (((q_s ((nI 195) + p1).toNatClampNeg) + p2)) (fun v2 =>
  nm (if v2 ≤ (nI 999) then v2 else nI 999) (fun v4 =>
  gd (ix ((nI 195) + p1) 345) (
  some (upd q_s ((nI 195) + p1).toNatClampNeg v4)))))
def f_X4_storyOf_L4 (Fu : Nat) (k_4 : Int32 → Option Int32) (q_s : Ar) : Nat → Int32 → Int32 → Option Int32
  | 0, _, _ => none
  | fu + 1, x1, x2 =>
    gd (ix ((nI 9) + x1) 345) (
    if x2 < (q_s ((nI 9) + x1).toNatClampNeg) then
      k_4 x1
    else
      gd (ix ((nI 9) + x1) 345) (
      nm ((x2 - (q_s ((nI 9) + x1).toNatClampNeg))) (fun v6 =>
      f_X4_storyOf_L4 Fu k_4 q_s fu (x1 + (nI 1)) v6)))
theorem f_X4_storyOf_L4_s (Fu : Nat) (k_4 : Int32 → Option Int32) (q_s : Ar) (fu : Nat) (x1 : Int32) (x2 : Int32) : f_X4_storyOf_L4 Fu k_4 q_s (fu + 1) x1 x2 =
    gd (ix ((nI 9) + x1) 345) (
    if x2 < (q_s ((nI 9) + x1).toNatClampNeg) then
      k_4 x1
    else
      gd (ix ((nI 9) + x1) 345) (
      nm ((x2 - (q_s ((nI 9) + x1).toNatClampNeg))) (fun v6 =>
      f_X4_storyOf_L4 Fu k_4 q_s fu (x1 + (nI 1)) v6))) := rfl
def f_X4_storyOf (Fu : Nat) (q_s : Ar) (p1 : Int32) : Option Int32 :=
  jn (fun (v7 : Int32) =>
    some (v7))
    (fun k_4 => f_X4_storyOf_L4 Fu k_4 q_s Fu (nI 0) p1)
def f_X4_split_L7 (Fu : Nat) (k_7 : Ar → Option Ar) (p1 : Int32) : Nat → Int32 → Ar → Option Ar
  | 0, _, _ => none
  | fu + 1, x1, q_s_2 =>
    if x1 ≤ (p1 + (nI 1)) then
      k_7 q_s_2
    else
      gd (ix (((nI 9) + x1) - (nI 1)) 345) (
      gd (ix ((nI 9) + x1) 345) (
      nm ((upd q_s_2 ((nI 9) + x1).toNatClampNeg (q_s_2 (((nI 9) + x1) - (nI 1)).toNatClampNeg))) (fun (q_s_6 : Ar) =>
      gd (ix (((nI 21) + x1) - (nI 1)) 345) (
      gd (ix ((nI 21) + x1) 345) (
      nm ((upd q_s_6 ((nI 21) + x1).toNatClampNeg (q_s_6 (((nI 21) + x1) - (nI 1)).toNatClampNeg))) (fun (q_s_9 : Ar) =>
      gd (ix (((nI 33) + x1) - (nI 1)) 345) (
      gd (ix ((nI 33) + x1) 345) (
      nm ((upd q_s_9 ((nI 33) + x1).toNatClampNeg (q_s_9 (((nI 33) + x1) - (nI 1)).toNatClampNeg))) (fun (q_s_12 : Ar) =>
      f_X4_split_L7 Fu k_7 p1 fu (x1 + (-1)) q_s_12)))))))))
theorem f_X4_split_L7_s (Fu : Nat) (k_7 : Ar → Option Ar) (p1 : Int32) (fu : Nat) (x1 : Int32) (q_s_2 : Ar) : f_X4_split_L7 Fu k_7 p1 (fu + 1) x1 q_s_2 =
    if x1 ≤ (p1 + (nI 1)) then
      k_7 q_s_2
    else
      gd (ix (((nI 9) + x1) - (nI 1)) 345) (
      gd (ix ((nI 9) + x1) 345) (
      nm ((upd q_s_2 ((nI 9) + x1).toNatClampNeg (q_s_2 (((nI 9) + x1) - (nI 1)).toNatClampNeg))) (fun (q_s_6 : Ar) =>
      gd (ix (((nI 21) + x1) - (nI 1)) 345) (
      gd (ix ((nI 21) + x1) 345) (
      nm ((upd q_s_6 ((nI 21) + x1).toNatClampNeg (q_s_6 (((nI 21) + x1) - (nI 1)).toNatClampNeg))) (fun (q_s_9 : Ar) =>
      gd (ix (((nI 33) + x1) - (nI 1)) 345) (
      gd (ix ((nI 33) + x1) 345) (
      nm ((upd q_s_9 ((nI 33) + x1).toNatClampNeg (q_s_9 (((nI 33) + x1) - (nI 1)).toNatClampNeg))) (fun (q_s_12 : Ar) =>
      f_X4_split_L7 Fu k_7 p1 fu (x1 + (-1)) q_s_12))))))))) := rfl
def f_X4_split (Fu : Nat) (q_s : Ar) (p1 : Int32) (p2 : Int32) : Option Ar :=
  jn (fun (q_s_13 : Ar) =>
    gd (ix ((nI 9) + p1) 345) (
    gd (ix (((nI 9) + p1) + (nI 1)) 345) (
    nm ((upd q_s_13 (((nI 9) + p1) + (nI 1)).toNatClampNeg ((q_s_13 ((nI 9) + p1).toNatClampNeg) - p2))) (fun (q_s_16 : Ar) =>
    gd (ix ((nI 9) + p1) 345) (
    gd (ix ((nI 21) + p1) 345) (
    gd (ix (((nI 21) + p1) + (nI 1)) 345) (
    nm ((upd (upd q_s_16 ((nI 9) + p1).toNatClampNeg p2) (((nI 21) + p1) + (nI 1)).toNatClampNeg ((upd q_s_16 ((nI 9) + p1).toNatClampNeg p2) ((nI 21) + p1).toNatClampNeg))) (fun (q_s_20 : Ar) =>
    gd (ix ((nI 33) + p1) 345) (
    gd (ix (((nI 33) + p1) + (nI 1)) 345) (
    nm ((upd q_s_20 (((nI 33) + p1) + (nI 1)).toNatClampNeg ((q_s_20 ((nI 33) + p1).toNatClampNeg) + (nI 1)))) (fun (q_s_23 : Ar) =>
    some (upd q_s_23 3 ((q_s_23 3) + (nI 1))))))))))))))
    (fun k_7 => f_X4_split_L7 Fu k_7 p1 Fu (q_s 3) q_s)
def f_X4_reactOne (Fu : Nat) (q_s : Ar) (p1 : Int32) : Option Ar :=
  bd1 (f_X4_storyOf Fu q_s p1) (fun r1 =>
  bd1 (f_X4_first Fu q_s r1) (fun r3 =>
  gd (ix ((nI 9) + r1) 345) (
  nm (if (p1 - r3) = ((q_s ((nI 9) + r1).toNatClampNeg) - (nI 1)) then (nI 1) else nI 0) (fun v7 =>
  gd (ix ((nI 195) + p1) 345) (
  jn (fun (q_s_16 : Ar) =>
    jn (fun (q_s_21 : Ar) =>
      jn (fun (q_s_26 : Ar) =>
        some (q_s_26))
        (fun j27 =>
        if v7 = 0 then
          bd1 (f_X4_warm Fu q_s_21 (p1 + (nI 1)) (q_s_21 1)) (fun q_s_24 =>
          j27 q_s_24)
        else
          j27 q_s_21))
      (fun j22 =>
      if (p1 - r3) ≤ 0 then
        j22 q_s_16
      else
        bd1 (f_X4_warm Fu q_s_16 (p1 - (nI 1)) (q_s_16 1)) (fun q_s_19 =>
        j22 q_s_19)))
    (fun j17 =>
    if (p1 - r3) = 0 then
      nm ((upd (upd q_s ((nI 195) + p1).toNatClampNeg (nI 0)) 7 (((upd q_s ((nI 195) + p1).toNatClampNeg (nI 0)) 7) + (nI 1)))) (fun (q_s_15 : Ar) =>
      j17 q_s_15)
    else
      if (nI 12) ≤ ((upd q_s ((nI 195) + p1).toNatClampNeg (nI 0)) 3) then
        nm ((upd (upd q_s ((nI 195) + p1).toNatClampNeg (nI 0)) 8 (((upd q_s ((nI 195) + p1).toNatClampNeg (nI 0)) 8) + (nI 1)))) (fun (q_s_11 : Ar) =>
        j17 q_s_11)
      else
        nm ((upd (upd q_s ((nI 195) + p1).toNatClampNeg (nI 0)) 6 (((upd q_s ((nI 195) + p1).toNatClampNeg (nI 0)) 6) + (nI 1)))) (fun (q_s_12 : Ar) =>
        bd1 (f_X4_split Fu q_s_12 r1 (p1 - r3)) (fun q_s_13 =>
        j17 q_s_13))))))))
def f_X4_react_L4 (Fu : Nat) (k_4 : Int32 → Ar → Option (Int32 × Ar)) : Nat → Int32 → Int32 → Ar → Option (Int32 × Ar)
  | 0, _, _, _ => none
  | fu + 1, x1, x2, q_s_3 =>
    if (q_s_3 4) ≤ x2 then
      k_4 x1 q_s_3
    else
      gd (ix ((nI 195) + x2) 345) (
      if (q_s_3 ((nI 195) + x2).toNatClampNeg) < (q_s_3 0) then
        f_X4_react_L4 Fu k_4 fu x1 (x2 + (nI 1)) q_s_3
      else
        bd1 (f_X4_reactOne Fu q_s_3 x2) (fun q_s_7 =>
        f_X4_react_L4 Fu k_4 fu (x1 + (nI 1)) (nI 0) q_s_7))
theorem f_X4_react_L4_s (Fu : Nat) (k_4 : Int32 → Ar → Option (Int32 × Ar)) (fu : Nat) (x1 : Int32) (x2 : Int32) (q_s_3 : Ar) : f_X4_react_L4 Fu k_4 (fu + 1) x1 x2 q_s_3 =
    if (q_s_3 4) ≤ x2 then
      k_4 x1 q_s_3
    else
      gd (ix ((nI 195) + x2) 345) (
      if (q_s_3 ((nI 195) + x2).toNatClampNeg) < (q_s_3 0) then
        f_X4_react_L4 Fu k_4 fu x1 (x2 + (nI 1)) q_s_3
      else
        bd1 (f_X4_reactOne Fu q_s_3 x2) (fun q_s_7 =>
        f_X4_react_L4 Fu k_4 fu (x1 + (nI 1)) (nI 0) q_s_7)) := rfl
def f_X4_react (Fu : Nat) (q_s : Ar) : Option (Int32 × Ar) :=
  jn (fun (v9 : Int32) (q_s_10 : Ar) =>
    some (v9, q_s_10))
    (fun k_4 => f_X4_react_L4 Fu k_4 Fu (nI 0) (nI 0) q_s)
def f_X4_removeStory_L12 (Fu : Nat) (k_12 : Ar → Option Ar) : Nat → Int32 → Ar → Option Ar
  | 0, _, _ => none
  | fu + 1, x1, q_s_2 =>
    if (q_s_2 3) ≤ x1 then
      k_12 q_s_2
    else
      gd (ix (((nI 9) + x1) + (nI 1)) 345) (
      gd (ix ((nI 9) + x1) 345) (
      nm ((upd q_s_2 ((nI 9) + x1).toNatClampNeg (q_s_2 (((nI 9) + x1) + (nI 1)).toNatClampNeg))) (fun (q_s_6 : Ar) =>
      gd (ix (((nI 21) + x1) + (nI 1)) 345) (
      gd (ix ((nI 21) + x1) 345) (
      nm ((upd q_s_6 ((nI 21) + x1).toNatClampNeg (q_s_6 (((nI 21) + x1) + (nI 1)).toNatClampNeg))) (fun (q_s_9 : Ar) =>
      gd (ix (((nI 33) + x1) + (nI 1)) 345) (
      gd (ix ((nI 33) + x1) 345) (
      nm ((upd q_s_9 ((nI 33) + x1).toNatClampNeg (q_s_9 (((nI 33) + x1) + (nI 1)).toNatClampNeg))) (fun (q_s_12 : Ar) =>
      f_X4_removeStory_L12 Fu k_12 fu (x1 + (nI 1)) q_s_12)))))))))
theorem f_X4_removeStory_L12_s (Fu : Nat) (k_12 : Ar → Option Ar) (fu : Nat) (x1 : Int32) (q_s_2 : Ar) : f_X4_removeStory_L12 Fu k_12 (fu + 1) x1 q_s_2 =
    if (q_s_2 3) ≤ x1 then
      k_12 q_s_2
    else
      gd (ix (((nI 9) + x1) + (nI 1)) 345) (
      gd (ix ((nI 9) + x1) 345) (
      nm ((upd q_s_2 ((nI 9) + x1).toNatClampNeg (q_s_2 (((nI 9) + x1) + (nI 1)).toNatClampNeg))) (fun (q_s_6 : Ar) =>
      gd (ix (((nI 21) + x1) + (nI 1)) 345) (
      gd (ix ((nI 21) + x1) 345) (
      nm ((upd q_s_6 ((nI 21) + x1).toNatClampNeg (q_s_6 (((nI 21) + x1) + (nI 1)).toNatClampNeg))) (fun (q_s_9 : Ar) =>
      gd (ix (((nI 33) + x1) + (nI 1)) 345) (
      gd (ix ((nI 33) + x1) 345) (
      nm ((upd q_s_9 ((nI 33) + x1).toNatClampNeg (q_s_9 (((nI 33) + x1) + (nI 1)).toNatClampNeg))) (fun (q_s_12 : Ar) =>
      f_X4_removeStory_L12 Fu k_12 fu (x1 + (nI 1)) q_s_12))))))))) := rfl
def f_X4_removeStory (Fu : Nat) (q_s : Ar) (p1 : Int32) : Option Ar :=
  jn (fun (q_s_13 : Ar) =>
    some (q_s_13))
    (fun k_12 => f_X4_removeStory_L12 Fu k_12 Fu p1 (upd q_s 3 ((q_s 3) - (nI 1))))
def f_X4_removeWords_L12 (Fu : Nat) (k_12 : Ar → Option Ar) (p2 : Int32) : Nat → Int32 → Ar → Option Ar
  | 0, _, _ => none
  | fu + 1, x1, q_s_2 =>
    if (q_s_2 4) ≤ x1 then
      k_12 q_s_2
    else
      gd (ix (((nI 45) + x1) + p2) 345) (
      gd (ix ((nI 45) + x1) 345) (
      nm ((upd q_s_2 ((nI 45) + x1).toNatClampNeg (q_s_2 (((nI 45) + x1) + p2).toNatClampNeg))) (fun (q_s_6 : Ar) =>
      gd (ix (((nI 195) + x1) + p2) 345) (
      gd (ix ((nI 195) + x1) 345) (
      nm ((upd q_s_6 ((nI 195) + x1).toNatClampNeg (q_s_6 (((nI 195) + x1) + p2).toNatClampNeg))) (fun (q_s_9 : Ar) =>
      f_X4_removeWords_L12 Fu k_12 p2 fu (x1 + (nI 1)) q_s_9))))))
theorem f_X4_removeWords_L12_s (Fu : Nat) (k_12 : Ar → Option Ar) (p2 : Int32) (fu : Nat) (x1 : Int32) (q_s_2 : Ar) : f_X4_removeWords_L12 Fu k_12 p2 (fu + 1) x1 q_s_2 =
    if (q_s_2 4) ≤ x1 then
      k_12 q_s_2
    else
      gd (ix (((nI 45) + x1) + p2) 345) (
      gd (ix ((nI 45) + x1) 345) (
      nm ((upd q_s_2 ((nI 45) + x1).toNatClampNeg (q_s_2 (((nI 45) + x1) + p2).toNatClampNeg))) (fun (q_s_6 : Ar) =>
      gd (ix (((nI 195) + x1) + p2) 345) (
      gd (ix ((nI 195) + x1) 345) (
      nm ((upd q_s_6 ((nI 195) + x1).toNatClampNeg (q_s_6 (((nI 195) + x1) + p2).toNatClampNeg))) (fun (q_s_9 : Ar) =>
      f_X4_removeWords_L12 Fu k_12 p2 fu (x1 + (nI 1)) q_s_9)))))) := rfl
def f_X4_removeWords (Fu : Nat) (q_s : Ar) (p1 : Int32) (p2 : Int32) : Option Ar :=
  jn (fun (q_s_10 : Ar) =>
    some (q_s_10))
    (fun k_12 => f_X4_removeWords_L12 Fu k_12 p2 Fu p1 (upd q_s 4 ((q_s 4) - p2)))
def f_X4_times_L5 (Fu : Nat) (k_5 : Int32 → Option Int32) (q_s : Ar) (p1 : Int32) (p2 : Int32) : Nat → Int32 → Int32 → Option Int32
  | 0, _, _ => none
  | fu + 1, x1, x2 =>
    gd (ix ((nI 9) + p1) 345) (
    if (q_s ((nI 9) + p1).toNatClampNeg) ≤ x2 then
      k_5 x1
    else
      bd1 (f_X4_first Fu q_s p1) (fun r5 =>
      gd (ix (((nI 45) + r5) + x2) 345) (
      nm (if (q_s (((nI 45) + r5) + x2).toNatClampNeg) = p2 then (nI 1) else nI 0) (fun v9 =>
      f_X4_times_L5 Fu k_5 q_s p1 p2 fu (x1 + v9) (x2 + (nI 1))))))
theorem f_X4_times_L5_s (Fu : Nat) (k_5 : Int32 → Option Int32) (q_s : Ar) (p1 : Int32) (p2 : Int32) (fu : Nat) (x1 : Int32) (x2 : Int32) : f_X4_times_L5 Fu k_5 q_s p1 p2 (fu + 1) x1 x2 =
    gd (ix ((nI 9) + p1) 345) (
    if (q_s ((nI 9) + p1).toNatClampNeg) ≤ x2 then
      k_5 x1
    else
      bd1 (f_X4_first Fu q_s p1) (fun r5 =>
      gd (ix (((nI 45) + r5) + x2) 345) (
      nm (if (q_s (((nI 45) + r5) + x2).toNatClampNeg) = p2 then (nI 1) else nI 0) (fun v9 =>
      f_X4_times_L5 Fu k_5 q_s p1 p2 fu (x1 + v9) (x2 + (nI 1)))))) := rfl
def f_X4_times (Fu : Nat) (q_s : Ar) (p1 : Int32) (p2 : Int32) : Option Int32 :=
  jn (fun (v10 : Int32) =>
    some (v10))
    (fun k_5 => f_X4_times_L5 Fu k_5 q_s p1 p2 Fu (nI 0) (nI 0))
def f_X4_theme_L4 (Fu : Nat) (k_4 : Int32 → Option Int32) (q_s : Ar) (p1 : Int32) : Nat → Int32 → Int32 → Option Int32
  | 0, _, _ => none
  | fu + 1, x1, x2 =>
    if (nI 26) ≤ x2 then
      k_4 x1
    else
      bd1 (f_X4_times Fu q_s p1 x2) (fun r4 =>
      bd1 (f_X4_times Fu q_s p1 x1) (fun r6 =>
      nm (if r4 ≤ r6 then x1 else x2) (fun v9 =>
      f_X4_theme_L4 Fu k_4 q_s p1 fu v9 (x2 + (nI 1)))))
theorem f_X4_theme_L4_s (Fu : Nat) (k_4 : Int32 → Option Int32) (q_s : Ar) (p1 : Int32) (fu : Nat) (x1 : Int32) (x2 : Int32) : f_X4_theme_L4 Fu k_4 q_s p1 (fu + 1) x1 x2 =
    if (nI 26) ≤ x2 then
      k_4 x1
    else
      bd1 (f_X4_times Fu q_s p1 x2) (fun r4 =>
      bd1 (f_X4_times Fu q_s p1 x1) (fun r6 =>
      nm (if r4 ≤ r6 then x1 else x2) (fun v9 =>
      f_X4_theme_L4 Fu k_4 q_s p1 fu v9 (x2 + (nI 1))))) := rfl
def f_X4_theme (Fu : Nat) (q_s : Ar) (p1 : Int32) : Option Int32 :=
  jn (fun (v10 : Int32) =>
    some (v10))
    (fun k_4 => f_X4_theme_L4 Fu k_4 q_s p1 Fu (nI 0) (nI 1))
def f_X4_heatOf_L4 (Fu : Nat) (k_4 : Int32 → Option Int32) (q_s : Ar) (p1 : Int32) : Nat → Int32 → Int32 → Option Int32
  | 0, _, _ => none
  | fu + 1, x1, x2 =>
    gd (ix ((nI 9) + p1) 345) (
    if (q_s ((nI 9) + p1).toNatClampNeg) ≤ x2 then
      k_4 x1
    else
      bd1 (f_X4_first Fu q_s p1) (fun r5 =>
      gd (ix (((nI 195) + r5) + x2) 345) (
      nm ((x1 + (q_s (((nI 195) + r5) + x2).toNatClampNeg))) (fun v8 =>
      f_X4_heatOf_L4 Fu k_4 q_s p1 fu v8 (x2 + (nI 1))))))
theorem f_X4_heatOf_L4_s (Fu : Nat) (k_4 : Int32 → Option Int32) (q_s : Ar) (p1 : Int32) (fu : Nat) (x1 : Int32) (x2 : Int32) : f_X4_heatOf_L4 Fu k_4 q_s p1 (fu + 1) x1 x2 =
    gd (ix ((nI 9) + p1) 345) (
    if (q_s ((nI 9) + p1).toNatClampNeg) ≤ x2 then
      k_4 x1
    else
      bd1 (f_X4_first Fu q_s p1) (fun r5 =>
      gd (ix (((nI 195) + r5) + x2) 345) (
      nm ((x1 + (q_s (((nI 195) + r5) + x2).toNatClampNeg))) (fun v8 =>
      f_X4_heatOf_L4 Fu k_4 q_s p1 fu v8 (x2 + (nI 1)))))) := rfl
def f_X4_heatOf (Fu : Nat) (q_s : Ar) (p1 : Int32) : Option Int32 :=
  jn (fun (v9 : Int32) =>
    some (v9))
    (fun k_4 => f_X4_heatOf_L4 Fu k_4 q_s p1 Fu (nI 0) (nI 0))
def f_X4_allHeat_L4 (Fu : Nat) (k_4 : Int32 → Option Int32) (q_s : Ar) : Nat → Int32 → Int32 → Option Int32
  | 0, _, _ => none
  | fu + 1, x1, x2 =>
    if (q_s 4) ≤ x2 then
      k_4 x1
    else
      gd (ix ((nI 195) + x2) 345) (
      nm ((x1 + (q_s ((nI 195) + x2).toNatClampNeg))) (fun v5 =>
      f_X4_allHeat_L4 Fu k_4 q_s fu v5 (x2 + (nI 1))))
theorem f_X4_allHeat_L4_s (Fu : Nat) (k_4 : Int32 → Option Int32) (q_s : Ar) (fu : Nat) (x1 : Int32) (x2 : Int32) : f_X4_allHeat_L4 Fu k_4 q_s (fu + 1) x1 x2 =
    if (q_s 4) ≤ x2 then
      k_4 x1
    else
      gd (ix ((nI 195) + x2) 345) (
      nm ((x1 + (q_s ((nI 195) + x2).toNatClampNeg))) (fun v5 =>
      f_X4_allHeat_L4 Fu k_4 q_s fu v5 (x2 + (nI 1)))) := rfl
def f_X4_allHeat (Fu : Nat) (q_s : Ar) : Option Int32 :=
  jn (fun (v6 : Int32) =>
    some (v6))
    (fun k_4 => f_X4_allHeat_L4 Fu k_4 q_s Fu (nI 0) (nI 0))
def f_X4_set (Fu : Nat) (q_s : Ar) (q_before : Ar) (q_known : Int32) (p1 : Int32) (p2 : Int32) : Option (Int32 × Ar × Ar × Int32) :=
  nm (if p1 = 0 then (nI 10) else nI 0) (fun v2 =>
  nm (if p1 = 0 then (nI 99) else (if p1 = (nI 1) then (nI 4) else nI 20)) (fun v5 =>
  bd1 (f_X4_in Fu p1 (nI 0) (nI 2)) (fun r6 =>
  if r6 = 0 then
    some (-2, q_s, q_before, q_known)
  else
    bd1 (f_X4_in Fu p2 v2 v5) (fun r9 =>
    if r9 = 0 then
      some (-2, q_s, q_before, q_known)
    else
      bd2 (f_X4_know Fu q_s q_before q_known) (fun q_before_12 q_known_13 =>
      gd (ix ((nI 0) + p1) 345) (
      nm ((q_s ((nI 0) + p1).toNatClampNeg)) (fun v16 =>
      gd (ix ((nI 0) + p1) 345) (
      some (v16, upd q_s ((nI 0) + p1).toNatClampNeg p2, q_before_12, q_known_13)))))))))
def f_X4_heat (Fu : Nat) (q_s : Ar) (q_before : Ar) (q_known : Int32) (p1 : Int32) (p2 : Int32) (p3 : Int32) : Option (Int32 × Ar × Ar × Int32) :=
  bd1 (f_X4_isWord Fu q_s p1 p2) (fun r1 =>
  if r1 = 0 then
    some (-1, q_s, q_before, q_known)
  else
    bd1 (f_X4_in Fu p3 (nI 1) (nI 500)) (fun r4 =>
    if r4 = 0 then
      some (-2, q_s, q_before, q_known)
    else
      bd2 (f_X4_know Fu q_s q_before q_known) (fun q_before_7 q_known_8 =>
      bd1 (f_X4_first Fu q_s p1) (fun r10 =>
      bd1 (f_X4_warm Fu q_s (r10 + p2) p3) (fun q_s_12 =>
      bd2 (f_X4_react Fu q_s_12) (fun r14 q_s_15 =>
      some (r14, q_s_15, q_before_7, q_known_8)))))))
def f_X4_read_L29 (Fu : Nat) (k_29 : Ar → Option (Int32 × Ar × Ar × Int32)) (p1 : Int32) (p2 : Int32) : Nat → Int32 → Ar → Option (Int32 × Ar × Ar × Int32)
  | 0, _, _ => none
  | fu + 1, x10, q_s_11 =>
    gd (ix ((nI 9) + p1) 345) (
    if (q_s_11 ((nI 9) + p1).toNatClampNeg) ≤ x10 then
      k_29 q_s_11
    else
      bd1 (f_X4_first Fu q_s_11 p1) (fun r14 =>
      bd1 (f_X4_warm Fu q_s_11 (r14 + x10) p2) (fun q_s_16 =>
      f_X4_read_L29 Fu k_29 p1 p2 fu (x10 + (nI 1)) q_s_16)))
theorem f_X4_read_L29_s (Fu : Nat) (k_29 : Ar → Option (Int32 × Ar × Ar × Int32)) (p1 : Int32) (p2 : Int32) (fu : Nat) (x10 : Int32) (q_s_11 : Ar) : f_X4_read_L29 Fu k_29 p1 p2 (fu + 1) x10 q_s_11 =
    gd (ix ((nI 9) + p1) 345) (
    if (q_s_11 ((nI 9) + p1).toNatClampNeg) ≤ x10 then
      k_29 q_s_11
    else
      bd1 (f_X4_first Fu q_s_11 p1) (fun r14 =>
      bd1 (f_X4_warm Fu q_s_11 (r14 + x10) p2) (fun q_s_16 =>
      f_X4_read_L29 Fu k_29 p1 p2 fu (x10 + (nI 1)) q_s_16))) := rfl
def f_X4_read (Fu : Nat) (q_s : Ar) (q_before : Ar) (q_known : Int32) (p1 : Int32) (p2 : Int32) : Option (Int32 × Ar × Ar × Int32) :=
  bd1 (f_X4_isStory Fu q_s p1) (fun r1 =>
  if r1 = 0 then
    some (-1, q_s, q_before, q_known)
  else
    bd1 (f_X4_in Fu p2 (nI 1) (nI 50)) (fun r4 =>
    if r4 = 0 then
      some (-2, q_s, q_before, q_known)
    else
      bd2 (f_X4_know Fu q_s q_before q_known) (fun q_before_7 q_known_8 =>
      jn (fun (q_s_18 : Ar) =>
        bd2 (f_X4_react Fu q_s_18) (fun r19 q_s_20 =>
        some (r19, q_s_20, q_before_7, q_known_8)))
        (fun k_29 => f_X4_read_L29 Fu k_29 p1 p2 Fu (nI 0) q_s))))
def f_X4_fuse_L59 (Fu : Nat) (k_59 : Ar → Ar → Option (Int32 × Ar × Ar × Int32 × Ar × Ar)) (q_s : Ar) (p2 : Int32) (v17 : Int32) : Nat → Int32 → Ar → Ar → Option (Int32 × Ar × Ar × Int32 × Ar × Ar)
  | 0, _, _, _ => none
  | fu + 1, x18, q_letters_19, q_heats_20 =>
    if v17 ≤ x18 then
      k_59 q_letters_19 q_heats_20
    else
      bd1 (f_X4_first Fu q_s p2) (fun r22 =>
      gd (ix (((nI 45) + r22) + x18) 345) (
      gd (ix x18 150) (
      nm ((upd q_letters_19 (x18).toNatClampNeg (q_s (((nI 45) + r22) + x18).toNatClampNeg))) (fun (q_letters_26 : Ar) =>
      bd1 (f_X4_first Fu q_s p2) (fun r27 =>
      gd (ix (((nI 195) + r27) + x18) 345) (
      gd (ix x18 150) (
      nm ((upd q_heats_20 (x18).toNatClampNeg (q_s (((nI 195) + r27) + x18).toNatClampNeg))) (fun (q_heats_31 : Ar) =>
      f_X4_fuse_L59 Fu k_59 q_s p2 v17 fu (x18 + (nI 1)) q_letters_26 q_heats_31))))))))
theorem f_X4_fuse_L59_s (Fu : Nat) (k_59 : Ar → Ar → Option (Int32 × Ar × Ar × Int32 × Ar × Ar)) (q_s : Ar) (p2 : Int32) (v17 : Int32) (fu : Nat) (x18 : Int32) (q_letters_19 : Ar) (q_heats_20 : Ar) : f_X4_fuse_L59 Fu k_59 q_s p2 v17 (fu + 1) x18 q_letters_19 q_heats_20 =
    if v17 ≤ x18 then
      k_59 q_letters_19 q_heats_20
    else
      bd1 (f_X4_first Fu q_s p2) (fun r22 =>
      gd (ix (((nI 45) + r22) + x18) 345) (
      gd (ix x18 150) (
      nm ((upd q_letters_19 (x18).toNatClampNeg (q_s (((nI 45) + r22) + x18).toNatClampNeg))) (fun (q_letters_26 : Ar) =>
      bd1 (f_X4_first Fu q_s p2) (fun r27 =>
      gd (ix (((nI 195) + r27) + x18) 345) (
      gd (ix x18 150) (
      nm ((upd q_heats_20 (x18).toNatClampNeg (q_s (((nI 195) + r27) + x18).toNatClampNeg))) (fun (q_heats_31 : Ar) =>
      f_X4_fuse_L59 Fu k_59 q_s p2 v17 fu (x18 + (nI 1)) q_letters_26 q_heats_31)))))))) := rfl
def f_X4_fuse_L220 (Fu : Nat) (k_220 : Ar → Option (Int32 × Ar × Ar × Int32 × Ar × Ar)) (v17 : Int32) (v52 : Int32) : Nat → Int32 → Ar → Option (Int32 × Ar × Ar × Int32 × Ar × Ar)
  | 0, _, _ => none
  | fu + 1, x53, q_s_54 =>
    if x53 < v52 then
      k_220 q_s_54
    else
      gd (ix ((nI 45) + x53) 345) (
      gd (ix (((nI 45) + x53) + v17) 345) (
      nm ((upd q_s_54 (((nI 45) + x53) + v17).toNatClampNeg (q_s_54 ((nI 45) + x53).toNatClampNeg))) (fun (q_s_58 : Ar) =>
      gd (ix ((nI 195) + x53) 345) (
      gd (ix (((nI 195) + x53) + v17) 345) (
      nm ((upd q_s_58 (((nI 195) + x53) + v17).toNatClampNeg (q_s_58 ((nI 195) + x53).toNatClampNeg))) (fun (q_s_61 : Ar) =>
      f_X4_fuse_L220 Fu k_220 v17 v52 fu (x53 + (-1)) q_s_61))))))
theorem f_X4_fuse_L220_s (Fu : Nat) (k_220 : Ar → Option (Int32 × Ar × Ar × Int32 × Ar × Ar)) (v17 : Int32) (v52 : Int32) (fu : Nat) (x53 : Int32) (q_s_54 : Ar) : f_X4_fuse_L220 Fu k_220 v17 v52 (fu + 1) x53 q_s_54 =
    if x53 < v52 then
      k_220 q_s_54
    else
      gd (ix ((nI 45) + x53) 345) (
      gd (ix (((nI 45) + x53) + v17) 345) (
      nm ((upd q_s_54 (((nI 45) + x53) + v17).toNatClampNeg (q_s_54 ((nI 45) + x53).toNatClampNeg))) (fun (q_s_58 : Ar) =>
      gd (ix ((nI 195) + x53) 345) (
      gd (ix (((nI 195) + x53) + v17) 345) (
      nm ((upd q_s_58 (((nI 195) + x53) + v17).toNatClampNeg (q_s_58 ((nI 195) + x53).toNatClampNeg))) (fun (q_s_61 : Ar) =>
      f_X4_fuse_L220 Fu k_220 v17 v52 fu (x53 + (-1)) q_s_61)))))) := rfl
def f_X4_fuse_L282 (Fu : Nat) (k_282 : Ar → Option (Int32 × Ar × Ar × Int32 × Ar × Ar)) (v17 : Int32) (q_letters_32 : Ar) (q_heats_33 : Ar) (v52 : Int32) : Nat → Int32 → Ar → Option (Int32 × Ar × Ar × Int32 × Ar × Ar)
  | 0, _, _ => none
  | fu + 1, x63, q_s_64 =>
    if v17 ≤ x63 then
      k_282 q_s_64
    else
      gd (ix x63 150) (
      gd (ix (((nI 45) + v52) + x63) 345) (
      nm ((upd q_s_64 (((nI 45) + v52) + x63).toNatClampNeg (q_letters_32 (x63).toNatClampNeg))) (fun (q_s_68 : Ar) =>
      gd (ix x63 150) (
      gd (ix (((nI 195) + v52) + x63) 345) (
      nm ((upd q_s_68 (((nI 195) + v52) + x63).toNatClampNeg (q_heats_33 (x63).toNatClampNeg))) (fun (q_s_71 : Ar) =>
      f_X4_fuse_L282 Fu k_282 v17 q_letters_32 q_heats_33 v52 fu (x63 + (nI 1)) q_s_71))))))
theorem f_X4_fuse_L282_s (Fu : Nat) (k_282 : Ar → Option (Int32 × Ar × Ar × Int32 × Ar × Ar)) (v17 : Int32) (q_letters_32 : Ar) (q_heats_33 : Ar) (v52 : Int32) (fu : Nat) (x63 : Int32) (q_s_64 : Ar) : f_X4_fuse_L282 Fu k_282 v17 q_letters_32 q_heats_33 v52 (fu + 1) x63 q_s_64 =
    if v17 ≤ x63 then
      k_282 q_s_64
    else
      gd (ix x63 150) (
      gd (ix (((nI 45) + v52) + x63) 345) (
      nm ((upd q_s_64 (((nI 45) + v52) + x63).toNatClampNeg (q_letters_32 (x63).toNatClampNeg))) (fun (q_s_68 : Ar) =>
      gd (ix x63 150) (
      gd (ix (((nI 195) + v52) + x63) 345) (
      nm ((upd q_s_68 (((nI 195) + v52) + x63).toNatClampNeg (q_heats_33 (x63).toNatClampNeg))) (fun (q_s_71 : Ar) =>
      f_X4_fuse_L282 Fu k_282 v17 q_letters_32 q_heats_33 v52 fu (x63 + (nI 1)) q_s_71)))))) := rfl
def f_X4_fuse (Fu : Nat) (q_s : Ar) (q_before : Ar) (q_known : Int32) (q_letters : Ar) (q_heats : Ar) (p1 : Int32) (p2 : Int32) : Option (Int32 × Ar × Ar × Int32 × Ar × Ar) :=
  bd1 (f_X4_isStory Fu q_s p1) (fun r1 =>
  if r1 = 0 then
    some (-1, q_s, q_before, q_known, q_letters, q_heats)
  else
    bd1 (f_X4_isStory Fu q_s p2) (fun r4 =>
    if r4 = 0 then
      some (-1, q_s, q_before, q_known, q_letters, q_heats)
    else
      if p1 = p2 then
        some (-2, q_s, q_before, q_known, q_letters, q_heats)
      else
        bd1 (f_X4_theme Fu q_s p1) (fun r8 =>
        bd1 (f_X4_theme Fu q_s p2) (fun r10 =>
        if r8 = r10 then
          bd2 (f_X4_know Fu q_s q_before q_known) (fun q_before_13 q_known_14 =>
          gd (ix ((nI 9) + p2) 345) (
          nm ((q_s ((nI 9) + p2).toNatClampNeg)) (fun v17 =>
          jn (fun (q_letters_32 : Ar) (q_heats_33 : Ar) =>
            gd (ix ((nI 33) + p1) 345) (
            gd (ix ((nI 33) + p2) 345) (
            jn (fun (v39 : Int32) =>
              bd1 (f_X4_first Fu q_s p2) (fun r41 =>
              bd1 (f_X4_removeWords Fu q_s r41 v17) (fun q_s_43 =>
              bd1 (f_X4_removeStory Fu q_s_43 p2) (fun q_s_45 =>
              nm (if p1 ≤ p2 then p1 else p1 - (nI 1)) (fun v48 =>
              bd1 (f_X4_first Fu q_s_45 v48) (fun r49 =>
              gd (ix ((nI 9) + v48) 345) (
              nm ((r49 + (q_s_45 ((nI 9) + v48).toNatClampNeg))) (fun v52 =>
              jn (fun (q_s_62 : Ar) =>
                jn (fun (q_s_72 : Ar) =>
                  gd (ix ((nI 9) + v48) 345) (
                  gd (ix ((nI 9) + v48) 345) (
                  nm ((upd (upd q_s_72 4 ((q_s_72 4) + v17)) ((nI 9) + v48).toNatClampNeg (((upd q_s_72 4 ((q_s_72 4) + v17)) ((nI 9) + v48).toNatClampNeg) + v17))) (fun (q_s_75 : Ar) =>
                  gd (ix ((nI 33) + v48) 345) (
                  bd1 (f_X4_warm Fu (upd q_s_75 ((nI 33) + v48).toNatClampNeg (v39 + (nI 1))) (v52 - (nI 1)) ((upd q_s_75 ((nI 33) + v48).toNatClampNeg (v39 + (nI 1))) 1)) (fun q_s_77 =>
                  bd1 (f_X4_warm Fu q_s_77 v52 (q_s_77 1)) (fun q_s_79 =>
                  bd2 (f_X4_react Fu q_s_79) (fun r81 q_s_82 =>
                  some (r81, q_s_82, q_before_13, q_known_14, q_letters_32, q_heats_33)))))))))
                  (fun k_282 => f_X4_fuse_L282 Fu k_282 v17 q_letters_32 q_heats_33 v52 Fu (nI 0) q_s_62))
                (fun k_220 => f_X4_fuse_L220 Fu k_220 v17 v52 Fu ((q_s_45 4) - (nI 1)) q_s_45)))))))))
              (fun j40 =>
              if (q_s ((nI 33) + p1).toNatClampNeg) ≤ (q_s ((nI 33) + p2).toNatClampNeg) then
                gd (ix ((nI 33) + p2) 345) (
                j40 (q_s ((nI 33) + p2).toNatClampNeg))
              else
                gd (ix ((nI 33) + p1) 345) (
                j40 (q_s ((nI 33) + p1).toNatClampNeg))))))
            (fun k_59 => f_X4_fuse_L59 Fu k_59 q_s p2 v17 Fu (nI 0) q_letters q_heats))))
        else
          some (-5, q_s, q_before, q_known, q_letters, q_heats)))))
def f_X4_pass_L28 (Fu : Nat) (k_28 : Ar → Option (Int32 × Ar × Ar × Int32)) (q_s : Ar) (p1 : Int32) : Nat → Int32 → Ar → Option (Int32 × Ar × Ar × Int32)
  | 0, _, _ => none
  | fu + 1, x7, q_s_8 =>
    if (q_s_8 4) ≤ x7 then
      k_28 q_s_8
    else
      gd (ix ((nI 195) + x7) 345) (
      gd (ix ((nI 195) + x7) 345) (
      jn (fun (v14 : Int32) =>
        gd (ix ((nI 195) + x7) 345) (
        nm ((upd q_s_8 ((nI 195) + x7).toNatClampNeg ((q_s_8 ((nI 195) + x7).toNatClampNeg) - v14))) (fun (q_s_17 : Ar) =>
        f_X4_pass_L28 Fu k_28 q_s p1 fu (x7 + (nI 1)) q_s_17)))
        (fun j15 =>
        if (q_s_8 ((nI 195) + x7).toNatClampNeg) ≤ (p1 * (q_s 2)) then
          gd (ix ((nI 195) + x7) 345) (
          j15 (q_s_8 ((nI 195) + x7).toNatClampNeg))
        else
          j15 (p1 * (q_s 2)))))
theorem f_X4_pass_L28_s (Fu : Nat) (k_28 : Ar → Option (Int32 × Ar × Ar × Int32)) (q_s : Ar) (p1 : Int32) (fu : Nat) (x7 : Int32) (q_s_8 : Ar) : f_X4_pass_L28 Fu k_28 q_s p1 (fu + 1) x7 q_s_8 =
    if (q_s_8 4) ≤ x7 then
      k_28 q_s_8
    else
      gd (ix ((nI 195) + x7) 345) (
      gd (ix ((nI 195) + x7) 345) (
      jn (fun (v14 : Int32) =>
        gd (ix ((nI 195) + x7) 345) (
        nm ((upd q_s_8 ((nI 195) + x7).toNatClampNeg ((q_s_8 ((nI 195) + x7).toNatClampNeg) - v14))) (fun (q_s_17 : Ar) =>
        f_X4_pass_L28 Fu k_28 q_s p1 fu (x7 + (nI 1)) q_s_17)))
        (fun j15 =>
        if (q_s_8 ((nI 195) + x7).toNatClampNeg) ≤ (p1 * (q_s 2)) then
          gd (ix ((nI 195) + x7) 345) (
          j15 (q_s_8 ((nI 195) + x7).toNatClampNeg))
        else
          j15 (p1 * (q_s 2))))) := rfl
def f_X4_pass (Fu : Nat) (q_s : Ar) (q_before : Ar) (q_known : Int32) (p1 : Int32) : Option (Int32 × Ar × Ar × Int32) :=
  bd1 (f_X4_in Fu p1 (nI 1) (nI 30)) (fun r1 =>
  if r1 = 0 then
    some (-2, q_s, q_before, q_known)
  else
    bd2 (f_X4_know Fu q_s q_before q_known) (fun q_before_4 q_known_5 =>
    jn (fun (q_s_18 : Ar) =>
      bd1 (f_X4_allHeat Fu q_s_18) (fun r19 =>
      some (r19, q_s_18, q_before_4, q_known_5)))
      (fun k_28 => f_X4_pass_L28 Fu k_28 q_s p1 Fu (nI 0) q_s)))
def f_X4_burn (Fu : Nat) (q_s : Ar) (q_before : Ar) (q_known : Int32) (p1 : Int32) : Option (Int32 × Ar × Ar × Int32) :=
  bd1 (f_X4_isStory Fu q_s p1) (fun r1 =>
  if r1 = 0 then
    some (-1, q_s, q_before, q_known)
  else
    bd2 (f_X4_know Fu q_s q_before q_known) (fun q_before_4 q_known_5 =>
    gd (ix ((nI 9) + p1) 345) (
    nm ((q_s ((nI 9) + p1).toNatClampNeg)) (fun v8 =>
    bd1 (f_X4_first Fu q_s p1) (fun r9 =>
    bd1 (f_X4_removeWords Fu q_s r9 v8) (fun q_s_11 =>
    bd1 (f_X4_removeStory Fu q_s_11 p1) (fun q_s_13 =>
    some (v8, q_s_13, q_before_4, q_known_5))))))))
def f_X4_word (Fu : Nat) (q_s : Ar) (p1 : Int32) (p2 : Int32) (p3 : Int32) : Option Int32 :=
  bd1 (f_X4_isWord Fu q_s p1 p2) (fun r1 =>
  if r1 = 0 then
    some (-1)
  else
    bd1 (f_X4_first Fu q_s p1) (fun r4 =>
    jn (fun (v14 : Int32) =>
      some (v14))
      (fun j15 =>
      if p3 = 0 then
        gd (ix ((nI 45) + (r4 + p2)) 345) (
        j15 (q_s ((nI 45) + (r4 + p2)).toNatClampNeg))
      else
        if p3 = (nI 1) then
          gd (ix ((nI 195) + (r4 + p2)) 345) (
          j15 (q_s ((nI 195) + (r4 + p2)).toNatClampNeg))
        else
          if p3 = (nI 2) then
            gd (ix ((nI 45) + (r4 + p2)) 345) (
            bd1 (f_X4_times Fu q_s p1 (q_s ((nI 45) + (r4 + p2)).toNatClampNeg)) (fun r10 =>
            j15 r10))
          else
            j15 (-2))))
def f_X4_hottest_L4 (Fu : Nat) (k_4 : Int32 → Option Int32) (q_s : Ar) (p1 : Int32) : Nat → Int32 → Int32 → Option Int32
  | 0, _, _ => none
  | fu + 1, x1, x2 =>
    gd (ix ((nI 9) + p1) 345) (
    if (q_s ((nI 9) + p1).toNatClampNeg) ≤ x2 then
      k_4 x1
    else
      bd1 (f_X4_first Fu q_s p1) (fun r5 =>
      gd (ix (((nI 195) + r5) + x2) 345) (
      bd1 (f_X4_first Fu q_s p1) (fun r8 =>
      gd (ix (((nI 195) + r8) + x1) 345) (
      nm (if (q_s (((nI 195) + r5) + x2).toNatClampNeg) ≤ (q_s (((nI 195) + r8) + x1).toNatClampNeg) then x1 else x2) (fun v12 =>
      f_X4_hottest_L4 Fu k_4 q_s p1 fu v12 (x2 + (nI 1))))))))
theorem f_X4_hottest_L4_s (Fu : Nat) (k_4 : Int32 → Option Int32) (q_s : Ar) (p1 : Int32) (fu : Nat) (x1 : Int32) (x2 : Int32) : f_X4_hottest_L4 Fu k_4 q_s p1 (fu + 1) x1 x2 =
    gd (ix ((nI 9) + p1) 345) (
    if (q_s ((nI 9) + p1).toNatClampNeg) ≤ x2 then
      k_4 x1
    else
      bd1 (f_X4_first Fu q_s p1) (fun r5 =>
      gd (ix (((nI 195) + r5) + x2) 345) (
      bd1 (f_X4_first Fu q_s p1) (fun r8 =>
      gd (ix (((nI 195) + r8) + x1) 345) (
      nm (if (q_s (((nI 195) + r5) + x2).toNatClampNeg) ≤ (q_s (((nI 195) + r8) + x1).toNatClampNeg) then x1 else x2) (fun v12 =>
      f_X4_hottest_L4 Fu k_4 q_s p1 fu v12 (x2 + (nI 1)))))))) := rfl
def f_X4_hottest (Fu : Nat) (q_s : Ar) (p1 : Int32) : Option Int32 :=
  jn (fun (v13 : Int32) =>
    some (v13))
    (fun k_4 => f_X4_hottest_L4 Fu k_4 q_s p1 Fu (nI 0) (nI 1))
def f_X4_unlike_L4 (Fu : Nat) (k_4 : Int32 → Option Int32) (q_s : Ar) (p1 : Int32) : Nat → Int32 → Int32 → Option Int32
  | 0, _, _ => none
  | fu + 1, x1, x2 =>
    if (nI 26) ≤ x2 then
      k_4 x1
    else
      bd1 (f_X4_times Fu q_s p1 x2) (fun r4 =>
      nm (if r4 ≤ 0 then (nI 0) else nI 1) (fun v7 =>
      f_X4_unlike_L4 Fu k_4 q_s p1 fu (x1 + v7) (x2 + (nI 1))))
theorem f_X4_unlike_L4_s (Fu : Nat) (k_4 : Int32 → Option Int32) (q_s : Ar) (p1 : Int32) (fu : Nat) (x1 : Int32) (x2 : Int32) : f_X4_unlike_L4 Fu k_4 q_s p1 (fu + 1) x1 x2 =
    if (nI 26) ≤ x2 then
      k_4 x1
    else
      bd1 (f_X4_times Fu q_s p1 x2) (fun r4 =>
      nm (if r4 ≤ 0 then (nI 0) else nI 1) (fun v7 =>
      f_X4_unlike_L4 Fu k_4 q_s p1 fu (x1 + v7) (x2 + (nI 1)))) := rfl
def f_X4_unlike (Fu : Nat) (q_s : Ar) (p1 : Int32) : Option Int32 :=
  jn (fun (v8 : Int32) =>
    some (v8))
    (fun k_4 => f_X4_unlike_L4 Fu k_4 q_s p1 Fu (nI 0) (nI 0))
def f_X4_isSameBackwards_L26 (Fu : Nat) (k_26 : Int32 → Option Int32) (q_s : Ar) (p1 : Int32) (r1 : Int32) (v4 : Int32) : Nat → Int32 → Int32 → Option Int32
  | 0, _, _ => none
  | fu + 1, x5, x6 =>
    gd (ix ((nI 9) + p1) 345) (
    if (q_s ((nI 9) + p1).toNatClampNeg) ≤ x6 then
      k_26 x5
    else
      jn (fun (v13 : Int32) =>
        f_X4_isSameBackwards_L26 Fu k_26 q_s p1 r1 v4 fu v13 (x6 + (nI 1)))
        (fun j14 =>
        if x5 = 0 then
          j14 (nI 0)
        else
          gd (ix (((nI 45) + r1) + x6) 345) (
          gd (ix (((nI 45) + v4) - x6) 345) (
          if (q_s (((nI 45) + r1) + x6).toNatClampNeg) = (q_s (((nI 45) + v4) - x6).toNatClampNeg) then
            j14 (nI 1)
          else
            j14 (nI 0)))))
theorem f_X4_isSameBackwards_L26_s (Fu : Nat) (k_26 : Int32 → Option Int32) (q_s : Ar) (p1 : Int32) (r1 : Int32) (v4 : Int32) (fu : Nat) (x5 : Int32) (x6 : Int32) : f_X4_isSameBackwards_L26 Fu k_26 q_s p1 r1 v4 (fu + 1) x5 x6 =
    gd (ix ((nI 9) + p1) 345) (
    if (q_s ((nI 9) + p1).toNatClampNeg) ≤ x6 then
      k_26 x5
    else
      jn (fun (v13 : Int32) =>
        f_X4_isSameBackwards_L26 Fu k_26 q_s p1 r1 v4 fu v13 (x6 + (nI 1)))
        (fun j14 =>
        if x5 = 0 then
          j14 (nI 0)
        else
          gd (ix (((nI 45) + r1) + x6) 345) (
          gd (ix (((nI 45) + v4) - x6) 345) (
          if (q_s (((nI 45) + r1) + x6).toNatClampNeg) = (q_s (((nI 45) + v4) - x6).toNatClampNeg) then
            j14 (nI 1)
          else
            j14 (nI 0))))) := rfl
def f_X4_isSameBackwards (Fu : Nat) (q_s : Ar) (p1 : Int32) : Option Int32 :=
  bd1 (f_X4_first Fu q_s p1) (fun r1 =>
  gd (ix ((nI 9) + p1) 345) (
  nm (((r1 + (q_s ((nI 9) + p1).toNatClampNeg)) - (nI 1))) (fun v4 =>
  jn (fun (v15 : Int32) =>
    nm (if v15 = 0 then (nI 0) else nI 1) (fun v17 =>
    some (v17)))
    (fun k_26 => f_X4_isSameBackwards_L26 Fu k_26 q_s p1 r1 v4 Fu (nI 1) (nI 0)))))
def f_X4_story (Fu : Nat) (q_s : Ar) (p1 : Int32) (p2 : Int32) : Option Int32 :=
  bd1 (f_X4_isStory Fu q_s p1) (fun r1 =>
  if r1 = 0 then
    some (-1)
  else
    nm (p2) (fun v4 =>
    if v4 = nI 0 then
      gd (ix ((nI 9) + p1) 345) (
      some (q_s ((nI 9) + p1).toNatClampNeg))
    else
    if v4 = nI 1 then
      bd1 (f_X4_heatOf Fu q_s p1) (fun r6 =>
      some (r6))
    else
    if v4 = nI 2 then
      bd1 (f_X4_theme Fu q_s p1) (fun r8 =>
      some (r8))
    else
    if v4 = nI 3 then
      gd (ix ((nI 21) + p1) 345) (
      some (q_s ((nI 21) + p1).toNatClampNeg))
    else
    if v4 = nI 4 then
      gd (ix ((nI 33) + p1) 345) (
      some (q_s ((nI 33) + p1).toNatClampNeg))
    else
    if v4 = nI 5 then
      bd1 (f_X4_hottest Fu q_s p1) (fun r12 =>
      some (r12))
    else
    if v4 = nI 6 then
      bd1 (f_X4_unlike Fu q_s p1) (fun r14 =>
      some (r14))
    else
    if v4 = nI 7 then
      bd1 (f_X4_isSameBackwards Fu q_s p1) (fun r16 =>
      some (r16))
    else
      some (-2)))
def f_X4_families_L19 (Fu : Nat) (k_19 : Int32 → Option Int32) (q_s : Ar) (x2 : Int32) : Nat → Int32 → Int32 → Option Int32
  | 0, _, _ => none
  | fu + 1, x4, x5 =>
    if x2 ≤ x5 then
      k_19 x4
    else
      jn (fun (v11 : Int32) =>
        f_X4_families_L19 Fu k_19 q_s x2 fu v11 (x5 + (nI 1)))
        (fun j12 =>
        if x4 = 0 then
          j12 (nI 0)
        else
          gd (ix ((nI 21) + x5) 345) (
          gd (ix ((nI 21) + x2) 345) (
          if (q_s ((nI 21) + x5).toNatClampNeg) = (q_s ((nI 21) + x2).toNatClampNeg) then
            j12 (nI 0)
          else
            j12 (nI 1))))
theorem f_X4_families_L19_s (Fu : Nat) (k_19 : Int32 → Option Int32) (q_s : Ar) (x2 : Int32) (fu : Nat) (x4 : Int32) (x5 : Int32) : f_X4_families_L19 Fu k_19 q_s x2 (fu + 1) x4 x5 =
    if x2 ≤ x5 then
      k_19 x4
    else
      jn (fun (v11 : Int32) =>
        f_X4_families_L19 Fu k_19 q_s x2 fu v11 (x5 + (nI 1)))
        (fun j12 =>
        if x4 = 0 then
          j12 (nI 0)
        else
          gd (ix ((nI 21) + x5) 345) (
          gd (ix ((nI 21) + x2) 345) (
          if (q_s ((nI 21) + x5).toNatClampNeg) = (q_s ((nI 21) + x2).toNatClampNeg) then
            j12 (nI 0)
          else
            j12 (nI 1)))) := rfl
def f_X4_families_L4 (Fu : Nat) (k_4 : Int32 → Option Int32) (q_s : Ar) : Nat → Int32 → Int32 → Option Int32
  | 0, _, _ => none
  | fu + 1, x1, x2 =>
    if (q_s 3) ≤ x2 then
      k_4 x1
    else
      jn (fun (v13 : Int32) =>
        nm (if v13 = 0 then (nI 0) else nI 1) (fun v15 =>
        f_X4_families_L4 Fu k_4 q_s fu (x1 + v15) (x2 + (nI 1))))
        (fun k_19 => f_X4_families_L19 Fu k_19 q_s x2 Fu (nI 1) (nI 0))
theorem f_X4_families_L4_s (Fu : Nat) (k_4 : Int32 → Option Int32) (q_s : Ar) (fu : Nat) (x1 : Int32) (x2 : Int32) : f_X4_families_L4 Fu k_4 q_s (fu + 1) x1 x2 =
    if (q_s 3) ≤ x2 then
      k_4 x1
    else
      jn (fun (v13 : Int32) =>
        nm (if v13 = 0 then (nI 0) else nI 1) (fun v15 =>
        f_X4_families_L4 Fu k_4 q_s fu (x1 + v15) (x2 + (nI 1))))
        (fun k_19 => f_X4_families_L19 Fu k_19 q_s x2 Fu (nI 1) (nI 0)) := rfl
def f_X4_families (Fu : Nat) (q_s : Ar) : Option Int32 :=
  jn (fun (v16 : Int32) =>
    some (v16))
    (fun k_4 => f_X4_families_L4 Fu k_4 q_s Fu (nI 0) (nI 0))
def f_X4_greatest_L5 (Fu : Nat) (k_5 : Int32 → Option Int32) (q_s : Ar) : Nat → Int32 → Int32 → Option Int32
  | 0, _, _ => none
  | fu + 1, x1, x2 =>
    if (q_s 3) ≤ x2 then
      k_5 x1
    else
      gd (ix ((nI 33) + x2) 345) (
      jn (fun (v7 : Int32) =>
        f_X4_greatest_L5 Fu k_5 q_s fu v7 (x2 + (nI 1)))
        (fun j8 =>
        if (q_s ((nI 33) + x2).toNatClampNeg) ≤ x1 then
          j8 x1
        else
          gd (ix ((nI 33) + x2) 345) (
          j8 (q_s ((nI 33) + x2).toNatClampNeg))))
theorem f_X4_greatest_L5_s (Fu : Nat) (k_5 : Int32 → Option Int32) (q_s : Ar) (fu : Nat) (x1 : Int32) (x2 : Int32) : f_X4_greatest_L5 Fu k_5 q_s (fu + 1) x1 x2 =
    if (q_s 3) ≤ x2 then
      k_5 x1
    else
      gd (ix ((nI 33) + x2) 345) (
      jn (fun (v7 : Int32) =>
        f_X4_greatest_L5 Fu k_5 q_s fu v7 (x2 + (nI 1)))
        (fun j8 =>
        if (q_s ((nI 33) + x2).toNatClampNeg) ≤ x1 then
          j8 x1
        else
          gd (ix ((nI 33) + x2) 345) (
          j8 (q_s ((nI 33) + x2).toNatClampNeg)))) := rfl
def f_X4_greatest (Fu : Nat) (q_s : Ar) : Option Int32 :=
  jn (fun (v9 : Int32) =>
    some (v9))
    (fun k_5 => f_X4_greatest_L5 Fu k_5 q_s Fu (-6) (nI 0))
def f_X4_count (Fu : Nat) (q_s : Ar) (q_known : Int32) (q_length : Int32) (p1 : Int32) : Option Int32 :=
  nm (p1) (fun v1 =>
  if v1 = nI 0 then
    some (q_s 3)
  else
  if v1 = nI 1 then
    some (q_s 4)
  else
  if v1 = nI 2 then
    bd1 (f_X4_allHeat Fu q_s) (fun r2 =>
    some (r2))
  else
  if v1 = nI 3 then
    bd1 (f_X4_families Fu q_s) (fun r4 =>
    some (r4))
  else
  if v1 = nI 4 then
    gd (ix (((nI 6) + p1) - (nI 4)) 345) (
    some (q_s (((nI 6) + p1) - (nI 4)).toNatClampNeg))
  else
  if v1 = nI 5 then
    gd (ix (((nI 6) + p1) - (nI 4)) 345) (
    some (q_s (((nI 6) + p1) - (nI 4)).toNatClampNeg))
  else
  if v1 = nI 6 then
    gd (ix (((nI 6) + p1) - (nI 4)) 345) (
    some (q_s (((nI 6) + p1) - (nI 4)).toNatClampNeg))
  else
  if v1 = nI 7 then
    bd1 (f_X4_greatest Fu q_s) (fun r9 =>
    some (r9))
  else
  if v1 = nI 8 then
    gd (ix (((nI 0) + p1) - (nI 8)) 345) (
    some (q_s (((nI 0) + p1) - (nI 8)).toNatClampNeg))
  else
  if v1 = nI 9 then
    gd (ix (((nI 0) + p1) - (nI 8)) 345) (
    some (q_s (((nI 0) + p1) - (nI 8)).toNatClampNeg))
  else
  if v1 = nI 10 then
    gd (ix (((nI 0) + p1) - (nI 8)) 345) (
    some (q_s (((nI 0) + p1) - (nI 8)).toNatClampNeg))
  else
  if v1 = nI 11 then
    some (q_length)
  else
  if v1 = nI 12 then
    some (q_known)
  else
    some (-2))
def f_X4_letter_L27 (Fu : Nat) (k_27 : Int32 → Option Int32) (q_s : Ar) (p1 : Int32) (p2 : Int32) : Nat → Int32 → Int32 → Option Int32
  | 0, _, _ => none
  | fu + 1, x7, x8 =>
    if (q_s 4) ≤ x8 then
      k_27 x7
    else
      if p2 = 0 then
        gd (ix ((nI 45) + x8) 345) (
        jn (fun (v15 : Int32) =>
          f_X4_letter_L27 Fu k_27 q_s p1 p2 fu (x7 + v15) (x8 + (nI 1)))
          (fun j16 =>
          if (q_s ((nI 45) + x8).toNatClampNeg) = p1 then
            if p2 = 0 then
              j16 (nI 1)
            else
              gd (ix ((nI 195) + x8) 345) (
              j16 (q_s ((nI 195) + x8).toNatClampNeg))
          else
            j16 (nI 0)))
      else
        if p2 = (nI 3) then
          gd (ix ((nI 45) + x8) 345) (
          jn (fun (v22 : Int32) =>
            f_X4_letter_L27 Fu k_27 q_s p1 p2 fu (x7 + v22) (x8 + (nI 1)))
            (fun j23 =>
            if (q_s ((nI 45) + x8).toNatClampNeg) = p1 then
              if p2 = 0 then
                j23 (nI 1)
              else
                gd (ix ((nI 195) + x8) 345) (
                j23 (q_s ((nI 195) + x8).toNatClampNeg))
            else
              j23 (nI 0)))
        else
          k_27 x7
theorem f_X4_letter_L27_s (Fu : Nat) (k_27 : Int32 → Option Int32) (q_s : Ar) (p1 : Int32) (p2 : Int32) (fu : Nat) (x7 : Int32) (x8 : Int32) : f_X4_letter_L27 Fu k_27 q_s p1 p2 (fu + 1) x7 x8 =
    if (q_s 4) ≤ x8 then
      k_27 x7
    else
      if p2 = 0 then
        gd (ix ((nI 45) + x8) 345) (
        jn (fun (v15 : Int32) =>
          f_X4_letter_L27 Fu k_27 q_s p1 p2 fu (x7 + v15) (x8 + (nI 1)))
          (fun j16 =>
          if (q_s ((nI 45) + x8).toNatClampNeg) = p1 then
            if p2 = 0 then
              j16 (nI 1)
            else
              gd (ix ((nI 195) + x8) 345) (
              j16 (q_s ((nI 195) + x8).toNatClampNeg))
          else
            j16 (nI 0)))
      else
        if p2 = (nI 3) then
          gd (ix ((nI 45) + x8) 345) (
          jn (fun (v22 : Int32) =>
            f_X4_letter_L27 Fu k_27 q_s p1 p2 fu (x7 + v22) (x8 + (nI 1)))
            (fun j23 =>
            if (q_s ((nI 45) + x8).toNatClampNeg) = p1 then
              if p2 = 0 then
                j23 (nI 1)
              else
                gd (ix ((nI 195) + x8) 345) (
                j23 (q_s ((nI 195) + x8).toNatClampNeg))
            else
              j23 (nI 0)))
        else
          k_27 x7 := rfl
def f_X4_letter_L96 (Fu : Nat) (k_96 : Int32 → Option Int32) (q_s : Ar) (p1 : Int32) (p2 : Int32) : Nat → Int32 → Int32 → Option Int32
  | 0, _, _ => none
  | fu + 1, x25, x26 =>
    if (q_s 3) ≤ x26 then
      k_96 x25
    else
      if p2 = (nI 1) then
        jn (fun (v36 : Int32) =>
          f_X4_letter_L96 Fu k_96 q_s p1 p2 fu (x25 + v36) (x26 + (nI 1)))
          (fun j37 =>
          if p2 = (nI 1) then
            bd1 (f_X4_times Fu q_s x26 p1) (fun r33 =>
            if r33 ≤ 0 then
              j37 (nI 0)
            else
              j37 (nI 1))
          else
            bd1 (f_X4_theme Fu q_s x26) (fun r30 =>
            if r30 = p1 then
              j37 (nI 1)
            else
              j37 (nI 0)))
      else
        if p2 = (nI 2) then
          jn (fun (v46 : Int32) =>
            f_X4_letter_L96 Fu k_96 q_s p1 p2 fu (x25 + v46) (x26 + (nI 1)))
            (fun j47 =>
            if p2 = (nI 1) then
              bd1 (f_X4_times Fu q_s x26 p1) (fun r43 =>
              if r43 ≤ 0 then
                j47 (nI 0)
              else
                j47 (nI 1))
            else
              bd1 (f_X4_theme Fu q_s x26) (fun r40 =>
              if r40 = p1 then
                j47 (nI 1)
              else
                j47 (nI 0)))
        else
          k_96 x25
theorem f_X4_letter_L96_s (Fu : Nat) (k_96 : Int32 → Option Int32) (q_s : Ar) (p1 : Int32) (p2 : Int32) (fu : Nat) (x25 : Int32) (x26 : Int32) : f_X4_letter_L96 Fu k_96 q_s p1 p2 (fu + 1) x25 x26 =
    if (q_s 3) ≤ x26 then
      k_96 x25
    else
      if p2 = (nI 1) then
        jn (fun (v36 : Int32) =>
          f_X4_letter_L96 Fu k_96 q_s p1 p2 fu (x25 + v36) (x26 + (nI 1)))
          (fun j37 =>
          if p2 = (nI 1) then
            bd1 (f_X4_times Fu q_s x26 p1) (fun r33 =>
            if r33 ≤ 0 then
              j37 (nI 0)
            else
              j37 (nI 1))
          else
            bd1 (f_X4_theme Fu q_s x26) (fun r30 =>
            if r30 = p1 then
              j37 (nI 1)
            else
              j37 (nI 0)))
      else
        if p2 = (nI 2) then
          jn (fun (v46 : Int32) =>
            f_X4_letter_L96 Fu k_96 q_s p1 p2 fu (x25 + v46) (x26 + (nI 1)))
            (fun j47 =>
            if p2 = (nI 1) then
              bd1 (f_X4_times Fu q_s x26 p1) (fun r43 =>
              if r43 ≤ 0 then
                j47 (nI 0)
              else
                j47 (nI 1))
            else
              bd1 (f_X4_theme Fu q_s x26) (fun r40 =>
              if r40 = p1 then
                j47 (nI 1)
              else
                j47 (nI 0)))
        else
          k_96 x25 := rfl
def f_X4_letter (Fu : Nat) (q_s : Ar) (p1 : Int32) (p2 : Int32) : Option Int32 :=
  bd1 (f_X4_in Fu p1 (nI 0) (nI 25)) (fun r1 =>
  if r1 = 0 then
    some (-2)
  else
    bd1 (f_X4_in Fu p2 (nI 0) (nI 3)) (fun r4 =>
    if r4 = 0 then
      some (-2)
    else
      jn (fun (v24 : Int32) =>
        jn (fun (v48 : Int32) =>
          some (v48))
          (fun k_96 => f_X4_letter_L96 Fu k_96 q_s p1 p2 Fu v24 (nI 0)))
        (fun k_27 => f_X4_letter_L27 Fu k_27 q_s p1 p2 Fu (nI 0) (nI 0))))
def f_X4_sideBySide_L60 (Fu : Nat) (k_60 : Int32 → Int32 → Int32 → Option Int32) (q_s : Ar) (p1 : Int32) (p2 : Int32) (x13 : Int32) : Nat → Int32 → Int32 → Int32 → Int32 → Option Int32
  | 0, _, _, _, _ => none
  | fu + 1, x15, x16, x17, x18 =>
    gd (ix ((nI 9) + x13) 345) (
    if ((q_s ((nI 9) + x13).toNatClampNeg) - (nI 1)) ≤ x18 then
      k_60 x15 x16 x17
    else
      bd1 (f_X4_first Fu q_s x13) (fun r21 =>
      gd (ix (((nI 45) + r21) + x18) 345) (
      jn (fun (v27 : Int32) =>
        nm (if v27 = 0 then x17 else (if x15 = 0 then x18 else x17)) (fun v31 =>
        nm (if v27 = 0 then x16 else (if x15 = 0 then x13 else x16)) (fun v34 =>
        nm (if v27 = 0 then (nI 0) else nI 1) (fun v36 =>
        f_X4_sideBySide_L60 Fu k_60 q_s p1 p2 x13 fu (x15 + v36) v34 v31 (x18 + (nI 1))))))
        (fun j28 =>
        if (q_s (((nI 45) + r21) + x18).toNatClampNeg) = p1 then
          gd (ix ((((nI 45) + r21) + x18) + (nI 1)) 345) (
          if (q_s ((((nI 45) + r21) + x18) + (nI 1)).toNatClampNeg) = p2 then
            j28 (nI 1)
          else
            j28 (nI 0))
        else
          j28 (nI 0)))))
theorem f_X4_sideBySide_L60_s (Fu : Nat) (k_60 : Int32 → Int32 → Int32 → Option Int32) (q_s : Ar) (p1 : Int32) (p2 : Int32) (x13 : Int32) (fu : Nat) (x15 : Int32) (x16 : Int32) (x17 : Int32) (x18 : Int32) : f_X4_sideBySide_L60 Fu k_60 q_s p1 p2 x13 (fu + 1) x15 x16 x17 x18 =
    gd (ix ((nI 9) + x13) 345) (
    if ((q_s ((nI 9) + x13).toNatClampNeg) - (nI 1)) ≤ x18 then
      k_60 x15 x16 x17
    else
      bd1 (f_X4_first Fu q_s x13) (fun r21 =>
      gd (ix (((nI 45) + r21) + x18) 345) (
      jn (fun (v27 : Int32) =>
        nm (if v27 = 0 then x17 else (if x15 = 0 then x18 else x17)) (fun v31 =>
        nm (if v27 = 0 then x16 else (if x15 = 0 then x13 else x16)) (fun v34 =>
        nm (if v27 = 0 then (nI 0) else nI 1) (fun v36 =>
        f_X4_sideBySide_L60 Fu k_60 q_s p1 p2 x13 fu (x15 + v36) v34 v31 (x18 + (nI 1))))))
        (fun j28 =>
        if (q_s (((nI 45) + r21) + x18).toNatClampNeg) = p1 then
          gd (ix ((((nI 45) + r21) + x18) + (nI 1)) 345) (
          if (q_s ((((nI 45) + r21) + x18) + (nI 1)).toNatClampNeg) = p2 then
            j28 (nI 1)
          else
            j28 (nI 0))
        else
          j28 (nI 0))))) := rfl
def f_X4_sideBySide_L46 (Fu : Nat) (k_46 : Int32 → Int32 → Int32 → Option Int32) (q_s : Ar) (p1 : Int32) (p2 : Int32) : Nat → Int32 → Int32 → Int32 → Int32 → Option Int32
  | 0, _, _, _, _ => none
  | fu + 1, x10, x11, x12, x13 =>
    if (q_s 3) ≤ x13 then
      k_46 x10 x11 x12
    else
      jn (fun (v37 : Int32) (v38 : Int32) (v39 : Int32) =>
        f_X4_sideBySide_L46 Fu k_46 q_s p1 p2 fu v37 v38 v39 (x13 + (nI 1)))
        (fun k_60 => f_X4_sideBySide_L60 Fu k_60 q_s p1 p2 x13 Fu x10 x11 x12 (nI 0))
theorem f_X4_sideBySide_L46_s (Fu : Nat) (k_46 : Int32 → Int32 → Int32 → Option Int32) (q_s : Ar) (p1 : Int32) (p2 : Int32) (fu : Nat) (x10 : Int32) (x11 : Int32) (x12 : Int32) (x13 : Int32) : f_X4_sideBySide_L46 Fu k_46 q_s p1 p2 (fu + 1) x10 x11 x12 x13 =
    if (q_s 3) ≤ x13 then
      k_46 x10 x11 x12
    else
      jn (fun (v37 : Int32) (v38 : Int32) (v39 : Int32) =>
        f_X4_sideBySide_L46 Fu k_46 q_s p1 p2 fu v37 v38 v39 (x13 + (nI 1)))
        (fun k_60 => f_X4_sideBySide_L60 Fu k_60 q_s p1 p2 x13 Fu x10 x11 x12 (nI 0)) := rfl
def f_X4_sideBySide (Fu : Nat) (q_s : Ar) (p1 : Int32) (p2 : Int32) (p3 : Int32) : Option Int32 :=
  bd1 (f_X4_in Fu p1 (nI 0) (nI 25)) (fun r1 =>
  if r1 = 0 then
    some (-2)
  else
    bd1 (f_X4_in Fu p2 (nI 0) (nI 25)) (fun r4 =>
    if r4 = 0 then
      some (-2)
    else
      bd1 (f_X4_in Fu p3 (nI 0) (nI 2)) (fun r7 =>
      if r7 = 0 then
        some (-2)
      else
        jn (fun (v40 : Int32) (v41 : Int32) (v42 : Int32) =>
          nm (if p3 = 0 then v40 else (if p3 = (nI 1) then v41 else v42)) (fun v45 =>
          some (v45)))
          (fun k_46 => f_X4_sideBySide_L46 Fu k_46 q_s p1 p2 Fu (nI 0) (-6) (-6) (nI 0)))))
def f_X4_common_L77 (Fu : Nat) (k_77 : Int32 → Option Int32) (q_s : Ar) (p1 : Int32) (p2 : Int32) (r7 : Int32) (r9 : Int32) (x12 : Int32) (x16 : Int32) : Nat → Int32 → Option Int32
  | 0, _ => none
  | fu + 1, x19 =>
    gd (ix ((nI 9) + p1) 345) (
    if (q_s ((nI 9) + p1).toNatClampNeg) ≤ (x12 + x19) then
      k_77 x19
    else
      gd (ix ((nI 9) + p2) 345) (
      if (q_s ((nI 9) + p2).toNatClampNeg) ≤ (x16 + x19) then
        k_77 x19
      else
        gd (ix ((((nI 45) + r7) + x12) + x19) 345) (
        gd (ix ((((nI 45) + r9) + x16) + x19) 345) (
        if (q_s ((((nI 45) + r7) + x12) + x19).toNatClampNeg) = (q_s ((((nI 45) + r9) + x16) + x19).toNatClampNeg) then
          f_X4_common_L77 Fu k_77 q_s p1 p2 r7 r9 x12 x16 fu (x19 + (nI 1))
        else
          k_77 x19))))
theorem f_X4_common_L77_s (Fu : Nat) (k_77 : Int32 → Option Int32) (q_s : Ar) (p1 : Int32) (p2 : Int32) (r7 : Int32) (r9 : Int32) (x12 : Int32) (x16 : Int32) (fu : Nat) (x19 : Int32) : f_X4_common_L77 Fu k_77 q_s p1 p2 r7 r9 x12 x16 (fu + 1) x19 =
    gd (ix ((nI 9) + p1) 345) (
    if (q_s ((nI 9) + p1).toNatClampNeg) ≤ (x12 + x19) then
      k_77 x19
    else
      gd (ix ((nI 9) + p2) 345) (
      if (q_s ((nI 9) + p2).toNatClampNeg) ≤ (x16 + x19) then
        k_77 x19
      else
        gd (ix ((((nI 45) + r7) + x12) + x19) 345) (
        gd (ix ((((nI 45) + r9) + x16) + x19) 345) (
        if (q_s ((((nI 45) + r7) + x12) + x19).toNatClampNeg) = (q_s ((((nI 45) + r9) + x16) + x19).toNatClampNeg) then
          f_X4_common_L77 Fu k_77 q_s p1 p2 r7 r9 x12 x16 fu (x19 + (nI 1))
        else
          k_77 x19)))) := rfl
def f_X4_common_L60 (Fu : Nat) (k_60 : Int32 → Option Int32) (q_s : Ar) (p1 : Int32) (p2 : Int32) (r7 : Int32) (r9 : Int32) (x12 : Int32) : Nat → Int32 → Int32 → Option Int32
  | 0, _, _ => none
  | fu + 1, x15, x16 =>
    gd (ix ((nI 9) + p2) 345) (
    if (q_s ((nI 9) + p2).toNatClampNeg) ≤ x16 then
      k_60 x15
    else
      jn (fun (v27 : Int32) =>
        nm (if v27 ≤ x15 then x15 else v27) (fun v29 =>
        f_X4_common_L60 Fu k_60 q_s p1 p2 r7 r9 x12 fu v29 (x16 + (nI 1))))
        (fun k_77 => f_X4_common_L77 Fu k_77 q_s p1 p2 r7 r9 x12 x16 Fu (nI 0)))
theorem f_X4_common_L60_s (Fu : Nat) (k_60 : Int32 → Option Int32) (q_s : Ar) (p1 : Int32) (p2 : Int32) (r7 : Int32) (r9 : Int32) (x12 : Int32) (fu : Nat) (x15 : Int32) (x16 : Int32) : f_X4_common_L60 Fu k_60 q_s p1 p2 r7 r9 x12 (fu + 1) x15 x16 =
    gd (ix ((nI 9) + p2) 345) (
    if (q_s ((nI 9) + p2).toNatClampNeg) ≤ x16 then
      k_60 x15
    else
      jn (fun (v27 : Int32) =>
        nm (if v27 ≤ x15 then x15 else v27) (fun v29 =>
        f_X4_common_L60 Fu k_60 q_s p1 p2 r7 r9 x12 fu v29 (x16 + (nI 1))))
        (fun k_77 => f_X4_common_L77 Fu k_77 q_s p1 p2 r7 r9 x12 x16 Fu (nI 0))) := rfl
def f_X4_common_L43 (Fu : Nat) (k_43 : Int32 → Option Int32) (q_s : Ar) (p1 : Int32) (p2 : Int32) (r7 : Int32) (r9 : Int32) : Nat → Int32 → Int32 → Option Int32
  | 0, _, _ => none
  | fu + 1, x11, x12 =>
    gd (ix ((nI 9) + p1) 345) (
    if (q_s ((nI 9) + p1).toNatClampNeg) ≤ x12 then
      k_43 x11
    else
      jn (fun (v30 : Int32) =>
        f_X4_common_L43 Fu k_43 q_s p1 p2 r7 r9 fu v30 (x12 + (nI 1)))
        (fun k_60 => f_X4_common_L60 Fu k_60 q_s p1 p2 r7 r9 x12 Fu x11 (nI 0)))
theorem f_X4_common_L43_s (Fu : Nat) (k_43 : Int32 → Option Int32) (q_s : Ar) (p1 : Int32) (p2 : Int32) (r7 : Int32) (r9 : Int32) (fu : Nat) (x11 : Int32) (x12 : Int32) : f_X4_common_L43 Fu k_43 q_s p1 p2 r7 r9 (fu + 1) x11 x12 =
    gd (ix ((nI 9) + p1) 345) (
    if (q_s ((nI 9) + p1).toNatClampNeg) ≤ x12 then
      k_43 x11
    else
      jn (fun (v30 : Int32) =>
        f_X4_common_L43 Fu k_43 q_s p1 p2 r7 r9 fu v30 (x12 + (nI 1)))
        (fun k_60 => f_X4_common_L60 Fu k_60 q_s p1 p2 r7 r9 x12 Fu x11 (nI 0))) := rfl
def f_X4_common (Fu : Nat) (q_s : Ar) (p1 : Int32) (p2 : Int32) : Option Int32 :=
  bd1 (f_X4_isStory Fu q_s p1) (fun r1 =>
  if r1 = 0 then
    some (-1)
  else
    bd1 (f_X4_isStory Fu q_s p2) (fun r4 =>
    if r4 = 0 then
      some (-1)
    else
      bd1 (f_X4_first Fu q_s p1) (fun r7 =>
      bd1 (f_X4_first Fu q_s p2) (fun r9 =>
      jn (fun (v31 : Int32) =>
        some (v31))
        (fun k_43 => f_X4_common_L43 Fu k_43 q_s p1 p2 r7 r9 Fu (nI 0) (nI 0))))))
def f_X4_tryHeat (Fu : Nat) (q_s : Ar) (q_aside : Ar) (q_reactions : Int32) (q_newSplits : Int32) (q_storiesThen : Int32) (q_heatThen : Int32) (p1 : Int32) (p2 : Int32) : Option (Ar × Ar × Int32 × Int32 × Int32 × Int32) :=
  bd1 (f_X4_putAside Fu q_s q_aside) (fun q_aside_1 =>
  bd1 (f_X4_warm Fu q_s p1 p2) (fun q_s_3 =>
  bd2 (f_X4_react Fu q_s_3) (fun r5 q_s_6 =>
  bd1 (f_X4_allHeat Fu q_s_6) (fun r8 =>
  bd1 (f_X4_putBack Fu q_s_6 q_aside_1) (fun q_s_10 =>
  some (q_s_10, q_aside_1, r5, (q_s_6 6) - (q_aside_1 6), q_s_6 3, r8))))))
def f_X4_ifHeated (Fu : Nat) (q_s : Ar) (q_aside : Ar) (q_reactions : Int32) (q_newSplits : Int32) (q_storiesThen : Int32) (q_heatThen : Int32) (p1 : Int32) (p2 : Int32) (p3 : Int32) (p4 : Int32) : Option (Int32 × Ar × Ar × Int32 × Int32 × Int32 × Int32) :=
  bd1 (f_X4_isWord Fu q_s p1 p2) (fun r1 =>
  if r1 = 0 then
    some (-1, q_s, q_aside, q_reactions, q_newSplits, q_storiesThen, q_heatThen)
  else
    bd1 (f_X4_in Fu p3 (nI 1) (nI 500)) (fun r4 =>
    if r4 = 0 then
      some (-2, q_s, q_aside, q_reactions, q_newSplits, q_storiesThen, q_heatThen)
    else
      bd1 (f_X4_in Fu p4 (nI 0) (nI 3)) (fun r7 =>
      if r7 = 0 then
        some (-2, q_s, q_aside, q_reactions, q_newSplits, q_storiesThen, q_heatThen)
      else
        bd1 (f_X4_first Fu q_s p1) (fun r10 =>
        bd6 (f_X4_tryHeat Fu q_s q_aside q_reactions q_newSplits q_storiesThen q_heatThen (r10 + p2) p3) (fun q_s_12 q_aside_13 q_reactions_14 q_newSplits_15 q_storiesThen_16 q_heatThen_17 =>
        nm (if p4 = 0 then q_reactions_14 else (if p4 = (nI 1) then q_newSplits_15 else (if p4 = (nI 2) then q_storiesThen_16 else q_heatThen_17))) (fun v22 =>
        some (v22, q_s_12, q_aside_13, q_reactions_14, q_newSplits_15, q_storiesThen_16, q_heatThen_17)))))))
def f_X4_critical_L13 (Fu : Nat) (p1 : Int32) (p2 : Int32) : Nat → Int32 → Ar → Ar → Int32 → Int32 → Int32 → Int32 → Option (Int32 × Ar × Ar × Int32 × Int32 × Int32 × Int32)
  | 0, _, _, _, _, _, _, _ => none
  | fu + 1, x4, q_s_5, q_aside_6, q_reactions_7, q_newSplits_8, q_storiesThen_9, q_heatThen_10 =>
    if (nI 500) < x4 then
      some (-6, q_s_5, q_aside_6, q_reactions_7, q_newSplits_8, q_storiesThen_9, q_heatThen_10)
    else
      bd1 (f_X4_first Fu q_s_5 p1) (fun r12 =>
      bd6 (f_X4_tryHeat Fu q_s_5 q_aside_6 q_reactions_7 q_newSplits_8 q_storiesThen_9 q_heatThen_10 (r12 + p2) x4) (fun q_s_14 q_aside_15 q_reactions_16 q_newSplits_17 q_storiesThen_18 q_heatThen_19 =>
      if q_newSplits_17 ≤ 0 then
        f_X4_critical_L13 Fu p1 p2 fu (x4 + (nI 1)) q_s_14 q_aside_15 q_reactions_16 q_newSplits_17 q_storiesThen_18 q_heatThen_19
      else
        some (x4, q_s_14, q_aside_15, q_reactions_16, q_newSplits_17, q_storiesThen_18, q_heatThen_19)))
theorem f_X4_critical_L13_s (Fu : Nat) (p1 : Int32) (p2 : Int32) (fu : Nat) (x4 : Int32) (q_s_5 : Ar) (q_aside_6 : Ar) (q_reactions_7 : Int32) (q_newSplits_8 : Int32) (q_storiesThen_9 : Int32) (q_heatThen_10 : Int32) : f_X4_critical_L13 Fu p1 p2 (fu + 1) x4 q_s_5 q_aside_6 q_reactions_7 q_newSplits_8 q_storiesThen_9 q_heatThen_10 =
    if (nI 500) < x4 then
      some (-6, q_s_5, q_aside_6, q_reactions_7, q_newSplits_8, q_storiesThen_9, q_heatThen_10)
    else
      bd1 (f_X4_first Fu q_s_5 p1) (fun r12 =>
      bd6 (f_X4_tryHeat Fu q_s_5 q_aside_6 q_reactions_7 q_newSplits_8 q_storiesThen_9 q_heatThen_10 (r12 + p2) x4) (fun q_s_14 q_aside_15 q_reactions_16 q_newSplits_17 q_storiesThen_18 q_heatThen_19 =>
      if q_newSplits_17 ≤ 0 then
        f_X4_critical_L13 Fu p1 p2 fu (x4 + (nI 1)) q_s_14 q_aside_15 q_reactions_16 q_newSplits_17 q_storiesThen_18 q_heatThen_19
      else
        some (x4, q_s_14, q_aside_15, q_reactions_16, q_newSplits_17, q_storiesThen_18, q_heatThen_19))) := rfl
def f_X4_critical (Fu : Nat) (q_s : Ar) (q_aside : Ar) (q_reactions : Int32) (q_newSplits : Int32) (q_storiesThen : Int32) (q_heatThen : Int32) (p1 : Int32) (p2 : Int32) : Option (Int32 × Ar × Ar × Int32 × Int32 × Int32 × Int32) :=
  bd1 (f_X4_isWord Fu q_s p1 p2) (fun r1 =>
  if r1 = 0 then
    some (-1, q_s, q_aside, q_reactions, q_newSplits, q_storiesThen, q_heatThen)
  else
    f_X4_critical_L13 Fu p1 p2 Fu (nI 1) q_s q_aside q_reactions q_newSplits q_storiesThen q_heatThen)
def f_X4_touchiest_L32 (Fu : Nat) (k_32 : Int32 → Int32 → Ar → Ar → Int32 → Int32 → Int32 → Int32 → Option (Int32 × Ar × Ar × Int32 × Int32 × Int32 × Int32)) (p1 : Int32) : Nat → Int32 → Int32 → Int32 → Ar → Ar → Int32 → Int32 → Int32 → Int32 → Option (Int32 × Ar × Ar × Int32 × Int32 × Int32 × Int32)
  | 0, _, _, _, _, _, _, _, _, _ => none
  | fu + 1, x7, x8, x9, q_s_10, q_aside_11, q_reactions_12, q_newSplits_13, q_storiesThen_14, q_heatThen_15 =>
    if (q_s_10 4) ≤ x9 then
      k_32 x7 x8 q_s_10 q_aside_11 q_reactions_12 q_newSplits_13 q_storiesThen_14 q_heatThen_15
    else
      bd6 (f_X4_tryHeat Fu q_s_10 q_aside_11 q_reactions_12 q_newSplits_13 q_storiesThen_14 q_heatThen_15 x9 p1) (fun q_s_17 q_aside_18 q_reactions_19 q_newSplits_20 q_storiesThen_21 q_heatThen_22 =>
      nm (if q_reactions_19 ≤ x8 then x7 else x9) (fun v25 =>
      nm (if q_reactions_19 ≤ x8 then x8 else q_reactions_19) (fun v27 =>
      f_X4_touchiest_L32 Fu k_32 p1 fu v25 v27 (x9 + (nI 1)) q_s_17 q_aside_18 q_reactions_19 q_newSplits_20 q_storiesThen_21 q_heatThen_22)))
theorem f_X4_touchiest_L32_s (Fu : Nat) (k_32 : Int32 → Int32 → Ar → Ar → Int32 → Int32 → Int32 → Int32 → Option (Int32 × Ar × Ar × Int32 × Int32 × Int32 × Int32)) (p1 : Int32) (fu : Nat) (x7 : Int32) (x8 : Int32) (x9 : Int32) (q_s_10 : Ar) (q_aside_11 : Ar) (q_reactions_12 : Int32) (q_newSplits_13 : Int32) (q_storiesThen_14 : Int32) (q_heatThen_15 : Int32) : f_X4_touchiest_L32 Fu k_32 p1 (fu + 1) x7 x8 x9 q_s_10 q_aside_11 q_reactions_12 q_newSplits_13 q_storiesThen_14 q_heatThen_15 =
    if (q_s_10 4) ≤ x9 then
      k_32 x7 x8 q_s_10 q_aside_11 q_reactions_12 q_newSplits_13 q_storiesThen_14 q_heatThen_15
    else
      bd6 (f_X4_tryHeat Fu q_s_10 q_aside_11 q_reactions_12 q_newSplits_13 q_storiesThen_14 q_heatThen_15 x9 p1) (fun q_s_17 q_aside_18 q_reactions_19 q_newSplits_20 q_storiesThen_21 q_heatThen_22 =>
      nm (if q_reactions_19 ≤ x8 then x7 else x9) (fun v25 =>
      nm (if q_reactions_19 ≤ x8 then x8 else q_reactions_19) (fun v27 =>
      f_X4_touchiest_L32 Fu k_32 p1 fu v25 v27 (x9 + (nI 1)) q_s_17 q_aside_18 q_reactions_19 q_newSplits_20 q_storiesThen_21 q_heatThen_22))) := rfl
def f_X4_touchiest (Fu : Nat) (q_s : Ar) (q_aside : Ar) (q_reactions : Int32) (q_newSplits : Int32) (q_storiesThen : Int32) (q_heatThen : Int32) (p1 : Int32) (p2 : Int32) : Option (Int32 × Ar × Ar × Int32 × Int32 × Int32 × Int32) :=
  bd1 (f_X4_in Fu p1 (nI 1) (nI 500)) (fun r1 =>
  if r1 = 0 then
    some (-2, q_s, q_aside, q_reactions, q_newSplits, q_storiesThen, q_heatThen)
  else
    bd1 (f_X4_in Fu p2 (nI 0) (nI 2)) (fun r4 =>
    if r4 = 0 then
      some (-2, q_s, q_aside, q_reactions, q_newSplits, q_storiesThen, q_heatThen)
    else
      jn (fun (v28 : Int32) (v29 : Int32) (q_s_30 : Ar) (q_aside_31 : Ar) (q_reactions_32 : Int32) (q_newSplits_33 : Int32) (q_storiesThen_34 : Int32) (q_heatThen_35 : Int32) =>
        jn (fun (v45 : Int32) =>
          some (v45, q_s_30, q_aside_31, q_reactions_32, q_newSplits_33, q_storiesThen_34, q_heatThen_35))
          (fun j46 =>
          if v28 = (-6) then
            j46 (-6)
          else
            if p2 = 0 then
              bd1 (f_X4_storyOf Fu q_s_30 v28) (fun r43 =>
              j46 r43)
            else
              if p2 = (nI 1) then
                bd1 (f_X4_storyOf Fu q_s_30 v28) (fun r39 =>
                bd1 (f_X4_first Fu q_s_30 r39) (fun r41 =>
                j46 (v28 - r41)))
              else
                j46 v29))
        (fun k_32 => f_X4_touchiest_L32 Fu k_32 p1 Fu (-6) (-1) (nI 0) q_s q_aside q_reactions q_newSplits q_storiesThen q_heatThen)))
def f_X4_coolestPair_L41 (Fu : Nat) (k_41 : Int32 → Int32 → Int32 → Option Int32) (q_s : Ar) (x7 : Int32) : Nat → Int32 → Int32 → Int32 → Int32 → Option Int32
  | 0, _, _, _, _ => none
  | fu + 1, x9, x10, x11, x12 =>
    if (q_s 3) ≤ x12 then
      k_41 x9 x10 x11
    else
      bd1 (f_X4_heatOf Fu q_s x7) (fun r14 =>
      bd1 (f_X4_heatOf Fu q_s x12) (fun r16 =>
      bd1 (f_X4_theme Fu q_s x7) (fun r18 =>
      bd1 (f_X4_theme Fu q_s x12) (fun r20 =>
      nm (if r18 = r20 then (if x9 = (-6) then (nI 1) else (if x11 ≤ (r14 + r16) then (nI 0) else nI 1)) else nI 0) (fun v25 =>
      nm (if v25 = 0 then x9 else x7) (fun v27 =>
      nm (if v25 = 0 then x10 else x12) (fun v29 =>
      nm (if v25 = 0 then x11 else r14 + r16) (fun v31 =>
      f_X4_coolestPair_L41 Fu k_41 q_s x7 fu v27 v29 v31 (x12 + (nI 1))))))))))
theorem f_X4_coolestPair_L41_s (Fu : Nat) (k_41 : Int32 → Int32 → Int32 → Option Int32) (q_s : Ar) (x7 : Int32) (fu : Nat) (x9 : Int32) (x10 : Int32) (x11 : Int32) (x12 : Int32) : f_X4_coolestPair_L41 Fu k_41 q_s x7 (fu + 1) x9 x10 x11 x12 =
    if (q_s 3) ≤ x12 then
      k_41 x9 x10 x11
    else
      bd1 (f_X4_heatOf Fu q_s x7) (fun r14 =>
      bd1 (f_X4_heatOf Fu q_s x12) (fun r16 =>
      bd1 (f_X4_theme Fu q_s x7) (fun r18 =>
      bd1 (f_X4_theme Fu q_s x12) (fun r20 =>
      nm (if r18 = r20 then (if x9 = (-6) then (nI 1) else (if x11 ≤ (r14 + r16) then (nI 0) else nI 1)) else nI 0) (fun v25 =>
      nm (if v25 = 0 then x9 else x7) (fun v27 =>
      nm (if v25 = 0 then x10 else x12) (fun v29 =>
      nm (if v25 = 0 then x11 else r14 + r16) (fun v31 =>
      f_X4_coolestPair_L41 Fu k_41 q_s x7 fu v27 v29 v31 (x12 + (nI 1)))))))))) := rfl
def f_X4_coolestPair_L24 (Fu : Nat) (k_24 : Int32 → Int32 → Option Int32) (q_s : Ar) : Nat → Int32 → Int32 → Int32 → Int32 → Option Int32
  | 0, _, _, _, _ => none
  | fu + 1, x4, x5, x6, x7 =>
    if (q_s 3) ≤ x7 then
      k_24 x4 x5
    else
      jn (fun (v32 : Int32) (v33 : Int32) (v34 : Int32) =>
        f_X4_coolestPair_L24 Fu k_24 q_s fu v32 v33 v34 (x7 + (nI 1)))
        (fun k_41 => f_X4_coolestPair_L41 Fu k_41 q_s x7 Fu x4 x5 x6 (x7 + (nI 1)))
theorem f_X4_coolestPair_L24_s (Fu : Nat) (k_24 : Int32 → Int32 → Option Int32) (q_s : Ar) (fu : Nat) (x4 : Int32) (x5 : Int32) (x6 : Int32) (x7 : Int32) : f_X4_coolestPair_L24 Fu k_24 q_s (fu + 1) x4 x5 x6 x7 =
    if (q_s 3) ≤ x7 then
      k_24 x4 x5
    else
      jn (fun (v32 : Int32) (v33 : Int32) (v34 : Int32) =>
        f_X4_coolestPair_L24 Fu k_24 q_s fu v32 v33 v34 (x7 + (nI 1)))
        (fun k_41 => f_X4_coolestPair_L41 Fu k_41 q_s x7 Fu x4 x5 x6 (x7 + (nI 1))) := rfl
def f_X4_coolestPair (Fu : Nat) (q_s : Ar) (p1 : Int32) : Option Int32 :=
  bd1 (f_X4_in Fu p1 (nI 0) (nI 1)) (fun r1 =>
  if r1 = 0 then
    some (-2)
  else
    jn (fun (v35 : Int32) (v36 : Int32) =>
      nm (if p1 = 0 then v35 else v36) (fun v38 =>
      some (v38)))
      (fun k_24 => f_X4_coolestPair_L24 Fu k_24 q_s Fu (-6) (-6) (nI 0) (nI 0)))
def f_X4_put_L8 (Fu : Nat) (k_8 : Int32 → Int32 → Option (Int32 × Ar × Int32)) (p1 : Int64) : Nat → Int32 → Int32 → Int32 → Option (Int32 × Ar × Int32)
  | 0, _, _, _ => none
  | fu + 1, x1, x2, x3 =>
    if (nI 8) ≤ x3 then
      k_8 x1 x2
    else
      nm (((((lushr p1 ((nI 8) * x3)) &&& (lN 255))).toInt32)) (fun v5 =>
      nm (if x3 ≤ 0 then (nI 0) else (if (lg_cmp (lushr p1 ((nI 8) * x3)) (lN 0)) = 0 then (nI 1) else nI 0)) (fun v8 =>
      jn (fun (v14 : Int32) =>
        nm (if v8 = 0 then (nI 1) else nI 0) (fun v17 =>
        f_X4_put_L8 Fu k_8 p1 fu (x1 + v17) v14 (x3 + (nI 1))))
        (fun j15 =>
        if x2 = 0 then
          if v8 = 0 then
            bd1 (f_X4_in Fu v5 (nI 33) (nI 126)) (fun r11 =>
            if r11 = 0 then
              j15 (nI 1)
            else
              j15 (nI 0))
          else
            j15 (nI 0)
        else
          j15 (nI 1))))
theorem f_X4_put_L8_s (Fu : Nat) (k_8 : Int32 → Int32 → Option (Int32 × Ar × Int32)) (p1 : Int64) (fu : Nat) (x1 : Int32) (x2 : Int32) (x3 : Int32) : f_X4_put_L8 Fu k_8 p1 (fu + 1) x1 x2 x3 =
    if (nI 8) ≤ x3 then
      k_8 x1 x2
    else
      nm (((((lushr p1 ((nI 8) * x3)) &&& (lN 255))).toInt32)) (fun v5 =>
      nm (if x3 ≤ 0 then (nI 0) else (if (lg_cmp (lushr p1 ((nI 8) * x3)) (lN 0)) = 0 then (nI 1) else nI 0)) (fun v8 =>
      jn (fun (v14 : Int32) =>
        nm (if v8 = 0 then (nI 1) else nI 0) (fun v17 =>
        f_X4_put_L8 Fu k_8 p1 fu (x1 + v17) v14 (x3 + (nI 1))))
        (fun j15 =>
        if x2 = 0 then
          if v8 = 0 then
            bd1 (f_X4_in Fu v5 (nI 33) (nI 126)) (fun r11 =>
            if r11 = 0 then
              j15 (nI 1)
            else
              j15 (nI 0))
          else
            j15 (nI 0)
        else
          j15 (nI 1)))) := rfl
def f_X4_put_L126 (Fu : Nat) (k_126 : Ar → Option (Int32 × Ar × Int32)) (q_length : Int32) (p1 : Int64) (v18 : Int32) : Nat → Int32 → Ar → Option (Int32 × Ar × Int32)
  | 0, _, _ => none
  | fu + 1, x22, q_pad_23 =>
    if v18 ≤ x22 then
      k_126 q_pad_23
    else
      gd (ix (((q_length + v18) - (nI 1)) - x22) 60) (
      nm ((upd q_pad_23 (((q_length + v18) - (nI 1)) - x22).toNatClampNeg ((((lushr p1 ((nI 8) * x22)) &&& (lN 255))).toInt32))) (fun (q_pad_26 : Ar) =>
      f_X4_put_L126 Fu k_126 q_length p1 v18 fu (x22 + (nI 1)) q_pad_26))
theorem f_X4_put_L126_s (Fu : Nat) (k_126 : Ar → Option (Int32 × Ar × Int32)) (q_length : Int32) (p1 : Int64) (v18 : Int32) (fu : Nat) (x22 : Int32) (q_pad_23 : Ar) : f_X4_put_L126 Fu k_126 q_length p1 v18 (fu + 1) x22 q_pad_23 =
    if v18 ≤ x22 then
      k_126 q_pad_23
    else
      gd (ix (((q_length + v18) - (nI 1)) - x22) 60) (
      nm ((upd q_pad_23 (((q_length + v18) - (nI 1)) - x22).toNatClampNeg ((((lushr p1 ((nI 8) * x22)) &&& (lN 255))).toInt32))) (fun (q_pad_26 : Ar) =>
      f_X4_put_L126 Fu k_126 q_length p1 v18 fu (x22 + (nI 1)) q_pad_26)) := rfl
def f_X4_put (Fu : Nat) (q_pad : Ar) (q_length : Int32) (p1 : Int64) : Option (Int32 × Ar × Int32) :=
  jn (fun (v18 : Int32) (v19 : Int32) =>
    if v19 = 0 then
      if (q_length + v18) ≤ (nI 60) then
        jn (fun (q_pad_27 : Ar) =>
          some (q_length + v18, q_pad_27, q_length + v18))
          (fun k_126 => f_X4_put_L126 Fu k_126 q_length p1 v18 Fu (nI 0) q_pad)
      else
        some (-4, q_pad, q_length)
    else
      some (-2, q_pad, q_length))
    (fun k_8 => f_X4_put_L8 Fu k_8 p1 Fu (nI 0) (nI 0) (nI 0))
def f_X4_wipe (Fu : Nat) (q_length : Int32) : Option (Int32 × Int32) :=
  some (q_length, nI 0)
def f_X4_sign (Fu : Nat) (q_pad : Ar) (q_length : Int32) (q_place : Int32) (q_isWrong : Int32) (p1 : Int32) (p2 : Int32) : Option (Int32 × Int32 × Int32) :=
  jn (fun (v3 : Int32) =>
    jn (fun (v9 : Int32) =>
      gd (bz v9) (
      nm (if v9 = 0 then (nI 1) else nI 0) (fun v13 =>
      some (v3, q_place + v13, v9))))
      (fun j10 =>
      if q_isWrong = 0 then
        bd1 (f_X4_in Fu v3 p1 p2) (fun r6 =>
        if r6 = 0 then
          j10 (nI 1)
        else
          j10 (nI 0))
      else
        j10 (nI 1)))
    (fun j4 =>
    if q_length ≤ q_place then
      j4 (nI 0)
    else
      gd (ix q_place 60) (
      j4 (q_pad (q_place).toNatClampNeg)))
def f_X4_isNext (Fu : Nat) (q_pad : Ar) (q_length : Int32) (q_place : Int32) (q_isWrong : Int32) (p1 : Int32) (p2 : Int32) : Option Int32 :=
  jn (fun (v7 : Int32) =>
    gd (bz v7) (some (v7)))
    (fun j8 =>
    if q_isWrong = 0 then
      if q_length ≤ q_place then
        j8 (nI 0)
      else
        gd (ix q_place 60) (
        bd1 (f_X4_in Fu (q_pad (q_place).toNatClampNeg) p1 p2) (fun r4 =>
        if r4 = 0 then
          j8 (nI 0)
        else
          j8 (nI 1)))
    else
      j8 (nI 0))
def f_X4_readPad_L22 (Fu : Nat) (k_22 : Int32 → Int32 → Ar → Ar → Ar → Int32 → Int32 → Option (Int32 × Int32 × Ar × Ar × Ar × Int32 × Int32)) (q_pad : Ar) (q_length : Int32) : Nat → Int32 → Int32 → Int32 → Ar → Ar → Ar → Int32 → Int32 → Option (Int32 × Int32 × Ar × Ar × Ar × Int32 × Int32)
  | 0, _, _, _, _, _, _, _, _ => none
  | fu + 1, x1, q_place_2, q_isWrong_3, q_toldLetter_4, q_toldHeat_5, q_toldStory_6, q_toldWords_7, q_toldStories_8 =>
    if x1 = 0 then
      k_22 q_place_2 q_isWrong_3 q_toldLetter_4 q_toldHeat_5 q_toldStory_6 q_toldWords_7 q_toldStories_8
    else
      bd3 (f_X4_sign Fu q_pad q_length q_place_2 q_isWrong_3 (nI 97) (nI 122)) (fun r10 q_place_11 q_isWrong_12 =>
      bd1 (f_X4_isNext Fu q_pad q_length q_place_11 q_isWrong_12 (nI 49) (nI 57)) (fun r14 =>
      jn (fun (v21 : Int32) (q_place_22 : Int32) (q_isWrong_23 : Int32) =>
        jn (fun (v33 : Int32) (q_place_34 : Int32) (q_isWrong_35 : Int32) =>
          gd (ix q_toldWords_7 61) (
          nm ((upd q_toldLetter_4 (q_toldWords_7).toNatClampNeg (r10 - (nI 97)))) (fun (q_toldLetter_38 : Ar) =>
          gd (ix q_toldWords_7 61) (
          gd (ix q_toldWords_7 61) (
          nm ((upd q_toldStory_6 (q_toldWords_7).toNatClampNeg (q_toldStories_8 - (nI 1)))) (fun (q_toldStory_41 : Ar) =>
          bd1 (f_X4_isNext Fu q_pad q_length q_place_34 q_isWrong_35 (nI 47) (nI 47)) (fun r42 =>
          jn (fun (v52 : Int32) (q_place_53 : Int32) (q_isWrong_54 : Int32) (q_toldStories_55 : Int32) =>
            f_X4_readPad_L22 Fu k_22 q_pad q_length fu v52 q_place_53 q_isWrong_54 q_toldLetter_38 (upd q_toldHeat_5 (q_toldWords_7).toNatClampNeg v33) q_toldStory_41 (q_toldWords_7 + (nI 1)) q_toldStories_55)
            (fun j56 =>
            if r42 = 0 then
              nm (if q_isWrong_35 = 0 then (if q_length ≤ q_place_34 then (nI 0) else nI 1) else nI 0) (fun v47 =>
              j56 v47 q_place_34 q_isWrong_35 q_toldStories_8)
            else
              bd3 (f_X4_sign Fu q_pad q_length q_place_34 q_isWrong_35 (nI 47) (nI 47)) (fun r48 q_place_49 q_isWrong_50 =>
              j56 (nI 1) q_place_49 q_isWrong_50 (q_toldStories_8 + (nI 1)))))))))))
          (fun j36 =>
          if v21 ≤ 0 then
            j36 v21 q_place_22 q_isWrong_23
          else
            bd1 (f_X4_isNext Fu q_pad q_length q_place_22 q_isWrong_23 (nI 48) (nI 57)) (fun r26 =>
            if r26 = 0 then
              j36 v21 q_place_22 q_isWrong_23
            else
              bd3 (f_X4_sign Fu q_pad q_length q_place_22 q_isWrong_23 (nI 48) (nI 57)) (fun r29 q_place_30 q_isWrong_31 =>
              j36 ((((nI 10) * v21) + r29) - (nI 48)) q_place_30 q_isWrong_31))))
        (fun j24 =>
        if r14 = 0 then
          j24 (nI 0) q_place_11 q_isWrong_12
        else
          bd3 (f_X4_sign Fu q_pad q_length q_place_11 q_isWrong_12 (nI 49) (nI 57)) (fun r17 q_place_18 q_isWrong_19 =>
          j24 (r17 - (nI 48)) q_place_18 q_isWrong_19))))
theorem f_X4_readPad_L22_s (Fu : Nat) (k_22 : Int32 → Int32 → Ar → Ar → Ar → Int32 → Int32 → Option (Int32 × Int32 × Ar × Ar × Ar × Int32 × Int32)) (q_pad : Ar) (q_length : Int32) (fu : Nat) (x1 : Int32) (q_place_2 : Int32) (q_isWrong_3 : Int32) (q_toldLetter_4 : Ar) (q_toldHeat_5 : Ar) (q_toldStory_6 : Ar) (q_toldWords_7 : Int32) (q_toldStories_8 : Int32) : f_X4_readPad_L22 Fu k_22 q_pad q_length (fu + 1) x1 q_place_2 q_isWrong_3 q_toldLetter_4 q_toldHeat_5 q_toldStory_6 q_toldWords_7 q_toldStories_8 =
    if x1 = 0 then
      k_22 q_place_2 q_isWrong_3 q_toldLetter_4 q_toldHeat_5 q_toldStory_6 q_toldWords_7 q_toldStories_8
    else
      bd3 (f_X4_sign Fu q_pad q_length q_place_2 q_isWrong_3 (nI 97) (nI 122)) (fun r10 q_place_11 q_isWrong_12 =>
      bd1 (f_X4_isNext Fu q_pad q_length q_place_11 q_isWrong_12 (nI 49) (nI 57)) (fun r14 =>
      jn (fun (v21 : Int32) (q_place_22 : Int32) (q_isWrong_23 : Int32) =>
        jn (fun (v33 : Int32) (q_place_34 : Int32) (q_isWrong_35 : Int32) =>
          gd (ix q_toldWords_7 61) (
          nm ((upd q_toldLetter_4 (q_toldWords_7).toNatClampNeg (r10 - (nI 97)))) (fun (q_toldLetter_38 : Ar) =>
          gd (ix q_toldWords_7 61) (
          gd (ix q_toldWords_7 61) (
          nm ((upd q_toldStory_6 (q_toldWords_7).toNatClampNeg (q_toldStories_8 - (nI 1)))) (fun (q_toldStory_41 : Ar) =>
          bd1 (f_X4_isNext Fu q_pad q_length q_place_34 q_isWrong_35 (nI 47) (nI 47)) (fun r42 =>
          jn (fun (v52 : Int32) (q_place_53 : Int32) (q_isWrong_54 : Int32) (q_toldStories_55 : Int32) =>
            f_X4_readPad_L22 Fu k_22 q_pad q_length fu v52 q_place_53 q_isWrong_54 q_toldLetter_38 (upd q_toldHeat_5 (q_toldWords_7).toNatClampNeg v33) q_toldStory_41 (q_toldWords_7 + (nI 1)) q_toldStories_55)
            (fun j56 =>
            if r42 = 0 then
              nm (if q_isWrong_35 = 0 then (if q_length ≤ q_place_34 then (nI 0) else nI 1) else nI 0) (fun v47 =>
              j56 v47 q_place_34 q_isWrong_35 q_toldStories_8)
            else
              bd3 (f_X4_sign Fu q_pad q_length q_place_34 q_isWrong_35 (nI 47) (nI 47)) (fun r48 q_place_49 q_isWrong_50 =>
              j56 (nI 1) q_place_49 q_isWrong_50 (q_toldStories_8 + (nI 1)))))))))))
          (fun j36 =>
          if v21 ≤ 0 then
            j36 v21 q_place_22 q_isWrong_23
          else
            bd1 (f_X4_isNext Fu q_pad q_length q_place_22 q_isWrong_23 (nI 48) (nI 57)) (fun r26 =>
            if r26 = 0 then
              j36 v21 q_place_22 q_isWrong_23
            else
              bd3 (f_X4_sign Fu q_pad q_length q_place_22 q_isWrong_23 (nI 48) (nI 57)) (fun r29 q_place_30 q_isWrong_31 =>
              j36 ((((nI 10) * v21) + r29) - (nI 48)) q_place_30 q_isWrong_31))))
        (fun j24 =>
        if r14 = 0 then
          j24 (nI 0) q_place_11 q_isWrong_12
        else
          bd3 (f_X4_sign Fu q_pad q_length q_place_11 q_isWrong_12 (nI 49) (nI 57)) (fun r17 q_place_18 q_isWrong_19 =>
          j24 (r17 - (nI 48)) q_place_18 q_isWrong_19)))) := rfl
def f_X4_readPad (Fu : Nat) (q_pad : Ar) (q_length : Int32) (q_place : Int32) (q_isWrong : Int32) (q_toldLetter : Ar) (q_toldHeat : Ar) (q_toldStory : Ar) (q_toldWords : Int32) (q_toldStories : Int32) : Option (Int32 × Int32 × Ar × Ar × Ar × Int32 × Int32) :=
  jn (fun (q_place_57 : Int32) (q_isWrong_58 : Int32) (q_toldLetter_59 : Ar) (q_toldHeat_60 : Ar) (q_toldStory_61 : Ar) (q_toldWords_62 : Int32) (q_toldStories_63 : Int32) =>
    some (q_place_57, q_isWrong_58, q_toldLetter_59, q_toldHeat_60, q_toldStory_61, q_toldWords_62, q_toldStories_63))
    (fun k_22 => f_X4_readPad_L22 Fu k_22 q_pad q_length Fu (nI 1) (nI 0) (nI 0) q_toldLetter q_toldHeat q_toldStory (nI 0) (nI 1))
def f_X4_fault (Fu : Nat) (q_pad : Ar) (q_length : Int32) (q_place : Int32) (q_isWrong : Int32) (q_toldLetter : Ar) (q_toldHeat : Ar) (q_toldStory : Ar) (q_toldWords : Int32) (q_toldStories : Int32) : Option (Int32 × Int32 × Int32 × Ar × Ar × Ar × Int32 × Int32) :=
  bd7 (f_X4_readPad Fu q_pad q_length q_place q_isWrong q_toldLetter q_toldHeat q_toldStory q_toldWords q_toldStories) (fun q_place_1 q_isWrong_2 q_toldLetter_3 q_toldHeat_4 q_toldStory_5 q_toldWords_6 q_toldStories_7 =>
  nm (if q_isWrong_2 = 0 then -6 else q_place_1) (fun v10 =>
  some (v10, q_place_1, q_isWrong_2, q_toldLetter_3, q_toldHeat_4, q_toldStory_5, q_toldWords_6, q_toldStories_7)))
def f_X4_write_L63 (Fu : Nat) (k_63 : Ar → Option (Int32 × Ar × Ar × Int32 × Int32 × Int32 × Int32 × Ar × Ar × Ar × Int32 × Int32)) (q_s : Ar) (q_toldStories_7 : Int32) : Nat → Int32 → Ar → Option (Int32 × Ar × Ar × Int32 × Int32 × Int32 × Int32 × Ar × Ar × Ar × Int32 × Int32)
  | 0, _, _ => none
  | fu + 1, x15, q_s_16 =>
    if q_toldStories_7 ≤ x15 then
      k_63 q_s_16
    else
      gd (ix (((nI 9) + (q_s 3)) + x15) 345) (
      gd (ix (((nI 21) + (q_s 3)) + x15) 345) (
      nm ((upd (upd q_s_16 (((nI 9) + (q_s 3)) + x15).toNatClampNeg (nI 0)) (((nI 21) + (q_s 3)) + x15).toNatClampNeg ((upd q_s_16 (((nI 9) + (q_s 3)) + x15).toNatClampNeg (nI 0)) 5))) (fun (q_s_20 : Ar) =>
      gd (ix (((nI 33) + (q_s 3)) + x15) 345) (
      nm ((upd q_s_20 (((nI 33) + (q_s 3)) + x15).toNatClampNeg (nI 0))) (fun (q_s_22 : Ar) =>
      f_X4_write_L63 Fu k_63 q_s q_toldStories_7 fu (x15 + (nI 1)) (upd q_s_22 5 ((q_s_22 5) + (nI 1))))))))
theorem f_X4_write_L63_s (Fu : Nat) (k_63 : Ar → Option (Int32 × Ar × Ar × Int32 × Int32 × Int32 × Int32 × Ar × Ar × Ar × Int32 × Int32)) (q_s : Ar) (q_toldStories_7 : Int32) (fu : Nat) (x15 : Int32) (q_s_16 : Ar) : f_X4_write_L63 Fu k_63 q_s q_toldStories_7 (fu + 1) x15 q_s_16 =
    if q_toldStories_7 ≤ x15 then
      k_63 q_s_16
    else
      gd (ix (((nI 9) + (q_s 3)) + x15) 345) (
      gd (ix (((nI 21) + (q_s 3)) + x15) 345) (
      nm ((upd (upd q_s_16 (((nI 9) + (q_s 3)) + x15).toNatClampNeg (nI 0)) (((nI 21) + (q_s 3)) + x15).toNatClampNeg ((upd q_s_16 (((nI 9) + (q_s 3)) + x15).toNatClampNeg (nI 0)) 5))) (fun (q_s_20 : Ar) =>
      gd (ix (((nI 33) + (q_s 3)) + x15) 345) (
      nm ((upd q_s_20 (((nI 33) + (q_s 3)) + x15).toNatClampNeg (nI 0))) (fun (q_s_22 : Ar) =>
      f_X4_write_L63 Fu k_63 q_s q_toldStories_7 fu (x15 + (nI 1)) (upd q_s_22 5 ((q_s_22 5) + (nI 1)))))))) := rfl
def f_X4_write_L130 (Fu : Nat) (k_130 : Ar → Option (Int32 × Ar × Ar × Int32 × Int32 × Int32 × Int32 × Ar × Ar × Ar × Int32 × Int32)) (q_s : Ar) (q_toldLetter_3 : Ar) (q_toldHeat_4 : Ar) (q_toldStory_5 : Ar) (q_toldWords_6 : Int32) : Nat → Int32 → Ar → Option (Int32 × Ar × Ar × Int32 × Int32 × Int32 × Int32 × Ar × Ar × Ar × Int32 × Int32)
  | 0, _, _ => none
  | fu + 1, x24, q_s_25 =>
    if q_toldWords_6 ≤ x24 then
      k_130 q_s_25
    else
      gd (ix x24 61) (
      gd (ix (((nI 45) + (q_s_25 4)) + x24) 345) (
      nm ((upd q_s_25 (((nI 45) + (q_s_25 4)) + x24).toNatClampNeg (q_toldLetter_3 (x24).toNatClampNeg))) (fun (q_s_29 : Ar) =>
      gd (ix x24 61) (
      gd (ix (((nI 195) + (q_s_29 4)) + x24) 345) (
      nm ((upd q_s_29 (((nI 195) + (q_s_29 4)) + x24).toNatClampNeg (q_toldHeat_4 (x24).toNatClampNeg))) (fun (q_s_32 : Ar) =>
      gd (ix x24 61) (
      gd (ix (((nI 9) + (q_s 3)) + (q_toldStory_5 (x24).toNatClampNeg)) 345) (
      gd (ix (((nI 9) + (q_s 3)) + (q_toldStory_5 (x24).toNatClampNeg)) 345) (
      nm ((upd q_s_32 (((nI 9) + (q_s 3)) + (q_toldStory_5 (x24).toNatClampNeg)).toNatClampNeg ((q_s_32 (((nI 9) + (q_s 3)) + (q_toldStory_5 (x24).toNatClampNeg)).toNatClampNeg) + (nI 1)))) (fun (q_s_36 : Ar) =>
      f_X4_write_L130 Fu k_130 q_s q_toldLetter_3 q_toldHeat_4 q_toldStory_5 q_toldWords_6 fu (x24 + (nI 1)) q_s_36))))))))))
theorem f_X4_write_L130_s (Fu : Nat) (k_130 : Ar → Option (Int32 × Ar × Ar × Int32 × Int32 × Int32 × Int32 × Ar × Ar × Ar × Int32 × Int32)) (q_s : Ar) (q_toldLetter_3 : Ar) (q_toldHeat_4 : Ar) (q_toldStory_5 : Ar) (q_toldWords_6 : Int32) (fu : Nat) (x24 : Int32) (q_s_25 : Ar) : f_X4_write_L130 Fu k_130 q_s q_toldLetter_3 q_toldHeat_4 q_toldStory_5 q_toldWords_6 (fu + 1) x24 q_s_25 =
    if q_toldWords_6 ≤ x24 then
      k_130 q_s_25
    else
      gd (ix x24 61) (
      gd (ix (((nI 45) + (q_s_25 4)) + x24) 345) (
      nm ((upd q_s_25 (((nI 45) + (q_s_25 4)) + x24).toNatClampNeg (q_toldLetter_3 (x24).toNatClampNeg))) (fun (q_s_29 : Ar) =>
      gd (ix x24 61) (
      gd (ix (((nI 195) + (q_s_29 4)) + x24) 345) (
      nm ((upd q_s_29 (((nI 195) + (q_s_29 4)) + x24).toNatClampNeg (q_toldHeat_4 (x24).toNatClampNeg))) (fun (q_s_32 : Ar) =>
      gd (ix x24 61) (
      gd (ix (((nI 9) + (q_s 3)) + (q_toldStory_5 (x24).toNatClampNeg)) 345) (
      gd (ix (((nI 9) + (q_s 3)) + (q_toldStory_5 (x24).toNatClampNeg)) 345) (
      nm ((upd q_s_32 (((nI 9) + (q_s 3)) + (q_toldStory_5 (x24).toNatClampNeg)).toNatClampNeg ((q_s_32 (((nI 9) + (q_s 3)) + (q_toldStory_5 (x24).toNatClampNeg)).toNatClampNeg) + (nI 1)))) (fun (q_s_36 : Ar) =>
      f_X4_write_L130 Fu k_130 q_s q_toldLetter_3 q_toldHeat_4 q_toldStory_5 q_toldWords_6 fu (x24 + (nI 1)) q_s_36)))))))))) := rfl
def f_X4_write (Fu : Nat) (q_s : Ar) (q_before : Ar) (q_known : Int32) (q_pad : Ar) (q_length : Int32) (q_place : Int32) (q_isWrong : Int32) (q_toldLetter : Ar) (q_toldHeat : Ar) (q_toldStory : Ar) (q_toldWords : Int32) (q_toldStories : Int32) : Option (Int32 × Ar × Ar × Int32 × Int32 × Int32 × Int32 × Ar × Ar × Ar × Int32 × Int32) :=
  bd7 (f_X4_readPad Fu q_pad q_length q_place q_isWrong q_toldLetter q_toldHeat q_toldStory q_toldWords q_toldStories) (fun q_place_1 q_isWrong_2 q_toldLetter_3 q_toldHeat_4 q_toldStory_5 q_toldWords_6 q_toldStories_7 =>
  if q_isWrong_2 = 0 then
    if (nI 12) < ((q_s 3) + q_toldStories_7) then
      some (-4, q_s, q_before, q_known, q_length, q_place_1, q_isWrong_2, q_toldLetter_3, q_toldHeat_4, q_toldStory_5, q_toldWords_6, q_toldStories_7)
    else
      if ((q_s 4) + q_toldWords_6) ≤ (nI 150) then
        bd2 (f_X4_know Fu q_s q_before q_known) (fun q_before_12 q_known_13 =>
        jn (fun (q_s_23 : Ar) =>
          jn (fun (q_s_37 : Ar) =>
            nm ((upd (upd q_s_37 3 ((q_s_37 3) + q_toldStories_7)) 4 (((upd q_s_37 3 ((q_s_37 3) + q_toldStories_7)) 4) + q_toldWords_6))) (fun (q_s_38 : Ar) =>
            bd2 (f_X4_react Fu q_s_38) (fun r39 q_s_40 =>
            some (q_s_40 3, q_s_40, q_before_12, q_known_13, nI 0, q_place_1, q_isWrong_2, q_toldLetter_3, q_toldHeat_4, q_toldStory_5, q_toldWords_6, q_toldStories_7))))
            (fun k_130 => f_X4_write_L130 Fu k_130 q_s q_toldLetter_3 q_toldHeat_4 q_toldStory_5 q_toldWords_6 Fu (nI 0) q_s_23))
          (fun k_63 => f_X4_write_L63 Fu k_63 q_s q_toldStories_7 Fu (nI 0) q_s))
      else
        some (-4, q_s, q_before, q_known, q_length, q_place_1, q_isWrong_2, q_toldLetter_3, q_toldHeat_4, q_toldStory_5, q_toldWords_6, q_toldStories_7)
  else
    some (-3, q_s, q_before, q_known, q_length, q_place_1, q_isWrong_2, q_toldLetter_3, q_toldHeat_4, q_toldStory_5, q_toldWords_6, q_toldStories_7))
def f_X4_undo_L22 (Fu : Nat) (k_22 : Ar → Option (Int32 × Ar × Int32)) (q_before : Ar) (q_known : Int32) : Nat → Int32 → Ar → Option (Int32 × Ar × Int32)
  | 0, _, _ => none
  | fu + 1, x2, q_s_3 =>
    if (nI 345) ≤ x2 then
      k_22 q_s_3
    else
      gd (ix (((nI 345) * (q_known - (nI 1))) + x2) 2070) (
      gd (ix x2 345) (
      nm ((upd q_s_3 (x2).toNatClampNeg (q_before (((nI 345) * (q_known - (nI 1))) + x2).toNatClampNeg))) (fun (q_s_7 : Ar) =>
      f_X4_undo_L22 Fu k_22 q_before q_known fu (x2 + (nI 1)) q_s_7)))
theorem f_X4_undo_L22_s (Fu : Nat) (k_22 : Ar → Option (Int32 × Ar × Int32)) (q_before : Ar) (q_known : Int32) (fu : Nat) (x2 : Int32) (q_s_3 : Ar) : f_X4_undo_L22 Fu k_22 q_before q_known (fu + 1) x2 q_s_3 =
    if (nI 345) ≤ x2 then
      k_22 q_s_3
    else
      gd (ix (((nI 345) * (q_known - (nI 1))) + x2) 2070) (
      gd (ix x2 345) (
      nm ((upd q_s_3 (x2).toNatClampNeg (q_before (((nI 345) * (q_known - (nI 1))) + x2).toNatClampNeg))) (fun (q_s_7 : Ar) =>
      f_X4_undo_L22 Fu k_22 q_before q_known fu (x2 + (nI 1)) q_s_7))) := rfl
def f_X4_undo (Fu : Nat) (q_s : Ar) (q_before : Ar) (q_known : Int32) : Option (Int32 × Ar × Int32) :=
  if q_known = 0 then
    some (-5, q_s, q_known)
  else
    jn (fun (q_s_8 : Ar) =>
      some (q_known - (nI 1), q_s_8, q_known - (nI 1)))
      (fun k_22 => f_X4_undo_L22 Fu k_22 q_before q_known Fu (nI 0) q_s)
def f_X4_save_L14 (Fu : Nat) (k_14 : Ar → Option (Int32 × Ar × Ar)) (q_s : Ar) (p1 : Int32) : Nat → Int32 → Ar → Option (Int32 × Ar × Ar)
  | 0, _, _ => none
  | fu + 1, x4, q_slots_5 =>
    if (nI 345) ≤ x4 then
      k_14 q_slots_5
    else
      gd (ix x4 345) (
      gd (ix (((nI 345) * p1) + x4) 690) (
      nm ((upd q_slots_5 (((nI 345) * p1) + x4).toNatClampNeg (q_s (x4).toNatClampNeg))) (fun (q_slots_9 : Ar) =>
      f_X4_save_L14 Fu k_14 q_s p1 fu (x4 + (nI 1)) q_slots_9)))
theorem f_X4_save_L14_s (Fu : Nat) (k_14 : Ar → Option (Int32 × Ar × Ar)) (q_s : Ar) (p1 : Int32) (fu : Nat) (x4 : Int32) (q_slots_5 : Ar) : f_X4_save_L14 Fu k_14 q_s p1 (fu + 1) x4 q_slots_5 =
    if (nI 345) ≤ x4 then
      k_14 q_slots_5
    else
      gd (ix x4 345) (
      gd (ix (((nI 345) * p1) + x4) 690) (
      nm ((upd q_slots_5 (((nI 345) * p1) + x4).toNatClampNeg (q_s (x4).toNatClampNeg))) (fun (q_slots_9 : Ar) =>
      f_X4_save_L14 Fu k_14 q_s p1 fu (x4 + (nI 1)) q_slots_9))) := rfl
def f_X4_save (Fu : Nat) (q_s : Ar) (q_slots : Ar) (q_isSaved : Ar) (p1 : Int32) : Option (Int32 × Ar × Ar) :=
  bd1 (f_X4_in Fu p1 (nI 0) (nI 1)) (fun r1 =>
  if r1 = 0 then
    some (-2, q_slots, q_isSaved)
  else
    jn (fun (q_slots_10 : Ar) =>
      gd (ix p1 2) (
      some (q_s 3, q_slots_10, upd q_isSaved (p1).toNatClampNeg (nI 1))))
      (fun k_14 => f_X4_save_L14 Fu k_14 q_s p1 Fu (nI 0) q_slots))
def f_X4_restore_L30 (Fu : Nat) (k_30 : Ar → Option (Int32 × Ar × Ar × Int32)) (q_slots : Ar) (p1 : Int32) : Nat → Int32 → Ar → Option (Int32 × Ar × Ar × Int32)
  | 0, _, _ => none
  | fu + 1, x9, q_s_10 =>
    if (nI 345) ≤ x9 then
      k_30 q_s_10
    else
      gd (ix (((nI 345) * p1) + x9) 690) (
      gd (ix x9 345) (
      nm ((upd q_s_10 (x9).toNatClampNeg (q_slots (((nI 345) * p1) + x9).toNatClampNeg))) (fun (q_s_14 : Ar) =>
      f_X4_restore_L30 Fu k_30 q_slots p1 fu (x9 + (nI 1)) q_s_14)))
theorem f_X4_restore_L30_s (Fu : Nat) (k_30 : Ar → Option (Int32 × Ar × Ar × Int32)) (q_slots : Ar) (p1 : Int32) (fu : Nat) (x9 : Int32) (q_s_10 : Ar) : f_X4_restore_L30 Fu k_30 q_slots p1 (fu + 1) x9 q_s_10 =
    if (nI 345) ≤ x9 then
      k_30 q_s_10
    else
      gd (ix (((nI 345) * p1) + x9) 690) (
      gd (ix x9 345) (
      nm ((upd q_s_10 (x9).toNatClampNeg (q_slots (((nI 345) * p1) + x9).toNatClampNeg))) (fun (q_s_14 : Ar) =>
      f_X4_restore_L30 Fu k_30 q_slots p1 fu (x9 + (nI 1)) q_s_14))) := rfl
def f_X4_restore (Fu : Nat) (q_s : Ar) (q_before : Ar) (q_known : Int32) (q_slots : Ar) (q_isSaved : Ar) (p1 : Int32) : Option (Int32 × Ar × Ar × Int32) :=
  bd1 (f_X4_in Fu p1 (nI 0) (nI 1)) (fun r1 =>
  if r1 = 0 then
    some (-2, q_s, q_before, q_known)
  else
    gd (ix p1 2) (
    if (q_isSaved (p1).toNatClampNeg) = 0 then
      some (-5, q_s, q_before, q_known)
    else
      bd2 (f_X4_know Fu q_s q_before q_known) (fun q_before_6 q_known_7 =>
      jn (fun (q_s_15 : Ar) =>
        some (q_s_15 3, q_s_15, q_before_6, q_known_7))
        (fun k_30 => f_X4_restore_L30 Fu k_30 q_slots p1 Fu (nI 0) q_s))))
end
section
/-! PURE: evaluation rows and loops as iterations -/
theorem gd_true {α : Type} (x : Option α) : gd true x = x := rfl
theorem nm_eq {α β : Type} (x : α) (k : α → β) : nm x k = k x := rfl
theorem jn_eq {β γ : Type} (b : β) (t : β → γ) : jn b t = t b := rfl
theorem bd1_s {α β : Type} (a : α) (k : α → Option β) : bd1 (some a) k = k a := rfl
theorem bd2_s {α1 α2 β : Type} (a1 : α1) (a2 : α2) (k : α1 → α2 → Option β) : bd2 (some (a1, a2)) k = k a1 a2 := rfl
theorem bd3_s {α1 α2 α3 β : Type} (a1 : α1) (a2 : α2) (a3 : α3) (k : α1 → α2 → α3 → Option β) : bd3 (some (a1, a2, a3)) k = k a1 a2 a3 := rfl
theorem bd4_s {α1 α2 α3 α4 β : Type} (a1 : α1) (a2 : α2) (a3 : α3) (a4 : α4) (k : α1 → α2 → α3 → α4 → Option β) : bd4 (some (a1, a2, a3, a4)) k = k a1 a2 a3 a4 := rfl
theorem bd5_s {α1 α2 α3 α4 α5 β : Type} (a1 : α1) (a2 : α2) (a3 : α3) (a4 : α4) (a5 : α5) (k : α1 → α2 → α3 → α4 → α5 → Option β) : bd5 (some (a1, a2, a3, a4, a5)) k = k a1 a2 a3 a4 a5 := rfl
theorem bd6_s {α1 α2 α3 α4 α5 α6 β : Type} (a1 : α1) (a2 : α2) (a3 : α3) (a4 : α4) (a5 : α5) (a6 : α6) (k : α1 → α2 → α3 → α4 → α5 → α6 → Option β) : bd6 (some (a1, a2, a3, a4, a5, a6)) k = k a1 a2 a3 a4 a5 a6 := rfl
theorem bd7_s {α1 α2 α3 α4 α5 α6 α7 β : Type} (a1 : α1) (a2 : α2) (a3 : α3) (a4 : α4) (a5 : α5) (a6 : α6) (a7 : α7) (k : α1 → α2 → α3 → α4 → α5 → α6 → α7 → Option β) : bd7 (some (a1, a2, a3, a4, a5, a6, a7)) k = k a1 a2 a3 a4 a5 a6 a7 := rfl
theorem bd8_s {α1 α2 α3 α4 α5 α6 α7 α8 β : Type} (a1 : α1) (a2 : α2) (a3 : α3) (a4 : α4) (a5 : α5) (a6 : α6) (a7 : α7) (a8 : α8) (k : α1 → α2 → α3 → α4 → α5 → α6 → α7 → α8 → Option β) : bd8 (some (a1, a2, a3, a4, a5, a6, a7, a8)) k = k a1 a2 a3 a4 a5 a6 a7 a8 := rfl
theorem bd9_s {α1 α2 α3 α4 α5 α6 α7 α8 α9 β : Type} (a1 : α1) (a2 : α2) (a3 : α3) (a4 : α4) (a5 : α5) (a6 : α6) (a7 : α7) (a8 : α8) (a9 : α9) (k : α1 → α2 → α3 → α4 → α5 → α6 → α7 → α8 → α9 → Option β) : bd9 (some (a1, a2, a3, a4, a5, a6, a7, a8, a9)) k = k a1 a2 a3 a4 a5 a6 a7 a8 a9 := rfl
theorem bd10_s {α1 α2 α3 α4 α5 α6 α7 α8 α9 α10 β : Type} (a1 : α1) (a2 : α2) (a3 : α3) (a4 : α4) (a5 : α5) (a6 : α6) (a7 : α7) (a8 : α8) (a9 : α9) (a10 : α10) (k : α1 → α2 → α3 → α4 → α5 → α6 → α7 → α8 → α9 → α10 → Option β) : bd10 (some (a1, a2, a3, a4, a5, a6, a7, a8, a9, a10)) k = k a1 a2 a3 a4 a5 a6 a7 a8 a9 a10 := rfl
theorem bd11_s {α1 α2 α3 α4 α5 α6 α7 α8 α9 α10 α11 β : Type} (a1 : α1) (a2 : α2) (a3 : α3) (a4 : α4) (a5 : α5) (a6 : α6) (a7 : α7) (a8 : α8) (a9 : α9) (a10 : α10) (a11 : α11) (k : α1 → α2 → α3 → α4 → α5 → α6 → α7 → α8 → α9 → α10 → α11 → Option β) : bd11 (some (a1, a2, a3, a4, a5, a6, a7, a8, a9, a10, a11)) k = k a1 a2 a3 a4 a5 a6 a7 a8 a9 a10 a11 := rfl
theorem bd12_s {α1 α2 α3 α4 α5 α6 α7 α8 α9 α10 α11 α12 β : Type} (a1 : α1) (a2 : α2) (a3 : α3) (a4 : α4) (a5 : α5) (a6 : α6) (a7 : α7) (a8 : α8) (a9 : α9) (a10 : α10) (a11 : α11) (a12 : α12) (k : α1 → α2 → α3 → α4 → α5 → α6 → α7 → α8 → α9 → α10 → α11 → α12 → Option β) : bd12 (some (a1, a2, a3, a4, a5, a6, a7, a8, a9, a10, a11, a12)) k = k a1 a2 a3 a4 a5 a6 a7 a8 a9 a10 a11 a12 := rfl
theorem nI_clamps {n : Nat} (h : n < 2147483648) : (nI n).toNatClampNeg = n := nI_clamp h
theorem ix_nIs {i n : Nat} (h : i < n) (hn : n < 2147483648) : ix (nI i) n = true := ix_nI h hn
theorem nI_les {a b : Nat} (ha : a < 2147483648) (hb : b < 2147483648) : (nI a ≤ nI b) = (a ≤ b) := propext (nI_leI ha hb)
theorem nI_lts {a b : Nat} (ha : a < 2147483648) (hb : b < 2147483648) : (nI a < nI b) = (a < b) := propext (nI_ltI ha hb)
theorem nI_eqs {a b : Nat} (ha : a < 2147483648) (hb : b < 2147483648) : (nI a = nI b) = (a = b) := propext (nI_eq ha hb)
theorem pk_subs {a b : Nat} (h : b ≤ a) : nI a - nI b = nI (a - b) := pk_sub h
theorem nI_m1s {a : Nat} (h : 0 < a) : nI a + (-1) = nI (a - 1) := sb_m1 h
theorem bz_0 : bz (nI 0) = true := by decide
theorem bz_1 : bz (nI 1) = true := by decide
theorem nI_zero : (0 : Int32) = nI 0 := nI_0.symm
def itF {α : Type} (f : Nat → α → α) : Nat → Nat → α → α
  | _, 0, a => a
  | i, n + 1, a => itF f (i + 1) n (f i a)
theorem itF_0 {α : Type} (f : Nat → α → α) (i : Nat) (a : α) : itF f i 0 a = a := rfl
theorem itF_s {α : Type} (f : Nat → α → α) (i n : Nat) (a : α) : itF f i (n + 1) a = itF f (i + 1) n (f i a) := rfl
theorem itF_end {α : Type} (f : Nat → α → α) : ∀ (n i : Nat) (a : α), itF f i (n + 1) a = f (i + n) (itF f i n a) := by
  intro n
  induction n with
  | zero => intro i a; rfl
  | succ n ih =>
    intro i a
    rw [itF_s, ih, itF_s]
    rw [show i + 1 + n = i + (n + 1) by omega]
theorem itF_inv {α : Type} (f : Nat → α → α) (P : Nat → α → Prop) : ∀ (n i : Nat) (a : α), P i a → (∀ (j : Nat) (b : α), i ≤ j → j < i + n → P j b → P (j + 1) (f j b)) → P (i + n) (itF f i n a) := by
  intro n
  induction n with
  | zero => intro i a h _; exact h
  | succ n ih =>
    intro i a h hs
    rw [itF_s, show i + (n + 1) = (i + 1) + n by omega]
    exact ih (i + 1) (f i a) (hs i a (Nat.le_refl _) (by omega) h) (fun j b h1 h2 h3 => hs j b (by omega) (by omega) h3)
theorem itF_rel {α β : Type} (f : Nat → α → α) (g : Nat → β → β) (d : Nat) (P : Nat → α → β → Prop) : ∀ (n i : Nat) (a : α) (b : β), P i a b → (∀ (j : Nat) (x : α) (z : β), i ≤ j → j < i + n → P j x z → P (j + 1) (f j x) (g (d + j) z)) → P (i + n) (itF f i n a) (itF g (d + i) n b) := by
  intro n
  induction n with
  | zero => intro i a b h _; exact h
  | succ n ih =>
    intro i a b h hs
    rw [itF_s, itF_s, show i + (n + 1) = (i + 1) + n by omega, show d + i + 1 = d + (i + 1) by omega]
    exact ih (i + 1) _ _ (hs i a b (Nat.le_refl _) (by omega) h) (fun j x z h1 h2 h3 => hs j x z (by omega) (by omega) h3)
theorem itF_congr {α : Type} {f g : Nat → α → α} {n i : Nat} {a : α} (h : ∀ (j : Nat) (x : α), i ≤ j → j < i + n → f j x = g j x) : itF f i n a = itF g i n a := by
  have := itF_rel f g 0 (fun _ x z => x = z) n i a a rfl (fun j x z h1 h2 e => by rw [← e, Nat.zero_add]; exact h j x h1 h2)
  rwa [Nat.zero_add] at this
theorem itF_shift {α : Type} (g : Nat → α → α) (d n i : Nat) (a : α) : itF g (d + i) n a = itF (fun j => g (d + j)) i n a := by
  exact (itF_rel (fun j => g (d + j)) g d (fun _ x z => x = z) n i a a rfl (fun j x z _ _ e => by rw [e])).symm
theorem itF_add {α : Type} (f : Nat → α → α) : ∀ (n k i : Nat) (a : α), itF f i (n + k) a = itF f (i + n) k (itF f i n a) := by
  intro n
  induction n with
  | zero => intro k i a; rw [Nat.zero_add]; rfl
  | succ n ih =>
    intro k i a
    rw [show n + 1 + k = (n + k) + 1 by omega, itF_s, ih, itF_s, show i + 1 + n = i + (n + 1) by omega]
theorem isWithin_s (Fu : Nat) (v lo hi : Int32) : f_X3_isWithin Fu v lo hi = some (if lo ≤ v ∧ v ≤ hi then nI 1 else nI 0) := by
  unfold f_X3_isWithin
  by_cases h1 : v < lo
  · have h2 : ¬ (lo ≤ v ∧ v ≤ hi) := fun h => Int32.not_lt.mpr h.1 h1
    simp only [nm_eq, if_pos h1, if_neg h2, bz_0, gd_true]
  · by_cases h3 : hi < v
    · have h2 : ¬ (lo ≤ v ∧ v ≤ hi) := fun h => Int32.not_lt.mpr h.2 h3
      simp only [nm_eq, if_neg h1, if_pos h3, if_neg h2, bz_0, gd_true]
    · have h2 : (lo ≤ v ∧ v ≤ hi) := ⟨Int32.not_lt.mp h1, Int32.not_lt.mp h3⟩
      simp only [nm_eq, if_neg h1, if_neg h3, if_pos h2, bz_1, gd_true]
theorem in4_s (Fu : Nat) (v lo hi : Int32) : f_X4_in Fu v lo hi = some (if lo ≤ v ∧ v ≤ hi then nI 1 else nI 0) := by
  unfold f_X4_in
  by_cases h1 : v < lo
  · have h2 : ¬ (lo ≤ v ∧ v ≤ hi) := fun h => Int32.not_lt.mpr h.1 h1
    simp only [nm_eq, if_pos h1, if_neg h2, bz_0, gd_true]
  · by_cases h3 : hi < v
    · have h2 : ¬ (lo ≤ v ∧ v ≤ hi) := fun h => Int32.not_lt.mpr h.2 h3
      simp only [nm_eq, if_neg h1, if_pos h3, if_neg h2, bz_0, gd_true]
    · have h2 : (lo ≤ v ∧ v ≤ hi) := ⟨Int32.not_lt.mp h1, Int32.not_lt.mp h3⟩
      simp only [nm_eq, if_neg h1, if_neg h3, if_pos h2, bz_1, gd_true]
theorem heatBetween_L (Fu : Nat) (k : Int32 → Option Int32) (he : Ar) (hi : Nat) (hb : hi ≤ 150) : ∀ (fu i : Nat) (acc : Int32), i ≤ hi → hi - i < fu → f_X2_heatBetween_L5 Fu k he (nI hi) fu acc (nI i) = k (itF (fun p a => a + he p) i (hi - i) acc) := by
  intro fu
  induction fu with
  | zero => intro i acc h1 h2; omega
  | succ fu ih =>
    intro i acc h1 h2
    rw [f_X2_heatBetween_L5_s]
    by_cases h : hi ≤ i
    · have e : hi - i = 0 := by omega
      rw [e, itF_0]
      simp (disch := omega) only [gd_true, nm_eq, jn_eq, bd1_s, bd2_s, bd3_s, bd4_s, bd5_s, bd6_s, bd7_s, bd8_s, bd9_s, bd10_s, bd11_s, bd12_s, nI_add, pk_mul, pk_subs, nI_m1s, ix_nIs, nI_clamps, nI_les, nI_lts, nI_eqs, bz_0, bz_1, nI_zero, eq_self, if_true, if_false, if_pos, if_neg]
    · have e : hi - i = (hi - (i + 1)) + 1 := by omega
      rw [e, itF_s, ← ih (i + 1) _ (by omega) (by omega)]
      simp (disch := omega) only [gd_true, nm_eq, jn_eq, bd1_s, bd2_s, bd3_s, bd4_s, bd5_s, bd6_s, bd7_s, bd8_s, bd9_s, bd10_s, bd11_s, bd12_s, nI_add, pk_mul, pk_subs, nI_m1s, ix_nIs, nI_clamps, nI_les, nI_lts, nI_eqs, bz_0, bz_1, nI_zero, eq_self, if_true, if_false, if_pos, if_neg]
end
section
/-! PURE: the shape: how many stories, and where each begins -/
def SW (ns : Nat) (st : Nat → Nat) : Prop := ns ≤ 12 ∧ st 0 = 0 ∧ (∀ k, k < ns → st k < st (k + 1)) ∧ st ns ≤ 150
theorem SW.lt {ns : Nat} {st : Nat → Nat} (h : SW ns st) {i j : Nat} (hij : i < j) (hj : j ≤ ns) : st i + (j - i) ≤ st j := by
  induction j with
  | zero => omega
  | succ j ih =>
    have h1 := h.2.2.1 j (by omega)
    by_cases hh : i = j
    · subst hh; omega
    · have := ih (by omega) (by omega)
      omega
theorem SW.le {ns : Nat} {st : Nat → Nat} (h : SW ns st) {i j : Nat} (hij : i ≤ j) (hj : j ≤ ns) : st i ≤ st j := by
  by_cases e : i = j
  · subst e; exact Nat.le_refl _
  · have := h.lt (show i < j by omega) hj
    omega
theorem SW.b {ns : Nat} {st : Nat → Nat} (h : SW ns st) {i : Nat} (hi : i ≤ ns) : st i ≤ 150 := Nat.le_trans (h.le hi (Nat.le_refl _)) h.2.2.2
theorem SW.find {ns : Nat} {st : Nat → Nat} (h : SW ns st) {p : Nat} (hp : p < st ns) : ∃ k, k < ns ∧ st k ≤ p ∧ p < st (k + 1) := by
  have key : ∀ j, j ≤ ns → p < st j → ∃ k, k < j ∧ st k ≤ p ∧ p < st (k + 1) := by
    intro j
    induction j with
    | zero => intro _ h1; have := h.2.1; omega
    | succ j ih =>
      intro hj h1
      by_cases h2 : p < st j
      · obtain ⟨k, a, b⟩ := ih (by omega) h2
        exact ⟨k, by omega, b⟩
      · exact ⟨j, by omega, by omega, h1⟩
  exact key ns (Nat.le_refl _) hp
theorem SW.uniq {ns : Nat} {st : Nat → Nat} (h : SW ns st) {p k j : Nat} (hk : k < ns) (h1 : st k ≤ p) (h2 : p < st (k + 1)) (hj : j < ns) (h3 : st j ≤ p) (h4 : p < st (j + 1)) : k = j := by
  rcases Nat.lt_trichotomy k j with q | q | q
  · have := h.le (show k + 1 ≤ j by omega) (by omega); omega
  · exact q
  · have := h.le (show j + 1 ≤ k by omega) (by omega); omega
/-- an int that is a number below n -/
def isS (n : Nat) (p : Int32) : Bool := decide (0 ≤ p.toInt ∧ p.toInt < n)
theorem isS_t {n : Nat} {p : Int32} (h : isS n p = true) (hn : n < 2147483648) : ∃ k, k < n ∧ p = nI k := by
  simp only [isS, decide_eq_true_eq] at h
  refine ⟨p.toInt.toNat, by omega, ?_⟩
  apply Int32.toInt_inj.mp
  rw [nI_toInt (by omega)]
  omega
theorem isS_n {n k : Nat} (hk : k < n) (hn : n < 2147483648) : isS n (nI k) = true := by
  simp only [isS, decide_eq_true_eq]
  rw [nI_toInt (by omega)]
  omega
theorem within_isS {n : Nat} {p : Int32} (hn : n < 1000000) : (if nI 0 ≤ p ∧ p ≤ nI n - nI 1 then nI 1 else nI 0) = (if isS n p = true then nI 1 else nI 0) := by
  have e : (nI 0 ≤ p ∧ p ≤ nI n - nI 1) ↔ isS n p = true := by
    simp only [isS, decide_eq_true_eq]
    rw [Int32.le_iff_toInt_le, Int32.le_iff_toInt_le, pk_sub_toInt (by omega) (by omega), nI_toInt (by omega)]
    omega
  by_cases h : isS n p = true
  · rw [if_pos h, if_pos (e.mpr h)]
  · rw [if_neg h, if_neg (fun z => h (e.mp z))]
theorem bz_if {c : Prop} {i : Decidable c} : bz (if c then nI 1 else nI 0) = true := by
  by_cases h : c
  · rw [if_pos h]; exact bz_1
  · rw [if_neg h]; exact bz_0
theorem hasStory_s (Fu : Nat) {n : Nat} (p : Int32) (hn : n < 1000000) : f_X2_hasStory Fu (nI n) p = some (if isS n p = true then nI 1 else nI 0) := by
  unfold f_X2_hasStory
  rw [isWithin_s, within_isS hn, bd1_s, bz_if, gd_true]
theorem isStory_s (Fu : Nat) {n : Nat} {s : Ar} (p : Int32) (hs : s 3 = nI n) (hn : n < 1000000) : f_X4_isStory Fu s p = some (if isS n p = true then nI 1 else nI 0) := by
  unfold f_X4_isStory
  rw [hs, in4_s, within_isS hn, bd1_s, bz_if, gd_true]
theorem sizeOf_s (Fu : Nat) {sa : Ar} {ns : Nat} {st : Nat → Nat} (hW : SW ns st) (hs : ∀ k, k ≤ ns → sa k = nI (st k)) {k : Nat} (hk : k < ns) : f_X2_sizeOf Fu sa (nI k) = some (nI (st (k + 1) - st k)) := by
  have h1 := hW.1
  have h2 := hW.2.2.1 k hk
  have e1 := hs (k + 1) (by omega)
  have e2 := hs k (by omega)
  unfold f_X2_sizeOf
  simp (disch := omega) only [gd_true, nm_eq, jn_eq, bd1_s, bd2_s, bd3_s, bd4_s, bd5_s, bd6_s, bd7_s, bd8_s, bd9_s, bd10_s, bd11_s, bd12_s, nI_add, pk_mul, pk_subs, nI_m1s, ix_nIs, nI_clamps, nI_les, nI_lts, nI_eqs, bz_0, bz_1, nI_zero, eq_self, if_true, if_false, e1, e2]
theorem words_s (Fu : Nat) {sa : Ar} {ns : Nat} {st : Nat → Nat} (hW : SW ns st) (hs : ∀ k, k ≤ ns → sa k = nI (st k)) : f_X2_words Fu sa (nI ns) = some (nI (st ns)) := by
  have h1 := hW.1
  have e1 := hs ns (by omega)
  unfold f_X2_words
  simp (disch := omega) only [gd_true, nm_eq, jn_eq, bd1_s, bd2_s, bd3_s, bd4_s, bd5_s, bd6_s, bd7_s, bd8_s, bd9_s, bd10_s, bd11_s, bd12_s, nI_add, pk_mul, pk_subs, nI_m1s, ix_nIs, nI_clamps, nI_les, nI_lts, nI_eqs, bz_0, bz_1, nI_zero, eq_self, if_true, if_false, e1]
def isW (ns : Nat) (st : Nat → Nat) (p q : Int32) : Bool := isS ns p && isS (st (p.toNatClampNeg + 1) - st p.toNatClampNeg) q
theorem isW_t {ns : Nat} {st : Nat → Nat} {p q : Int32} (h : isW ns st p q = true) (hW : SW ns st) : ∃ k w, k < ns ∧ st k + w < st (k + 1) ∧ p = nI k ∧ q = nI w := by
  simp only [isW, Bool.and_eq_true] at h
  obtain ⟨k, hk, rfl⟩ := isS_t h.1 (by have := hW.1; omega)
  have h1 := hW.1
  have hb := hW.b (show k + 1 ≤ ns by omega)
  rw [nI_clamp (by omega)] at h
  obtain ⟨w, hw, rfl⟩ := isS_t h.2 (by omega)
  exact ⟨k, w, hk, by omega, rfl, rfl⟩
theorem hasWord_s (Fu : Nat) {sa : Ar} {ns : Nat} {st : Nat → Nat} (hW : SW ns st) (hs : ∀ k, k ≤ ns → sa k = nI (st k)) (p q : Int32) : f_X2_hasWord Fu sa (nI ns) p q = some (if isW ns st p q = true then nI 1 else nI 0) := by
  have h1 := hW.1
  unfold f_X2_hasWord
  rw [hasStory_s Fu p (show ns < 1000000 by omega), bd1_s, jn_eq]
  by_cases h : isS ns p = true
  · rw [if_pos h, if_neg (show ¬ nI 1 = 0 by decide)]
    obtain ⟨k, hk, rfl⟩ := isS_t h (by omega)
    have hb := hW.b (show k + 1 ≤ ns by omega)
    rw [sizeOf_s Fu hW hs hk, bd1_s, isWithin_s, within_isS (by omega), bd1_s]
    have e : isW ns st (nI k) q = isS (st (k + 1) - st k) q := by
      simp only [isW, h, Bool.true_and, nI_clamp (show k < 2 ^ 31 by omega)]
    rw [e]
    by_cases h2 : isS (st (k + 1) - st k) q = true
    · rw [if_pos h2, if_neg (show ¬ nI 1 = 0 by decide)]; simp only [bz_1, gd_true]
    · rw [if_neg h2, if_pos (show nI 0 = 0 by decide)]; simp only [bz_0, gd_true]
  · rw [if_neg h, if_pos (show nI 0 = 0 by decide)]; simp only [bz_0, gd_true]
    have e : ¬ isW ns st p q = true := by
      intro z
      simp only [isW, Bool.and_eq_true] at z
      exact h z.1
    rw [if_neg e]
theorem isWord_s (Fu : Nat) {s : Ar} {ns : Nat} {st : Nat → Nat} (hW : SW ns st) (h3 : s 3 = nI ns) (hs : ∀ k, k < ns → s (9 + k) = nI (st (k + 1) - st k)) (p q : Int32) : f_X4_isWord Fu s p q = some (if isW ns st p q = true then nI 1 else nI 0) := by
  have h1 := hW.1
  unfold f_X4_isWord
  rw [isStory_s Fu p h3 (show ns < 1000000 by omega), bd1_s, jn_eq]
  by_cases h : isS ns p = true
  · rw [if_pos h, if_neg (show ¬ nI 1 = 0 by decide)]
    obtain ⟨k, hk, rfl⟩ := isS_t h (by omega)
    have hb := hW.b (show k + 1 ≤ ns by omega)
    rw [nI_add, ix_nIs (by omega) (by omega), gd_true, nI_clamps (by omega), hs k hk, in4_s, within_isS (by omega), bd1_s]
    have e : isW ns st (nI k) q = isS (st (k + 1) - st k) q := by
      simp only [isW, h, Bool.true_and, nI_clamp (show k < 2 ^ 31 by omega)]
    rw [e]
    by_cases h2 : isS (st (k + 1) - st k) q = true
    · rw [if_pos h2, if_neg (show ¬ nI 1 = 0 by decide)]; simp only [bz_1, gd_true]
    · rw [if_neg h2, if_pos (show nI 0 = 0 by decide)]; simp only [bz_0, gd_true]
  · rw [if_neg h, if_pos (show nI 0 = 0 by decide)]; simp only [bz_0, gd_true]
    have e : ¬ isW ns st p q = true := by
      intro z
      simp only [isW, Bool.and_eq_true] at z
      exact h z.1
    rw [if_neg e]
theorem storyAt_L (Fu : Nat) (k : Int32 → Option Int32) {sa : Ar} {ns : Nat} {st : Nat → Nat} (hW : SW ns st) (hs : ∀ k, k ≤ ns → sa k = nI (st k)) {p K : Nat} (hK : K < ns) (h1 : st K ≤ p) (h2 : p < st (K + 1)) : ∀ (fu i : Nat), i ≤ K → K - i < fu → f_X2_storyAt_L2 Fu k sa (nI ns) (nI p) fu (nI i) = k (nI K) := by
  have hn := hW.1
  have hb := hW.b (show K + 1 ≤ ns by omega)
  intro fu
  induction fu with
  | zero => intro i a b; omega
  | succ fu ih =>
    intro i a b
    rw [f_X2_storyAt_L2_s]
    by_cases hi : i = K
    · subst hi
      have e1 := hs (i + 1) (by omega)
      by_cases hl : ns ≤ i + 1
      · simp (disch := omega) only [gd_true, nm_eq, jn_eq, bd1_s, bd2_s, bd3_s, bd4_s, bd5_s, bd6_s, bd7_s, bd8_s, bd9_s, bd10_s, bd11_s, bd12_s, nI_add, pk_mul, pk_subs, nI_m1s, ix_nIs, nI_clamps, nI_les, nI_lts, nI_eqs, bz_0, bz_1, nI_zero, eq_self, if_true, if_false, if_pos, if_neg]
      · simp (disch := omega) only [gd_true, nm_eq, jn_eq, bd1_s, bd2_s, bd3_s, bd4_s, bd5_s, bd6_s, bd7_s, bd8_s, bd9_s, bd10_s, bd11_s, bd12_s, nI_add, pk_mul, pk_subs, nI_m1s, ix_nIs, nI_clamps, nI_les, nI_lts, nI_eqs, bz_0, bz_1, nI_zero, eq_self, if_true, if_false, e1, if_pos, if_neg]
    · have e1 := hs (i + 1) (by omega)
      have hm := hW.le (show i + 1 ≤ K by omega) (by omega)
      simp (disch := omega) only [gd_true, nm_eq, jn_eq, bd1_s, bd2_s, bd3_s, bd4_s, bd5_s, bd6_s, bd7_s, bd8_s, bd9_s, bd10_s, bd11_s, bd12_s, nI_add, pk_mul, pk_subs, nI_m1s, ix_nIs, nI_clamps, nI_les, nI_lts, nI_eqs, bz_0, bz_1, nI_zero, eq_self, if_true, if_false, e1, if_pos, if_neg]
      exact ih (i + 1) (by omega) (by omega)
theorem storyAt_s {Fu : Nat} (hF : 20000000 ≤ Fu) {sa : Ar} {ns : Nat} {st : Nat → Nat} (hW : SW ns st) (hs : ∀ k, k ≤ ns → sa k = nI (st k)) {p K : Nat} (hK : K < ns) (h1 : st K ≤ p) (h2 : p < st (K + 1)) : f_X2_storyAt Fu sa (nI ns) (nI p) = some (nI K) := by
  have hn := hW.1
  unfold f_X2_storyAt
  rw [jn_eq, storyAt_L Fu _ hW hs hK h1 h2 Fu 0 (Nat.zero_le _) (by omega)]
theorem placeOf_s {Fu : Nat} (hF : 20000000 ≤ Fu) {sa : Ar} {ns : Nat} {st : Nat → Nat} (hW : SW ns st) (hs : ∀ k, k ≤ ns → sa k = nI (st k)) {p K : Nat} (hK : K < ns) (h1 : st K ≤ p) (h2 : p < st (K + 1)) : f_X2_placeOf Fu sa (nI ns) (nI p) = some (nI (p - st K)) := by
  have hn := hW.1
  have e1 := hs K (by omega)
  unfold f_X2_placeOf
  rw [storyAt_s hF hW hs hK h1 h2]
  simp (disch := omega) only [gd_true, nm_eq, jn_eq, bd1_s, bd2_s, bd3_s, bd4_s, bd5_s, bd6_s, bd7_s, bd8_s, bd9_s, bd10_s, bd11_s, bd12_s, nI_add, pk_mul, pk_subs, nI_m1s, ix_nIs, nI_clamps, nI_les, nI_lts, nI_eqs, bz_0, bz_1, nI_zero, eq_self, if_true, if_false, e1]
theorem storyOf_L (Fu : Nat) (k : Int32 → Option Int32) {s : Ar} {ns : Nat} {st : Nat → Nat} (hW : SW ns st) (hs : ∀ k, k < ns → s (9 + k) = nI (st (k + 1) - st k)) {p K : Nat} (hK : K < ns) (h1 : st K ≤ p) (h2 : p < st (K + 1)) : ∀ (fu i : Nat), i ≤ K → K - i < fu → f_X4_storyOf_L4 Fu k s fu (nI i) (nI (p - st i)) = k (nI K) := by
  have hn := hW.1
  have hb := hW.b (show K + 1 ≤ ns by omega)
  intro fu
  induction fu with
  | zero => intro i a b; omega
  | succ fu ih =>
    intro i a b
    rw [f_X4_storyOf_L4_s]
    have e1 := hs i (by omega)
    have hm := hW.le a (by omega)
    by_cases hi : i = K
    · subst hi
      simp (disch := omega) only [gd_true, nm_eq, jn_eq, bd1_s, bd2_s, bd3_s, bd4_s, bd5_s, bd6_s, bd7_s, bd8_s, bd9_s, bd10_s, bd11_s, bd12_s, nI_add, pk_mul, pk_subs, nI_m1s, ix_nIs, nI_clamps, nI_les, nI_lts, nI_eqs, bz_0, bz_1, nI_zero, eq_self, if_true, if_false, e1, if_pos, if_neg]
    · have hm2 := hW.le (show i + 1 ≤ K by omega) (by omega)
      have hm3 := hW.2.2.1 i (by omega)
      simp (disch := omega) only [gd_true, nm_eq, jn_eq, bd1_s, bd2_s, bd3_s, bd4_s, bd5_s, bd6_s, bd7_s, bd8_s, bd9_s, bd10_s, bd11_s, bd12_s, nI_add, pk_mul, pk_subs, nI_m1s, ix_nIs, nI_clamps, nI_les, nI_lts, nI_eqs, bz_0, bz_1, nI_zero, eq_self, if_true, if_false, e1, if_pos, if_neg]
      rw [← ih (i + 1) (by omega) (by omega)]
      congr 2
      omega
theorem storyOf_s {Fu : Nat} (hF : 20000000 ≤ Fu) {s : Ar} {ns : Nat} {st : Nat → Nat} (hW : SW ns st) (hs : ∀ k, k < ns → s (9 + k) = nI (st (k + 1) - st k)) {p K : Nat} (hK : K < ns) (h1 : st K ≤ p) (h2 : p < st (K + 1)) : f_X4_storyOf Fu s (nI p) = some (nI K) := by
  have hn := hW.1
  unfold f_X4_storyOf
  have h := storyOf_L Fu (fun v => some v) hW hs hK h1 h2 Fu 0 (Nat.zero_le _) (by omega)
  rw [hW.2.1, Nat.sub_zero] at h
  exact h
theorem first_L (Fu : Nat) (k : Int32 → Option Int32) {s : Ar} {ns : Nat} {st : Nat → Nat} (hW : SW ns st) (hs : ∀ k, k < ns → s (9 + k) = nI (st (k + 1) - st k)) {K : Nat} (hK : K ≤ ns) : ∀ (fu i : Nat), i ≤ K → K - i < fu → f_X4_first_L4 Fu k s (nI K) fu (nI (st i)) (nI i) = k (nI (st K)) := by
  have hn := hW.1
  intro fu
  induction fu with
  | zero => intro i a b; omega
  | succ fu ih =>
    intro i a b
    rw [f_X4_first_L4_s]
    by_cases hi : i = K
    · subst hi
      simp (disch := omega) only [gd_true, nm_eq, jn_eq, bd1_s, bd2_s, bd3_s, bd4_s, bd5_s, bd6_s, bd7_s, bd8_s, bd9_s, bd10_s, bd11_s, bd12_s, nI_add, pk_mul, pk_subs, nI_m1s, ix_nIs, nI_clamps, nI_les, nI_lts, nI_eqs, bz_0, bz_1, nI_zero, eq_self, if_true, if_false, if_pos, if_neg]
    · have e1 := hs i (by omega)
      have hm3 := hW.2.2.1 i (by omega)
      have hb := hW.b (show i + 1 ≤ ns by omega)
      simp (disch := omega) only [gd_true, nm_eq, jn_eq, bd1_s, bd2_s, bd3_s, bd4_s, bd5_s, bd6_s, bd7_s, bd8_s, bd9_s, bd10_s, bd11_s, bd12_s, nI_add, pk_mul, pk_subs, nI_m1s, ix_nIs, nI_clamps, nI_les, nI_lts, nI_eqs, bz_0, bz_1, nI_zero, eq_self, if_true, if_false, e1, if_pos, if_neg]
      rw [← ih (i + 1) (by omega) (by omega)]
      congr 2
      omega
theorem first_s {Fu : Nat} (hF : 20000000 ≤ Fu) {s : Ar} {ns : Nat} {st : Nat → Nat} (hW : SW ns st) (hs : ∀ k, k < ns → s (9 + k) = nI (st (k + 1) - st k)) {K : Nat} (hK : K ≤ ns) : f_X4_first Fu s (nI K) = some (nI (st K)) := by
  have hn := hW.1
  unfold f_X4_first
  have h := first_L Fu (fun v => some v) hW hs hK Fu 0 (Nat.zero_le _) (by omega)
  rw [hW.2.1] at h
  exact h
end
section
/-! PURE: a shelf's value, and what holds it on both sides -/
abbrev FN : Type := Nat → Nat
def Sh : Type := FN × Nat × FN × FN × FN × Ar × Ar × Int32 × Nat × Int32 × Int32
def Sh.mk (se : FN) (ns : Nat) (st le he : FN) (fa ge : Ar) (nf : Int32) (sp : Nat) (bo fi : Int32) : Sh := (se, ns, st, le, he, fa, ge, nf, sp, bo, fi)
def Sh.se (A : Sh) : FN := A.1
def Sh.ns (A : Sh) : Nat := A.2.1
def Sh.st (A : Sh) : FN := A.2.2.1
def Sh.le (A : Sh) : FN := A.2.2.2.1
def Sh.he (A : Sh) : FN := A.2.2.2.2.1
def Sh.fa (A : Sh) : Ar := A.2.2.2.2.2.1
def Sh.ge (A : Sh) : Ar := A.2.2.2.2.2.2.1
def Sh.nf (A : Sh) : Int32 := A.2.2.2.2.2.2.2.1
def Sh.sp (A : Sh) : Nat := A.2.2.2.2.2.2.2.2.1
def Sh.bo (A : Sh) : Int32 := A.2.2.2.2.2.2.2.2.2.1
def Sh.fi (A : Sh) : Int32 := A.2.2.2.2.2.2.2.2.2.2
/-- how many words -/
def Sh.wn (A : Sh) : Nat := A.st A.ns
def WF (A : Sh) : Prop := SW A.ns A.st ∧ (10 ≤ A.se 0 ∧ A.se 0 ≤ 99 ∧ A.se 1 ≤ 4 ∧ A.se 2 ≤ 20) ∧ (∀ p, p < A.wn → A.le p < 26 ∧ A.he p ≤ 999)
theorem WF.w {A : Sh} (h : WF A) : A.wn ≤ 150 := h.1.2.2.2
theorem WF.n {A : Sh} (h : WF A) : A.ns ≤ 12 := h.1.1
def RV (A : Sh) (se le he sa fa ge : Ar) (ns nf sp bo fi : Int32) : Prop :=
  (∀ i, i < 3 → se i = nI (A.se i)) ∧ (∀ p, p < A.wn → le p = nI (A.le p)) ∧ (∀ p, p < A.wn → he p = nI (A.he p)) ∧ (∀ k, k ≤ A.ns → sa k = nI (A.st k)) ∧ (∀ k, k < A.ns → fa k = A.fa k) ∧ (∀ k, k < A.ns → ge k = A.ge k) ∧ ns = nI A.ns ∧ nf = A.nf ∧ sp = nI A.sp ∧ bo = A.bo ∧ fi = A.fi
section RVs
variable {A : Sh} {se le he sa fa ge : Ar} {ns nf sp bo fi : Int32}
theorem RV.rse (h : RV A se le he sa fa ge ns nf sp bo fi) {i : Nat} (hi : i < 3) : se i = nI (A.se i) := h.1 i hi
theorem RV.rle (h : RV A se le he sa fa ge ns nf sp bo fi) {p : Nat} (hp : p < A.wn) : le p = nI (A.le p) := h.2.1 p hp
theorem RV.rhe (h : RV A se le he sa fa ge ns nf sp bo fi) {p : Nat} (hp : p < A.wn) : he p = nI (A.he p) := h.2.2.1 p hp
theorem RV.rsa (h : RV A se le he sa fa ge ns nf sp bo fi) {k : Nat} (hk : k ≤ A.ns) : sa k = nI (A.st k) := h.2.2.2.1 k hk
theorem RV.rfa (h : RV A se le he sa fa ge ns nf sp bo fi) {k : Nat} (hk : k < A.ns) : fa k = A.fa k := h.2.2.2.2.1 k hk
theorem RV.rge (h : RV A se le he sa fa ge ns nf sp bo fi) {k : Nat} (hk : k < A.ns) : ge k = A.ge k := h.2.2.2.2.2.1 k hk
theorem RV.rns (h : RV A se le he sa fa ge ns nf sp bo fi) : ns = nI A.ns := h.2.2.2.2.2.2.1
theorem RV.rnf (h : RV A se le he sa fa ge ns nf sp bo fi) : nf = A.nf := h.2.2.2.2.2.2.2.1
theorem RV.rsp (h : RV A se le he sa fa ge ns nf sp bo fi) : sp = nI A.sp := h.2.2.2.2.2.2.2.2.1
theorem RV.rbo (h : RV A se le he sa fa ge ns nf sp bo fi) : bo = A.bo := h.2.2.2.2.2.2.2.2.2.1
theorem RV.rfi (h : RV A se le he sa fa ge ns nf sp bo fi) : fi = A.fi := h.2.2.2.2.2.2.2.2.2.2
end RVs
def RS (A : Sh) (s : Ar) : Prop :=
  (∀ i, i < 3 → s i = nI (A.se i)) ∧ s 3 = nI A.ns ∧ s 4 = nI A.wn ∧ s 5 = A.nf ∧ s 6 = nI A.sp ∧ s 7 = A.bo ∧ s 8 = A.fi ∧ (∀ k, k < A.ns → s (9 + k) = nI (A.st (k + 1) - A.st k)) ∧ (∀ k, k < A.ns → s (21 + k) = A.fa k) ∧ (∀ k, k < A.ns → s (33 + k) = A.ge k) ∧ (∀ p, p < A.wn → s (45 + p) = nI (A.le p)) ∧ (∀ p, p < A.wn → s (195 + p) = nI (A.he p))
section RSs
variable {A : Sh} {s : Ar}
theorem RS.rse (h : RS A s) {i : Nat} (hi : i < 3) : s i = nI (A.se i) := h.1 i hi
theorem RS.rns (h : RS A s) : s 3 = nI A.ns := h.2.1
theorem RS.rwn (h : RS A s) : s 4 = nI A.wn := h.2.2.1
theorem RS.rnf (h : RS A s) : s 5 = A.nf := h.2.2.2.1
theorem RS.rsp (h : RS A s) : s 6 = nI A.sp := h.2.2.2.2.1
theorem RS.rbo (h : RS A s) : s 7 = A.bo := h.2.2.2.2.2.1
theorem RS.rfi (h : RS A s) : s 8 = A.fi := h.2.2.2.2.2.2.1
theorem RS.rlo (h : RS A s) {k : Nat} (hk : k < A.ns) : s (9 + k) = nI (A.st (k + 1) - A.st k) := h.2.2.2.2.2.2.2.1 k hk
theorem RS.rfa (h : RS A s) {k : Nat} (hk : k < A.ns) : s (21 + k) = A.fa k := h.2.2.2.2.2.2.2.2.1 k hk
theorem RS.rge (h : RS A s) {k : Nat} (hk : k < A.ns) : s (33 + k) = A.ge k := h.2.2.2.2.2.2.2.2.2.1 k hk
theorem RS.rle (h : RS A s) {p : Nat} (hp : p < A.wn) : s (45 + p) = nI (A.le p) := h.2.2.2.2.2.2.2.2.2.2.1 p hp
theorem RS.rhe (h : RS A s) {p : Nat} (hp : p < A.wn) : s (195 + p) = nI (A.he p) := h.2.2.2.2.2.2.2.2.2.2.2 p hp
end RSs
/-- a row of words: how often a letter stands there, and its heat -/
def cntR (le : FN) (lo n c : Nat) : Int32 := itF (fun p a => a + (if le p = c then nI 1 else nI 0)) lo n (nI 0)
def heatR (he : FN) (lo n : Nat) : Int32 := itF (fun p a => a + nI (he p)) lo n (nI 0)
section CL
variable {Fu : Nat} {A : Sh} {se le he sa fa ge : Ar} {ns nf sp bo fi : Int32}
theorem heatBetween_s (hF : 20000000 ≤ Fu) (hW : WF A) (h : RV A se le he sa fa ge ns nf sp bo fi) {lo hi : Nat} (h1 : lo ≤ hi) (h2 : hi ≤ A.wn) : f_X2_heatBetween Fu he (nI lo) (nI hi) = some (heatR A.he lo (hi - lo)) := by
  have hw := hW.w
  unfold f_X2_heatBetween
  rw [jn_eq, heatBetween_L Fu _ he hi (by omega) Fu lo _ h1 (by omega)]
  congr 1
  exact itF_congr (fun j x a b => by rw [h.rhe (show j < A.wn by omega)])
theorem heatOf_s (hF : 20000000 ≤ Fu) (hW : WF A) (h : RV A se le he sa fa ge ns nf sp bo fi) {k : Nat} (hk : k < A.ns) : f_X2_heatOf Fu he sa (nI k) = some (heatR A.he (A.st k) (A.st (k + 1) - A.st k)) := by
  have hn := hW.n
  have e1 := h.rsa (show k ≤ A.ns by omega)
  have e2 := h.rsa (show k + 1 ≤ A.ns by omega)
  have hm := hW.1.2.2.1 k hk
  have hm2 := hW.1.le (show k + 1 ≤ A.ns by omega) (Nat.le_refl _)
  have e3 := heatBetween_s hF hW h (Nat.le_of_lt hm) hm2
  unfold f_X2_heatOf
  simp (disch := omega) only [gd_true, nm_eq, jn_eq, bd1_s, bd2_s, bd3_s, bd4_s, bd5_s, bd6_s, bd7_s, bd8_s, bd9_s, bd10_s, bd11_s, bd12_s, nI_add, pk_mul, pk_subs, nI_m1s, ix_nIs, nI_clamps, nI_les, nI_lts, nI_eqs, bz_0, bz_1, nI_zero, eq_self, if_true, if_false, e1, e2, e3]
theorem words_r (hW : WF A) (h : RV A se le he sa fa ge ns nf sp bo fi) : f_X2_words Fu sa ns = some (nI A.wn) := by
  rw [h.rns]
  exact words_s Fu hW.1 (fun k hk => h.rsa hk)
theorem heatOfAll_s (hF : 20000000 ≤ Fu) (hW : WF A) (h : RV A se le he sa fa ge ns nf sp bo fi) : f_X2_heatOfAll Fu he sa ns = some (heatR A.he 0 A.wn) := by
  have e3 := heatBetween_s hF hW h (Nat.zero_le A.wn) (Nat.le_refl _)
  unfold f_X2_heatOfAll
  rw [words_r hW h, bd1_s, e3, bd1_s, Nat.sub_zero]
theorem timesBetween_L (Fu : Nat) (k : Int32 → Option Int32) (le : Ar) (lN : FN) (hi c : Nat) (hb : hi ≤ 150) (hc : c < 1000) (hl : ∀ p, p < hi → le p = nI (lN p) ∧ lN p < 1000) : ∀ (fu i : Nat) (acc : Int32), i ≤ hi → hi - i < fu → f_X2_timesBetween_L6 Fu k le (nI hi) (nI c) fu acc (nI i) = k (itF (fun p a => a + (if lN p = c then nI 1 else nI 0)) i (hi - i) acc) := by
  intro fu
  induction fu with
  | zero => intro i acc h1 h2; omega
  | succ fu ih =>
    intro i acc h1 h2
    rw [f_X2_timesBetween_L6_s]
    by_cases h : hi ≤ i
    · have e : hi - i = 0 := by omega
      rw [e, itF_0]
      simp (disch := omega) only [gd_true, nm_eq, jn_eq, bd1_s, bd2_s, bd3_s, bd4_s, bd5_s, bd6_s, bd7_s, bd8_s, bd9_s, bd10_s, bd11_s, bd12_s, nI_add, pk_mul, pk_subs, nI_m1s, ix_nIs, nI_clamps, nI_les, nI_lts, nI_eqs, bz_0, bz_1, nI_zero, eq_self, if_true, if_false, if_pos, if_neg]
    · have e : hi - i = (hi - (i + 1)) + 1 := by omega
      have e1 := (hl i (by omega)).1
      have e2 := (hl i (by omega)).2
      rw [e, itF_s, ← ih (i + 1) _ (by omega) (by omega)]
      simp (disch := omega) only [gd_true, nm_eq, jn_eq, bd1_s, bd2_s, bd3_s, bd4_s, bd5_s, bd6_s, bd7_s, bd8_s, bd9_s, bd10_s, bd11_s, bd12_s, nI_add, pk_mul, pk_subs, nI_m1s, ix_nIs, nI_clamps, nI_les, nI_lts, nI_eqs, bz_0, bz_1, nI_zero, eq_self, if_true, if_false, e1, if_neg h]
theorem timesBetween_s (hF : 20000000 ≤ Fu) (hW : WF A) (h : RV A se le he sa fa ge ns nf sp bo fi) {lo hi c : Nat} (hc : c < 1000) (h1 : lo ≤ hi) (h2 : hi ≤ A.wn) : f_X2_timesBetween Fu le (nI lo) (nI hi) (nI c) = some (cntR A.le lo (hi - lo) c) := by
  have hw := hW.w
  unfold f_X2_timesBetween
  rw [jn_eq, timesBetween_L Fu _ le A.le hi c (by omega) hc (fun p hp => ⟨h.rle (show p < A.wn by omega), by have := (hW.2.2 p (by omega)).1; omega⟩) Fu lo _ h1 (by omega)]
  rfl
theorem timesIn_s (hF : 20000000 ≤ Fu) (hW : WF A) (h : RV A se le he sa fa ge ns nf sp bo fi) {k c : Nat} (hc : c < 1000) (hk : k < A.ns) : f_X2_timesIn Fu le sa (nI k) (nI c) = some (cntR A.le (A.st k) (A.st (k + 1) - A.st k) c) := by
  have hn := hW.n
  have e1 := h.rsa (show k ≤ A.ns by omega)
  have e2 := h.rsa (show k + 1 ≤ A.ns by omega)
  have hm := hW.1.2.2.1 k hk
  have hm2 := hW.1.le (show k + 1 ≤ A.ns by omega) (Nat.le_refl _)
  have e3 := timesBetween_s hF hW h hc (Nat.le_of_lt hm) hm2
  unfold f_X2_timesIn
  simp (disch := omega) only [gd_true, nm_eq, jn_eq, bd1_s, bd2_s, bd3_s, bd4_s, bd5_s, bd6_s, bd7_s, bd8_s, bd9_s, bd10_s, bd11_s, bd12_s, nI_add, pk_mul, pk_subs, nI_m1s, ix_nIs, nI_clamps, nI_les, nI_lts, nI_eqs, bz_0, bz_1, nI_zero, eq_self, if_true, if_false, e1, e2, e3]
theorem timesInAll_s (hF : 20000000 ≤ Fu) (hW : WF A) (h : RV A se le he sa fa ge ns nf sp bo fi) {c : Nat} (hc : c < 1000) : f_X2_timesInAll Fu le sa ns (nI c) = some (cntR A.le 0 A.wn c) := by
  have e3 := timesBetween_s hF hW h hc (Nat.zero_le A.wn) (Nat.le_refl _)
  unfold f_X2_timesInAll
  rw [words_r hW h, bd1_s, e3, bd1_s, Nat.sub_zero]
end CL
end
section
/-! PURE: what there is, the program's side -/
theorem ite_nI {c : Prop} {i : Decidable c} (a b : Nat) : (if c then nI a else nI b) = nI (if c then a else b) := by
  by_cases h : c
  · rw [if_pos h, if_pos h]
  · rw [if_neg h, if_neg h]
/-- the theme out of a tally; unlike letters -/
def thR (t : Nat → Int32) : Nat := itF (fun c g => if t c ≤ t g then g else c) 1 25 0
def unR (t : Nat → Int32) : Int32 := itF (fun c a => a + (if t c ≤ nI 0 then nI 0 else nI 1)) 0 26 (nI 0)
theorem thR_lt (t : Nat → Int32) : thR t < 26 := by
  have := itF_inv (fun c g => if t c ≤ t g then g else c) (fun _ g => g < 26) 25 1 0 (by omega) (fun j b h1 h2 h3 => by
    show (if t j ≤ t b then b else j) < 26
    by_cases h : t j ≤ t b
    · rw [if_pos h]; exact h3
    · rw [if_neg h]; omega)
  exact this
theorem thR_congr {t u : Nat → Int32} (h : ∀ c, c < 26 → t c = u c) : thR t = thR u := by
  have := itF_rel (fun c g => if t c ≤ t g then g else c) (fun c g => if u c ≤ u g then g else c) 0 (fun _ x z => x = z ∧ x < 26) 25 1 0 0 ⟨rfl, by omega⟩ (fun j x z h1 h2 h3 => by
    obtain ⟨rfl, h4⟩ := h3
    rw [Nat.zero_add]
    show (if t j ≤ t x then x else j) = (if u j ≤ u x then x else j) ∧ (if t j ≤ t x then x else j) < 26
    rw [h j (by omega), h x h4]
    refine ⟨rfl, ?_⟩
    by_cases hh : u j ≤ u x
    · rw [if_pos hh]; exact h4
    · rw [if_neg hh]; omega)
  exact this.1
theorem unR_congr {t u : Nat → Int32} (h : ∀ c, c < 26 → t c = u c) : unR t = unR u :=
  itF_congr (fun j x _ h2 => by rw [h j (by omega)])
/-- the tally of the story k -/
def taR (A : Sh) (k : Nat) : Nat → Int32 := fun c => cntR A.le (A.st k) (A.st (k + 1) - A.st k) c
def hoR (he : FN) (lo n : Nat) : Nat := itF (fun p g => if he p ≤ he g then g else p) lo n lo
section CQ
variable {Fu : Nat} {A : Sh} {se le he sa fa ge : Ar} {ns nf sp bo fi : Int32}
theorem tallyOf_L (Fu : Nat) (k : Ar → Option Ar) (hW : WF A) (h : RV A se le he sa fa ge ns nf sp bo fi) {K : Nat} (hK : K < A.ns) : ∀ (fu i : Nat) (t : Ar), i ≤ A.st (K + 1) → A.st (K + 1) - i < fu → f_X2_tallyOf_L15 Fu k le sa (nI K) fu (nI i) t = k (itF (fun p t => upd t (A.le p) (t (A.le p) + nI 1)) i (A.st (K + 1) - i) t) := by
  have hn := hW.n
  have e2 := h.rsa (show K + 1 ≤ A.ns by omega)
  have hm2 := hW.1.le (show K + 1 ≤ A.ns by omega) (Nat.le_refl _)
  have hw := hW.w
  have hw' : A.st A.ns ≤ 150 := hW.w
  intro fu
  induction fu with
  | zero => intro i t h1 h2; omega
  | succ fu ih =>
    intro i t h1 h2
    rw [f_X2_tallyOf_L15_s]
    by_cases hh : A.st (K + 1) ≤ i
    · have e : A.st (K + 1) - i = 0 := by omega
      rw [e, itF_0]
      simp (disch := omega) only [gd_true, nm_eq, jn_eq, bd1_s, bd2_s, bd3_s, bd4_s, bd5_s, bd6_s, bd7_s, bd8_s, bd9_s, bd10_s, bd11_s, bd12_s, nI_add, pk_mul, pk_subs, nI_m1s, ix_nIs, nI_clamps, nI_les, nI_lts, nI_eqs, bz_0, bz_1, nI_zero, eq_self, if_true, if_false, e2, if_pos]
    · have e : A.st (K + 1) - i = (A.st (K + 1) - (i + 1)) + 1 := by omega
      have hp : i < A.wn := by unfold Sh.wn; omega
      have e1 := h.rle hp
      have e3 := (hW.2.2 i hp).1
      rw [e, itF_s, ← ih (i + 1) _ (by omega) (by omega)]
      simp (disch := omega) only [gd_true, nm_eq, jn_eq, bd1_s, bd2_s, bd3_s, bd4_s, bd5_s, bd6_s, bd7_s, bd8_s, bd9_s, bd10_s, bd11_s, bd12_s, nI_add, pk_mul, pk_subs, nI_m1s, ix_nIs, nI_clamps, nI_les, nI_lts, nI_eqs, bz_0, bz_1, nI_zero, eq_self, if_true, if_false, e1, e2, if_neg]
theorem tally_pt (le : FN) (c : Nat) (n lo : Nat) (t : Ar) : (itF (fun p t => upd t (le p) (t (le p) + nI 1)) lo n t) c = itF (fun p a => a + (if le p = c then nI 1 else nI 0)) lo n (t c) := by
  have := itF_rel (fun p t => upd t (le p) (t (le p) + nI 1)) (fun p a => a + (if le p = c then nI 1 else nI 0)) 0 (fun _ (x : Ar) z => x c = z) n lo t (t c) rfl (fun j x z h1 h2 h3 => by
    show upd x (le j) (x (le j) + nI 1) c = z + (if le (0 + j) = c then nI 1 else nI 0)
    rw [Nat.zero_add]
    unfold upd
    by_cases hh : le j = c
    · rw [if_pos hh, if_pos hh.symm, hh, h3]
    · rw [if_neg hh, if_neg (fun e => hh e.symm), h3, nI_0, Int32.add_zero])
  rw [Nat.zero_add] at this
  exact this
theorem tallyOf_s (hF : 20000000 ≤ Fu) (hW : WF A) (h : RV A se le he sa fa ge ns nf sp bo fi) (t0 : Ar) {K : Nat} (hK : K < A.ns) : ∃ t, f_X2_tallyOf Fu le sa t0 (nI K) = some t ∧ ∀ c, t c = taR A K c := by
  have hn := hW.n
  have hw := hW.w
  have hw' : A.st A.ns ≤ 150 := hW.w
  have e1 := h.rsa (show K ≤ A.ns by omega)
  have hm := hW.1.2.2.1 K hK
  have hm2 := hW.1.le (show K + 1 ≤ A.ns by omega) (Nat.le_refl _)
  refine ⟨itF (fun p t => upd t (A.le p) (t (A.le p) + nI 1)) (A.st K) (A.st (K + 1) - A.st K) (fun _ => nI 0), ?_, fun c => tally_pt A.le c _ _ _⟩
  unfold f_X2_tallyOf
  rw [ix_nIs (by omega) (by omega), gd_true, jn_eq, nI_clamps (by omega), e1]
  rw [tallyOf_L Fu _ hW h hK Fu (A.st K) _ (by omega) (by unfold Sh.wn at hw; omega)]
theorem themeOf_L (Fu : Nat) (k : Int32 → Option (Int32 × Ar)) (t : Ar) : ∀ (fu i g : Nat), i ≤ 26 → g < 26 → 26 - i < fu → f_X2_themeOf_L9 Fu k t fu (nI g) (nI i) = k (nI (itF (fun c g => if t c ≤ t g then g else c) i (26 - i) g)) := by
  intro fu
  induction fu with
  | zero => intro i g h1 h2 h3; omega
  | succ fu ih =>
    intro i g h1 h2 h3
    rw [f_X2_themeOf_L9_s]
    by_cases hh : 26 ≤ i
    · have e : 26 - i = 0 := by omega
      rw [e, itF_0]
      simp (disch := omega) only [gd_true, nm_eq, jn_eq, bd1_s, bd2_s, bd3_s, bd4_s, bd5_s, bd6_s, bd7_s, bd8_s, bd9_s, bd10_s, bd11_s, bd12_s, nI_add, pk_mul, pk_subs, nI_m1s, ix_nIs, nI_clamps, nI_les, nI_lts, nI_eqs, bz_0, bz_1, nI_zero, eq_self, if_true, if_false, if_pos, if_neg]
    · have e : 26 - i = (26 - (i + 1)) + 1 := by omega
      have hg : (if t i ≤ t g then g else i) < 26 := by
        by_cases h : t i ≤ t g
        · rw [if_pos h]; exact h2
        · rw [if_neg h]; omega
      rw [e, itF_s, ← ih (i + 1) _ (by omega) hg (by omega)]
      simp (disch := omega) only [gd_true, nm_eq, jn_eq, bd1_s, bd2_s, bd3_s, bd4_s, bd5_s, bd6_s, bd7_s, bd8_s, bd9_s, bd10_s, bd11_s, bd12_s, nI_add, pk_mul, pk_subs, nI_m1s, ix_nIs, nI_clamps, nI_les, nI_lts, nI_eqs, bz_0, bz_1, nI_zero, eq_self, if_true, if_false, if_neg, ite_nI]
theorem themeOf_s (hF : 20000000 ≤ Fu) (hW : WF A) (h : RV A se le he sa fa ge ns nf sp bo fi) (t0 : Ar) {K : Nat} (hK : K < A.ns) : ∃ t, f_X2_themeOf Fu le sa t0 (nI K) = some (nI (thR (taR A K)), t) := by
  obtain ⟨t, h1, h2⟩ := tallyOf_s hF hW h t0 hK
  refine ⟨t, ?_⟩
  unfold f_X2_themeOf
  rw [h1, bd1_s, jn_eq, themeOf_L Fu _ t Fu 1 0 (by omega) (by omega) (by omega)]
  have : thR t = thR (taR A K) := thR_congr (fun c _ => h2 c)
  rw [← this]
  rfl
theorem unlikeLettersOf_L (Fu : Nat) (k : Int32 → Option (Int32 × Ar)) (t : Ar) : ∀ (fu i : Nat) (a : Int32), i ≤ 26 → 26 - i < fu → f_X2_unlikeLettersOf_L9 Fu k t fu a (nI i) = k (itF (fun c a => a + (if t c ≤ nI 0 then nI 0 else nI 1)) i (26 - i) a) := by
  intro fu
  induction fu with
  | zero => intro i g h1 h3; omega
  | succ fu ih =>
    intro i g h1 h3
    rw [f_X2_unlikeLettersOf_L9_s]
    by_cases hh : 26 ≤ i
    · have e : 26 - i = 0 := by omega
      rw [e, itF_0]
      simp (disch := omega) only [gd_true, nm_eq, jn_eq, bd1_s, bd2_s, bd3_s, bd4_s, bd5_s, bd6_s, bd7_s, bd8_s, bd9_s, bd10_s, bd11_s, bd12_s, nI_add, pk_mul, pk_subs, nI_m1s, ix_nIs, nI_clamps, nI_les, nI_lts, nI_eqs, bz_0, bz_1, nI_zero, eq_self, if_true, if_false, if_pos, if_neg]
    · have e : 26 - i = (26 - (i + 1)) + 1 := by omega
      rw [e, itF_s, ← ih (i + 1) _ (by omega) (by omega)]
      simp (disch := omega) only [gd_true, nm_eq, jn_eq, bd1_s, bd2_s, bd3_s, bd4_s, bd5_s, bd6_s, bd7_s, bd8_s, bd9_s, bd10_s, bd11_s, bd12_s, nI_add, pk_mul, pk_subs, nI_m1s, ix_nIs, nI_clamps, nI_les, nI_lts, nI_eqs, bz_0, bz_1, nI_zero, eq_self, if_true, if_false, if_neg]
theorem unlikeLettersOf_s (hF : 20000000 ≤ Fu) (hW : WF A) (h : RV A se le he sa fa ge ns nf sp bo fi) (t0 : Ar) {K : Nat} (hK : K < A.ns) : ∃ t, f_X2_unlikeLettersOf Fu le sa t0 (nI K) = some (unR (taR A K), t) := by
  obtain ⟨t, h1, h2⟩ := tallyOf_s hF hW h t0 hK
  refine ⟨t, ?_⟩
  unfold f_X2_unlikeLettersOf
  rw [h1, bd1_s, jn_eq, unlikeLettersOf_L Fu _ t Fu 0 _ (by omega) (by omega)]
  have : unR t = unR (taR A K) := unR_congr (fun c _ => h2 c)
  rw [← this]
  rfl
theorem hottestOf_L (Fu : Nat) (k : Int32 → Option Int32) (hW : WF A) (h : RV A se le he sa fa ge ns nf sp bo fi) {K : Nat} (hK : K < A.ns) : ∀ (fu i g : Nat), i ≤ A.st (K + 1) → g < A.st (K + 1) → A.st (K + 1) - i < fu → f_X2_hottestOf_L14 Fu k he sa (nI K) fu (nI g) (nI i) = k (nI (itF (fun p g => if A.he p ≤ A.he g then g else p) i (A.st (K + 1) - i) g)) := by
  have hn := hW.n
  have e2 := h.rsa (show K + 1 ≤ A.ns by omega)
  have hm2 := hW.1.le (show K + 1 ≤ A.ns by omega) (Nat.le_refl _)
  have hw := hW.w
  have hw' : A.st A.ns ≤ 150 := hW.w
  intro fu
  induction fu with
  | zero => intro i g h1 h2 h3; omega
  | succ fu ih =>
    intro i g h1 h2 h3
    rw [f_X2_hottestOf_L14_s]
    by_cases hh : A.st (K + 1) ≤ i
    · have e : A.st (K + 1) - i = 0 := by omega
      rw [e, itF_0]
      simp (disch := omega) only [gd_true, nm_eq, jn_eq, bd1_s, bd2_s, bd3_s, bd4_s, bd5_s, bd6_s, bd7_s, bd8_s, bd9_s, bd10_s, bd11_s, bd12_s, nI_add, pk_mul, pk_subs, nI_m1s, ix_nIs, nI_clamps, nI_les, nI_lts, nI_eqs, bz_0, bz_1, nI_zero, eq_self, if_true, if_false, e2, if_pos]
    · have e : A.st (K + 1) - i = (A.st (K + 1) - (i + 1)) + 1 := by omega
      have hp : i < A.wn := by unfold Sh.wn; omega
      have hq : g < A.wn := by unfold Sh.wn; omega
      have e1 := h.rhe hp
      have e3 := h.rhe hq
      have e4 := (hW.2.2 i hp).2
      have e5 := (hW.2.2 g hq).2
      have hg : (if A.he i ≤ A.he g then g else i) < A.st (K + 1) := by
        by_cases h : A.he i ≤ A.he g
        · rw [if_pos h]; exact h2
        · rw [if_neg h]; omega
      rw [e, itF_s, ← ih (i + 1) _ (by omega) hg (by omega)]
      simp (disch := omega) only [gd_true, nm_eq, jn_eq, bd1_s, bd2_s, bd3_s, bd4_s, bd5_s, bd6_s, bd7_s, bd8_s, bd9_s, bd10_s, bd11_s, bd12_s, nI_add, pk_mul, pk_subs, nI_m1s, ix_nIs, nI_clamps, nI_les, nI_lts, nI_eqs, bz_0, bz_1, nI_zero, eq_self, if_true, if_false, e1, e2, e3, if_neg hh, ite_nI]
theorem hoR_lt (he : FN) {lo n : Nat} (hn : 0 < n) : lo ≤ hoR he lo n ∧ hoR he lo n < lo + n := by
  have := itF_inv (fun p g => if he p ≤ he g then g else p) (fun _ g => lo ≤ g ∧ g < lo + n) n lo lo (by omega) (fun j b h1 h2 h3 => by
    show lo ≤ (if he j ≤ he b then b else j) ∧ (if he j ≤ he b then b else j) < lo + n
    by_cases h : he j ≤ he b
    · rw [if_pos h]; exact h3
    · rw [if_neg h]; omega)
  exact this
theorem hottestOf_s (hF : 20000000 ≤ Fu) (hW : WF A) (h : RV A se le he sa fa ge ns nf sp bo fi) {K : Nat} (hK : K < A.ns) : f_X2_hottestOf Fu he sa (nI K) = some (nI (hoR A.he (A.st K) (A.st (K + 1) - A.st K) - A.st K)) := by
  have hn := hW.n
  have e1 := h.rsa (show K ≤ A.ns by omega)
  have hm := hW.1.2.2.1 K hK
  have hm2 := hW.1.le (show K + 1 ≤ A.ns by omega) (Nat.le_refl _)
  have hw := hW.w
  have hw' : A.st A.ns ≤ 150 := hW.w
  have hb := hoR_lt A.he (lo := A.st K) (show 0 < A.st (K + 1) - A.st K by omega)
  unfold f_X2_hottestOf
  rw [ix_nIs (by omega) (by omega), gd_true, gd_true, jn_eq, nI_clamps (by omega), e1, hottestOf_L Fu _ hW h hK Fu (A.st K) (A.st K) (by omega) (by omega) (by unfold Sh.wn at hw; omega)]
  show gd true (some (nI (hoR A.he (A.st K) (A.st (K + 1) - A.st K)) - nI (A.st K))) = _
  rw [gd_true, pk_subs hb.1]
/-- a story reads the same from both ends -/
def palB (le : FN) (lo n : Nat) : Bool := decide (∀ j, j < n → le (lo + j) = le (lo + n - 1 - j))
theorem int_half {n : Nat} (h : n < 1000000) : nI n / nI 2 = nI (n / 2) := pk_div (by omega) (by omega) (by omega)
theorem reads_L (Fu : Nat) (hW : WF A) (h : RV A se le he sa fa ge ns nf sp bo fi) {K : Nat} (hK : K < A.ns) : ∀ (fu i : Nat), i ≤ (A.st (K + 1) - A.st K) / 2 → (∀ j, j < i → A.le (A.st K + j) = A.le (A.st (K + 1) - 1 - j)) → (A.st (K + 1) - A.st K) / 2 - i < fu → f_X2_readsFromBothEnds_L13 Fu le sa (nI K) (nI (A.st (K + 1) - 1)) fu (nI i) = some (if palB A.le (A.st K) (A.st (K + 1) - A.st K) = true then nI 1 else nI 0) := by
  have hn := hW.n
  have e1 := h.rsa (show K ≤ A.ns by omega)
  have hm := hW.1.2.2.1 K hK
  have hm2 := hW.1.le (show K + 1 ≤ A.ns by omega) (Nat.le_refl _)
  have hw := hW.w
  have hw' : A.st A.ns ≤ 150 := hW.w
  have es := sizeOf_s Fu hW.1 (fun k hk => h.rsa hk) hK
  have eh := int_half (show A.st (K + 1) - A.st K < 1000000 by unfold Sh.wn at hw; omega)
  intro fu
  induction fu with
  | zero => intro i h1 h2 h3; omega
  | succ fu ih =>
    intro i h1 h2 h3
    rw [f_X2_readsFromBothEnds_L13_s, es, bd1_s, eh]
    by_cases hh : (A.st (K + 1) - A.st K) / 2 ≤ i
    · have hp : palB A.le (A.st K) (A.st (K + 1) - A.st K) = true := by
        simp only [palB, decide_eq_true_eq]
        intro j hj
        by_cases hlo : j < i
        · have := h2 j hlo
          rw [show A.st K + (A.st (K + 1) - A.st K) - 1 - j = A.st (K + 1) - 1 - j by omega]
          exact this
        · by_cases hmid : j = A.st (K + 1) - A.st K - 1 - j
          · rw [show A.st K + (A.st (K + 1) - A.st K) - 1 - j = A.st K + j by omega]
          · have := h2 (A.st (K + 1) - A.st K - 1 - j) (by omega)
            rw [show A.st K + (A.st (K + 1) - A.st K) - 1 - j = A.st K + (A.st (K + 1) - A.st K - 1 - j) by omega, this]
            congr 1
            omega
      rw [if_pos hp]
      simp (disch := omega) only [gd_true, nm_eq, jn_eq, bd1_s, bd2_s, bd3_s, bd4_s, bd5_s, bd6_s, bd7_s, bd8_s, bd9_s, bd10_s, bd11_s, bd12_s, nI_add, pk_mul, pk_subs, nI_m1s, ix_nIs, nI_clamps, nI_les, nI_lts, nI_eqs, bz_0, bz_1, nI_zero, eq_self, if_true, if_false, if_pos, if_neg]
    · have hp1 : A.st K + i < A.wn := by unfold Sh.wn; omega
      have hp2 : A.st (K + 1) - 1 - i < A.wn := by unfold Sh.wn; omega
      have l1 := h.rle hp1
      have l2 := h.rle hp2
      have b1 := (hW.2.2 _ hp1).1
      have b2 := (hW.2.2 _ hp2).1
      by_cases hq : A.le (A.st K + i) = A.le (A.st (K + 1) - 1 - i)
      · have := ih (i + 1) (by omega) (fun j hj => by
          by_cases hji : j = i
          · rw [hji]; exact hq
          · exact h2 j (by omega)) (by omega)
        rw [← this]
        simp (disch := omega) only [gd_true, nm_eq, jn_eq, bd1_s, bd2_s, bd3_s, bd4_s, bd5_s, bd6_s, bd7_s, bd8_s, bd9_s, bd10_s, bd11_s, bd12_s, nI_add, pk_mul, pk_subs, nI_m1s, ix_nIs, nI_clamps, nI_les, nI_lts, nI_eqs, bz_0, bz_1, nI_zero, eq_self, if_true, if_false, e1, l1, l2, if_neg hh, if_pos hq]
      · have hp : ¬ palB A.le (A.st K) (A.st (K + 1) - A.st K) = true := by
          simp only [palB, decide_eq_true_eq]
          intro z
          have := z i (by omega)
          rw [show A.st K + (A.st (K + 1) - A.st K) - 1 - i = A.st (K + 1) - 1 - i by omega] at this
          exact hq this
        rw [if_neg hp]
        simp (disch := omega) only [gd_true, nm_eq, jn_eq, bd1_s, bd2_s, bd3_s, bd4_s, bd5_s, bd6_s, bd7_s, bd8_s, bd9_s, bd10_s, bd11_s, bd12_s, nI_add, pk_mul, pk_subs, nI_m1s, ix_nIs, nI_clamps, nI_les, nI_lts, nI_eqs, bz_0, bz_1, nI_zero, eq_self, if_true, if_false, e1, l1, l2, if_neg hh, if_neg hq]
theorem reads_s (hF : 20000000 ≤ Fu) (hW : WF A) (h : RV A se le he sa fa ge ns nf sp bo fi) {K : Nat} (hK : K < A.ns) : f_X2_readsFromBothEnds Fu le sa (nI K) = some (if palB A.le (A.st K) (A.st (K + 1) - A.st K) = true then nI 1 else nI 0) := by
  have hn := hW.n
  have e2 := h.rsa (show K + 1 ≤ A.ns by omega)
  have hm := hW.1.2.2.1 K hK
  have hm2 := hW.1.le (show K + 1 ≤ A.ns by omega) (Nat.le_refl _)
  have hw := hW.w
  have hw' : A.st A.ns ≤ 150 := hW.w
  have := reads_L Fu hW h hK Fu 0 (Nat.zero_le _) (fun j hj => by omega) (by unfold Sh.wn at hw; omega)
  rw [← this]
  unfold f_X2_readsFromBothEnds
  simp (disch := omega) only [gd_true, nm_eq, jn_eq, bd1_s, bd2_s, bd3_s, bd4_s, bd5_s, bd6_s, bd7_s, bd8_s, bd9_s, bd10_s, bd11_s, bd12_s, nI_add, pk_mul, pk_subs, nI_m1s, ix_nIs, nI_clamps, nI_les, nI_lts, nI_eqs, bz_0, bz_1, nI_zero, eq_self, if_true, if_false, e2]
end CQ
end
section
/-! PURE: what there is, further; the reference's side -/
def newF (fa : Ar) (k : Nat) : Bool := decide (∀ o, o < k → ¬ fa o = fa k)
def famR (fa : Ar) (ns : Nat) : Int32 := itF (fun k a => a + (if newF fa k = true then nI 1 else nI 0)) 0 ns (nI 0)
def grR (ge : Ar) (ns : Nat) : Int32 := itF (fun k a => if ge k ≤ a then a else ge k) 0 ns (-6)
def withR (A : Sh) (c : Nat) : Int32 := itF (fun k a => a + (if taR A k c ≤ nI 0 then nI 0 else nI 1)) 0 A.ns (nI 0)
def ofthR (A : Sh) (c : Nat) : Int32 := itF (fun k a => a + (if thR (taR A k) = c then nI 1 else nI 0)) 0 A.ns (nI 0)
def hlR (A : Sh) (c : Nat) : Int32 := itF (fun p a => a + (if A.le p = c then nI (A.he p) else nI 0)) 0 A.wn (nI 0)
section CQ2
variable {Fu : Nat} {A : Sh} {se le he sa fa ge : Ar} {ns nf sp bo fi : Int32}
theorem isFirst_L (Fu : Nat) (hW : WF A) (h : RV A se le he sa fa ge ns nf sp bo fi) {K : Nat} (hK : K < A.ns) : ∀ (fu i : Nat), i ≤ K → (∀ o, o < i → ¬ A.fa o = A.fa K) → K - i < fu → f_X2_isFirstOfFamily_L2 Fu fa (nI K) fu (nI i) = some (if newF A.fa K = true then nI 1 else nI 0) := by
  have hn := hW.n
  intro fu
  induction fu with
  | zero => intro i h1 h2 h3; omega
  | succ fu ih =>
    intro i h1 h2 h3
    rw [f_X2_isFirstOfFamily_L2_s]
    by_cases hh : K ≤ i
    · have e : newF A.fa K = true := by
        simp only [newF, decide_eq_true_eq]
        intro o ho
        exact h2 o (by omega)
      rw [if_pos e]
      simp (disch := omega) only [gd_true, nm_eq, jn_eq, bd1_s, bd2_s, bd3_s, bd4_s, bd5_s, bd6_s, bd7_s, bd8_s, bd9_s, bd10_s, bd11_s, bd12_s, nI_add, pk_mul, pk_subs, nI_m1s, ix_nIs, nI_clamps, nI_les, nI_lts, nI_eqs, bz_0, bz_1, nI_zero, eq_self, if_true, if_false, if_pos, if_neg]
    · have e1 := h.rfa hK
      have e2 := h.rfa (show i < A.ns by omega)
      by_cases hq : A.fa i = A.fa K
      · have e : ¬ newF A.fa K = true := by
          simp only [newF, decide_eq_true_eq]
          intro z
          exact z i (by omega) hq
        rw [if_neg e]
        simp (disch := omega) only [gd_true, nm_eq, jn_eq, bd1_s, bd2_s, bd3_s, bd4_s, bd5_s, bd6_s, bd7_s, bd8_s, bd9_s, bd10_s, bd11_s, bd12_s, nI_add, pk_mul, pk_subs, nI_m1s, ix_nIs, nI_clamps, nI_les, nI_lts, nI_eqs, bz_0, bz_1, nI_zero, eq_self, if_true, if_false, e1, e2, if_neg hh, if_pos hq]
      · rw [← ih (i + 1) (by omega) (fun o ho => by
          by_cases hoi : o = i
          · rw [hoi]; exact hq
          · exact h2 o (by omega)) (by omega)]
        simp (disch := omega) only [gd_true, nm_eq, jn_eq, bd1_s, bd2_s, bd3_s, bd4_s, bd5_s, bd6_s, bd7_s, bd8_s, bd9_s, bd10_s, bd11_s, bd12_s, nI_add, pk_mul, pk_subs, nI_m1s, ix_nIs, nI_clamps, nI_les, nI_lts, nI_eqs, bz_0, bz_1, nI_zero, eq_self, if_true, if_false, e1, e2, if_neg hh, if_neg hq]
theorem families_L (Fu : Nat) (hF : 20000000 ≤ Fu) (k : Int32 → Option Int32) (hW : WF A) (h : RV A se le he sa fa ge ns nf sp bo fi) : ∀ (fu i : Nat) (a : Int32), i ≤ A.ns → A.ns - i < fu → f_X2_unlikeFamilies_L4 Fu k fa (nI A.ns) fu a (nI i) = k (itF (fun k a => a + (if newF A.fa k = true then nI 1 else nI 0)) i (A.ns - i) a) := by
  have hn := hW.n
  intro fu
  induction fu with
  | zero => intro i a h1 h2; omega
  | succ fu ih =>
    intro i a h1 h2
    rw [f_X2_unlikeFamilies_L4_s]
    by_cases hh : A.ns ≤ i
    · have e : A.ns - i = 0 := by omega
      rw [e, itF_0]
      simp (disch := omega) only [gd_true, nm_eq, jn_eq, bd1_s, bd2_s, bd3_s, bd4_s, bd5_s, bd6_s, bd7_s, bd8_s, bd9_s, bd10_s, bd11_s, bd12_s, nI_add, pk_mul, pk_subs, nI_m1s, ix_nIs, nI_clamps, nI_les, nI_lts, nI_eqs, bz_0, bz_1, nI_zero, eq_self, if_true, if_false, if_pos, if_neg]
    · have e : A.ns - i = (A.ns - (i + 1)) + 1 := by omega
      rw [e, itF_s, ← ih (i + 1) _ (by omega) (by omega)]
      have e1 : f_X2_isFirstOfFamily Fu fa (nI i) = _ := isFirst_L Fu hW h (show i < A.ns by omega) Fu 0 (Nat.zero_le _) (fun o ho => by omega) (by omega)
      by_cases hq : newF A.fa i = true
      · rw [if_pos hq] at e1 ⊢
        simp (disch := omega) only [gd_true, nm_eq, jn_eq, bd1_s, bd2_s, bd3_s, bd4_s, bd5_s, bd6_s, bd7_s, bd8_s, bd9_s, bd10_s, bd11_s, bd12_s, nI_add, pk_mul, pk_subs, nI_m1s, ix_nIs, nI_clamps, nI_les, nI_lts, nI_eqs, bz_0, bz_1, nI_zero, eq_self, if_true, if_false, e1, if_neg hh, if_neg (show ¬ (1 : Nat) = 0 by decide)]
      · rw [if_neg hq] at e1 ⊢
        simp (disch := omega) only [gd_true, nm_eq, jn_eq, bd1_s, bd2_s, bd3_s, bd4_s, bd5_s, bd6_s, bd7_s, bd8_s, bd9_s, bd10_s, bd11_s, bd12_s, nI_add, pk_mul, pk_subs, nI_m1s, ix_nIs, nI_clamps, nI_les, nI_lts, nI_eqs, bz_0, bz_1, nI_zero, eq_self, if_true, if_false, e1, if_neg hh, if_pos]
theorem families_s (hF : 20000000 ≤ Fu) (hW : WF A) (h : RV A se le he sa fa ge ns nf sp bo fi) : f_X2_unlikeFamilies Fu fa ns = some (famR A.fa A.ns) := by
  have hn := hW.n
  rw [h.rns]
  unfold f_X2_unlikeFamilies
  rw [jn_eq, families_L Fu hF _ hW h Fu 0 _ (Nat.zero_le _) (by omega)]
  rfl
theorem greatest_L (Fu : Nat) (k : Int32 → Option Int32) (hW : WF A) (h : RV A se le he sa fa ge ns nf sp bo fi) : ∀ (fu i : Nat) (a : Int32), i ≤ A.ns → A.ns - i < fu → f_X2_greatestGeneration_L5 Fu k ge (nI A.ns) fu a (nI i) = k (itF (fun k a => if A.ge k ≤ a then a else A.ge k) i (A.ns - i) a) := by
  have hn := hW.n
  intro fu
  induction fu with
  | zero => intro i a h1 h2; omega
  | succ fu ih =>
    intro i a h1 h2
    rw [f_X2_greatestGeneration_L5_s]
    by_cases hh : A.ns ≤ i
    · have e : A.ns - i = 0 := by omega
      rw [e, itF_0]
      simp (disch := omega) only [gd_true, nm_eq, jn_eq, bd1_s, bd2_s, bd3_s, bd4_s, bd5_s, bd6_s, bd7_s, bd8_s, bd9_s, bd10_s, bd11_s, bd12_s, nI_add, pk_mul, pk_subs, nI_m1s, ix_nIs, nI_clamps, nI_les, nI_lts, nI_eqs, bz_0, bz_1, nI_zero, eq_self, if_true, if_false, if_pos, if_neg]
    · have e : A.ns - i = (A.ns - (i + 1)) + 1 := by omega
      have e1 := h.rge (show i < A.ns by omega)
      have e2 : jmax a (A.ge i) = (if A.ge i ≤ a then a else A.ge i) := by
        unfold jmax
        by_cases hq : A.ge i ≤ a
        · rw [if_pos hq, if_neg (Int32.not_lt.mpr hq)]
        · rw [if_neg hq, if_pos (Int32.not_le.mp hq)]
      rw [e, itF_s, ← ih (i + 1) _ (by omega) (by omega)]
      simp (disch := omega) only [gd_true, nm_eq, jn_eq, bd1_s, bd2_s, bd3_s, bd4_s, bd5_s, bd6_s, bd7_s, bd8_s, bd9_s, bd10_s, bd11_s, bd12_s, nI_add, pk_mul, pk_subs, nI_m1s, ix_nIs, nI_clamps, nI_les, nI_lts, nI_eqs, bz_0, bz_1, nI_zero, eq_self, if_true, if_false, e1, e2, if_neg hh]
theorem greatest_s (hF : 20000000 ≤ Fu) (hW : WF A) (h : RV A se le he sa fa ge ns nf sp bo fi) : f_X2_greatestGeneration Fu ge ns = some (grR A.ge A.ns) := by
  have hn := hW.n
  rw [h.rns]
  unfold f_X2_greatestGeneration
  rw [jn_eq, greatest_L Fu _ hW h Fu 0 _ (Nat.zero_le _) (by omega)]
  rfl
theorem with_L (Fu : Nat) (hF : 20000000 ≤ Fu) (k : Int32 → Option Int32) (hW : WF A) (h : RV A se le he sa fa ge ns nf sp bo fi) {c : Nat} (hc : c < 26) : ∀ (fu i : Nat) (a : Int32), i ≤ A.ns → A.ns - i < fu → f_X2_storiesWith_L4 Fu k le sa (nI A.ns) (nI c) fu a (nI i) = k (itF (fun k a => a + (if taR A k c ≤ nI 0 then nI 0 else nI 1)) i (A.ns - i) a) := by
  have hn := hW.n
  intro fu
  induction fu with
  | zero => intro i a h1 h2; omega
  | succ fu ih =>
    intro i a h1 h2
    rw [f_X2_storiesWith_L4_s]
    by_cases hh : A.ns ≤ i
    · have e : A.ns - i = 0 := by omega
      rw [e, itF_0]
      simp (disch := omega) only [gd_true, nm_eq, jn_eq, bd1_s, bd2_s, bd3_s, bd4_s, bd5_s, bd6_s, bd7_s, bd8_s, bd9_s, bd10_s, bd11_s, bd12_s, nI_add, pk_mul, pk_subs, nI_m1s, ix_nIs, nI_clamps, nI_les, nI_lts, nI_eqs, bz_0, bz_1, nI_zero, eq_self, if_true, if_false, if_pos, if_neg]
    · have e : A.ns - i = (A.ns - (i + 1)) + 1 := by omega
      have e1 : f_X2_timesIn Fu le sa (nI i) (nI c) = some (taR A i c) := timesIn_s hF hW h (show c < 1000 by omega) (show i < A.ns by omega)
      rw [e, itF_s, ← ih (i + 1) _ (by omega) (by omega)]
      simp (disch := omega) only [gd_true, nm_eq, jn_eq, bd1_s, bd2_s, bd3_s, bd4_s, bd5_s, bd6_s, bd7_s, bd8_s, bd9_s, bd10_s, bd11_s, bd12_s, nI_add, pk_mul, pk_subs, nI_m1s, ix_nIs, nI_clamps, nI_les, nI_lts, nI_eqs, bz_0, bz_1, nI_zero, eq_self, if_true, if_false, e1, if_neg hh]
theorem with_s (hF : 20000000 ≤ Fu) (hW : WF A) (h : RV A se le he sa fa ge ns nf sp bo fi) {c : Nat} (hc : c < 26) : f_X2_storiesWith Fu le sa ns (nI c) = some (withR A c) := by
  have hn := hW.n
  rw [h.rns]
  unfold f_X2_storiesWith
  rw [jn_eq, with_L Fu hF _ hW h hc Fu 0 _ (Nat.zero_le _) (by omega)]
  rfl
theorem ofth_L (Fu : Nat) (hF : 20000000 ≤ Fu) (hW : WF A) (h : RV A se le he sa fa ge ns nf sp bo fi) {c : Nat} (hc : c < 26) : ∀ (fu i : Nat) (a : Int32) (t : Ar), i ≤ A.ns → A.ns - i < fu → ∃ t', ∀ k : Int32 → Ar → Option (Int32 × Ar), f_X2_storiesOfTheme_L4 Fu k le sa (nI A.ns) (nI c) fu a (nI i) t = k (itF (fun k a => a + (if thR (taR A k) = c then nI 1 else nI 0)) i (A.ns - i) a) t' := by
  have hn := hW.n
  intro fu
  induction fu with
  | zero => intro i a t h1 h2; omega
  | succ fu ih =>
    intro i a t h1 h2
    by_cases hh : A.ns ≤ i
    · refine ⟨t, fun k => ?_⟩
      rw [f_X2_storiesOfTheme_L4_s]
      have e : A.ns - i = 0 := by omega
      rw [e, itF_0]
      simp (disch := omega) only [gd_true, nm_eq, jn_eq, bd1_s, bd2_s, bd3_s, bd4_s, bd5_s, bd6_s, bd7_s, bd8_s, bd9_s, bd10_s, bd11_s, bd12_s, nI_add, pk_mul, pk_subs, nI_m1s, ix_nIs, nI_clamps, nI_les, nI_lts, nI_eqs, bz_0, bz_1, nI_zero, eq_self, if_true, if_false, if_pos, if_neg]
    · have e : A.ns - i = (A.ns - (i + 1)) + 1 := by omega
      obtain ⟨t2, e1⟩ := themeOf_s hF hW h t (show i < A.ns by omega)
      obtain ⟨t3, e2⟩ := ih (i + 1) (a + (if thR (taR A i) = c then nI 1 else nI 0)) t2 (by omega) (by omega)
      refine ⟨t3, fun k => ?_⟩
      rw [f_X2_storiesOfTheme_L4_s]
      have e3 := thR_lt (taR A i)
      rw [e, itF_s, ← e2 k]
      simp (disch := omega) only [gd_true, nm_eq, jn_eq, bd1_s, bd2_s, bd3_s, bd4_s, bd5_s, bd6_s, bd7_s, bd8_s, bd9_s, bd10_s, bd11_s, bd12_s, nI_add, pk_mul, pk_subs, nI_m1s, ix_nIs, nI_clamps, nI_les, nI_lts, nI_eqs, bz_0, bz_1, nI_zero, eq_self, if_true, if_false, e1, if_neg hh]
theorem ofth_s (hF : 20000000 ≤ Fu) (hW : WF A) (h : RV A se le he sa fa ge ns nf sp bo fi) {c : Nat} (hc : c < 26) (t : Ar) : ∃ t', f_X2_storiesOfTheme Fu le sa t ns (nI c) = some (ofthR A c, t') := by
  have hn := hW.n
  rw [h.rns]
  obtain ⟨t', e⟩ := ofth_L Fu hF hW h hc Fu 0 (nI 0) t (Nat.zero_le _) (by omega)
  refine ⟨t', ?_⟩
  unfold f_X2_storiesOfTheme
  rw [jn_eq, e]
  rfl
theorem hl_L (Fu : Nat) (k : Int32 → Option Int32) (hW : WF A) (h : RV A se le he sa fa ge ns nf sp bo fi) {c : Nat} (hc : c < 26) : ∀ (fu i : Nat) (a : Int32), i ≤ A.wn → A.wn - i < fu → f_X2_heatOfLetter_L4 Fu k le he sa ns (nI c) fu a (nI i) = k (itF (fun p a => a + (if A.le p = c then nI (A.he p) else nI 0)) i (A.wn - i) a) := by
  have hw := hW.w
  intro fu
  induction fu with
  | zero => intro i a h1 h2; omega
  | succ fu ih =>
    intro i a h1 h2
    rw [f_X2_heatOfLetter_L4_s, words_r hW h]
    by_cases hh : A.wn ≤ i
    · have e : A.wn - i = 0 := by omega
      rw [e, itF_0]
      simp (disch := omega) only [gd_true, nm_eq, jn_eq, bd1_s, bd2_s, bd3_s, bd4_s, bd5_s, bd6_s, bd7_s, bd8_s, bd9_s, bd10_s, bd11_s, bd12_s, nI_add, pk_mul, pk_subs, nI_m1s, ix_nIs, nI_clamps, nI_les, nI_lts, nI_eqs, bz_0, bz_1, nI_zero, eq_self, if_true, if_false, if_pos, if_neg]
    · have e : A.wn - i = (A.wn - (i + 1)) + 1 := by omega
      have hp : i < A.wn := by omega
      have e1 := h.rle hp
      have e2 := h.rhe hp
      have e3 := (hW.2.2 i hp).1
      rw [e, itF_s, ← ih (i + 1) _ (by omega) (by omega)]
      by_cases hq : A.le i = c
      · rw [if_pos hq]
        simp (disch := omega) only [gd_true, nm_eq, jn_eq, bd1_s, bd2_s, bd3_s, bd4_s, bd5_s, bd6_s, bd7_s, bd8_s, bd9_s, bd10_s, bd11_s, bd12_s, nI_add, pk_mul, pk_subs, nI_m1s, ix_nIs, nI_clamps, nI_les, nI_lts, nI_eqs, bz_0, bz_1, nI_zero, eq_self, if_true, if_false, e1, e2, if_neg hh, if_pos]
      · rw [if_neg hq]
        simp (disch := omega) only [gd_true, nm_eq, jn_eq, bd1_s, bd2_s, bd3_s, bd4_s, bd5_s, bd6_s, bd7_s, bd8_s, bd9_s, bd10_s, bd11_s, bd12_s, nI_add, pk_mul, pk_subs, nI_m1s, ix_nIs, nI_clamps, nI_les, nI_lts, nI_eqs, bz_0, bz_1, nI_zero, eq_self, if_true, if_false, e1, e2, if_neg hh, if_neg hq]
theorem hl_s (hF : 20000000 ≤ Fu) (hW : WF A) (h : RV A se le he sa fa ge ns nf sp bo fi) {c : Nat} (hc : c < 26) : f_X2_heatOfLetter Fu le he sa ns (nI c) = some (hlR A c) := by
  have hw := hW.w
  unfold f_X2_heatOfLetter
  rw [jn_eq, hl_L Fu _ hW h hc Fu 0 _ (Nat.zero_le _) (by omega)]
  rfl
theorem isPair_s (hF : 20000000 ≤ Fu) (hW : WF A) (h : RV A se le he sa fa ge ns nf sp bo fi) {p K a b : Nat} (ha : a < 26) (hb : b < 26) (hK : K < A.ns) (h1 : A.st K ≤ p) (h2 : p < A.st (K + 1)) (h3 : p + 1 < A.wn) : f_X2_isPair Fu le sa ns (nI p) (nI a) (nI b) = some (if A.le p = a ∧ A.le (p + 1) = b ∧ p + 1 < A.st (K + 1) then nI 1 else nI 0) := by
  have hw := hW.w
  have hn := hW.n
  have e1 := h.rle (show p < A.wn by omega)
  have e2 := h.rle h3
  have b1 := (hW.2.2 p (by omega)).1
  have b2 := (hW.2.2 (p + 1) h3).1
  have s1 := storyAt_s hF hW.1 (fun k hk => h.rsa hk) hK h1 h2
  obtain ⟨J, hJ, j1, j2⟩ := hW.1.find (show p + 1 < A.st A.ns from h3)
  have s2 := storyAt_s hF hW.1 (fun k hk => h.rsa hk) hJ j1 j2
  rw [h.rns]
  unfold f_X2_isPair
  by_cases q1 : A.le p = a
  · by_cases q2 : A.le (p + 1) = b
    · by_cases q3 : p + 1 < A.st (K + 1)
      · have : J = K := (hW.1.uniq hJ j1 j2 hK (by omega) q3)
        subst this
        rw [if_pos ⟨q1, q2, q3⟩]
        simp (disch := omega) only [gd_true, nm_eq, jn_eq, bd1_s, bd2_s, bd3_s, bd4_s, bd5_s, bd6_s, bd7_s, bd8_s, bd9_s, bd10_s, bd11_s, bd12_s, nI_add, pk_mul, pk_subs, nI_m1s, ix_nIs, nI_clamps, nI_les, nI_lts, nI_eqs, bz_0, bz_1, nI_zero, eq_self, if_true, if_false, e1, e2, s1, s2, if_pos]
      · have : ¬ K = J := by
          intro e
          subst e
          exact q3 j2
        rw [if_neg (fun z => q3 z.2.2)]
        simp (disch := omega) only [gd_true, nm_eq, jn_eq, bd1_s, bd2_s, bd3_s, bd4_s, bd5_s, bd6_s, bd7_s, bd8_s, bd9_s, bd10_s, bd11_s, bd12_s, nI_add, pk_mul, pk_subs, nI_m1s, ix_nIs, nI_clamps, nI_les, nI_lts, nI_eqs, bz_0, bz_1, nI_zero, eq_self, if_true, if_false, e1, e2, s1, s2, if_pos q1, if_pos q2, if_neg this]
    · rw [if_neg (fun z => q2 z.2.1)]
      simp (disch := omega) only [gd_true, nm_eq, jn_eq, bd1_s, bd2_s, bd3_s, bd4_s, bd5_s, bd6_s, bd7_s, bd8_s, bd9_s, bd10_s, bd11_s, bd12_s, nI_add, pk_mul, pk_subs, nI_m1s, ix_nIs, nI_clamps, nI_les, nI_lts, nI_eqs, bz_0, bz_1, nI_zero, eq_self, if_true, if_false, e1, e2, if_pos q1, if_neg q2]
  · rw [if_neg (fun z => q1 z.1)]
    simp (disch := omega) only [gd_true, nm_eq, jn_eq, bd1_s, bd2_s, bd3_s, bd4_s, bd5_s, bd6_s, bd7_s, bd8_s, bd9_s, bd10_s, bd11_s, bd12_s, nI_add, pk_mul, pk_subs, nI_m1s, ix_nIs, nI_clamps, nI_les, nI_lts, nI_eqs, bz_0, bz_1, nI_zero, eq_self, if_true, if_false, e1, if_neg q1]
end CQ2
section RQ
variable {Fu : Nat} {A : Sh} {s : Ar}
theorem first_r (hF : 20000000 ≤ Fu) (hW : WF A) (h : RS A s) {K : Nat} (hK : K ≤ A.ns) : f_X4_first Fu s (nI K) = some (nI (A.st K)) := first_s hF hW.1 (fun k hk => h.rlo hk) hK
theorem times_L (Fu : Nat) (hF : 20000000 ≤ Fu) (k : Int32 → Option Int32) (hW : WF A) (h : RS A s) {K c : Nat} (hK : K < A.ns) (hc : c < 26) : ∀ (fu i : Nat) (a : Int32), A.st K + i ≤ A.st (K + 1) → A.st (K + 1) - A.st K - i < fu → f_X4_times_L5 Fu k s (nI K) (nI c) fu a (nI i) = k (itF (fun p a => a + (if A.le p = c then nI 1 else nI 0)) (A.st K + i) (A.st (K + 1) - A.st K - i) a) := by
  have hn := hW.n
  have hm2 := hW.1.le (show K + 1 ≤ A.ns by omega) (Nat.le_refl _)
  have hw' : A.st A.ns ≤ 150 := hW.w
  have e0 := h.rlo hK
  have e9 := first_r hF hW h (show K ≤ A.ns by omega)
  intro fu
  induction fu with
  | zero => intro i a h1 h2; omega
  | succ fu ih =>
    intro i a h1 h2
    rw [f_X4_times_L5_s]
    by_cases hh : A.st (K + 1) - A.st K ≤ i
    · have e : A.st (K + 1) - A.st K - i = 0 := by omega
      rw [e, itF_0]
      simp (disch := omega) only [gd_true, nm_eq, jn_eq, bd1_s, bd2_s, bd3_s, bd4_s, bd5_s, bd6_s, bd7_s, bd8_s, bd9_s, bd10_s, bd11_s, bd12_s, nI_add, pk_mul, pk_subs, nI_m1s, ix_nIs, nI_clamps, nI_les, nI_lts, nI_eqs, bz_0, bz_1, nI_zero, eq_self, if_true, if_false, e0, if_pos]
    · have e : A.st (K + 1) - A.st K - i = (A.st (K + 1) - A.st K - (i + 1)) + 1 := by omega
      have hp : A.st K + i < A.wn := by unfold Sh.wn; omega
      have e1 := h.rle hp
      have e3 := (hW.2.2 _ hp).1
      rw [e, itF_s, show A.st K + i + 1 = A.st K + (i + 1) by omega, ← ih (i + 1) _ (by omega) (by omega)]
      simp (disch := omega) only [gd_true, nm_eq, jn_eq, bd1_s, bd2_s, bd3_s, bd4_s, bd5_s, bd6_s, bd7_s, bd8_s, bd9_s, bd10_s, bd11_s, bd12_s, nI_add, pk_mul, pk_subs, nI_m1s, ix_nIs, nI_clamps, nI_les, nI_lts, nI_eqs, bz_0, bz_1, nI_zero, eq_self, if_true, if_false, e0, e9, Nat.add_assoc, e1, if_neg hh]
theorem times_s (hF : 20000000 ≤ Fu) (hW : WF A) (h : RS A s) {K c : Nat} (hK : K < A.ns) (hc : c < 26) : f_X4_times Fu s (nI K) (nI c) = some (taR A K c) := by
  have hn := hW.n
  have hm := hW.1.2.2.1 K hK
  have hm2 := hW.1.le (show K + 1 ≤ A.ns by omega) (Nat.le_refl _)
  have hw' : A.st A.ns ≤ 150 := hW.w
  unfold f_X4_times
  rw [jn_eq, times_L Fu hF _ hW h hK hc Fu 0 _ (by omega) (by omega)]
  rfl
theorem theme_L (Fu : Nat) (hF : 20000000 ≤ Fu) (k : Int32 → Option Int32) (hW : WF A) (h : RS A s) {K : Nat} (hK : K < A.ns) : ∀ (fu i g : Nat), i ≤ 26 → g < 26 → 26 - i < fu → f_X4_theme_L4 Fu k s (nI K) fu (nI g) (nI i) = k (nI (itF (fun c g => if taR A K c ≤ taR A K g then g else c) i (26 - i) g)) := by
  intro fu
  induction fu with
  | zero => intro i g h1 h2 h3; omega
  | succ fu ih =>
    intro i g h1 h2 h3
    rw [f_X4_theme_L4_s]
    by_cases hh : 26 ≤ i
    · have e : 26 - i = 0 := by omega
      rw [e, itF_0]
      simp (disch := omega) only [gd_true, nm_eq, jn_eq, bd1_s, bd2_s, bd3_s, bd4_s, bd5_s, bd6_s, bd7_s, bd8_s, bd9_s, bd10_s, bd11_s, bd12_s, nI_add, pk_mul, pk_subs, nI_m1s, ix_nIs, nI_clamps, nI_les, nI_lts, nI_eqs, bz_0, bz_1, nI_zero, eq_self, if_true, if_false, if_pos, if_neg]
    · have e : 26 - i = (26 - (i + 1)) + 1 := by omega
      have hg : (if taR A K i ≤ taR A K g then g else i) < 26 := by
        by_cases h : taR A K i ≤ taR A K g
        · rw [if_pos h]; exact h2
        · rw [if_neg h]; omega
      have e1 := times_s hF hW h hK (show i < 26 by omega)
      have e2 := times_s hF hW h hK h2
      rw [e, itF_s, ← ih (i + 1) _ (by omega) hg (by omega)]
      simp (disch := omega) only [gd_true, nm_eq, jn_eq, bd1_s, bd2_s, bd3_s, bd4_s, bd5_s, bd6_s, bd7_s, bd8_s, bd9_s, bd10_s, bd11_s, bd12_s, nI_add, pk_mul, pk_subs, nI_m1s, ix_nIs, nI_clamps, nI_les, nI_lts, nI_eqs, bz_0, bz_1, nI_zero, eq_self, if_true, if_false, e1, e2, if_neg hh, ite_nI]
theorem theme_s (hF : 20000000 ≤ Fu) (hW : WF A) (h : RS A s) {K : Nat} (hK : K < A.ns) : f_X4_theme Fu s (nI K) = some (nI (thR (taR A K))) := by
  unfold f_X4_theme
  rw [jn_eq, theme_L Fu hF _ hW h hK Fu 1 0 (by omega) (by omega) (by omega)]
  rfl
theorem heatOf4_L (Fu : Nat) (hF : 20000000 ≤ Fu) (k : Int32 → Option Int32) (hW : WF A) (h : RS A s) {K : Nat} (hK : K < A.ns) : ∀ (fu i : Nat) (a : Int32), A.st K + i ≤ A.st (K + 1) → A.st (K + 1) - A.st K - i < fu → f_X4_heatOf_L4 Fu k s (nI K) fu a (nI i) = k (itF (fun p a => a + nI (A.he p)) (A.st K + i) (A.st (K + 1) - A.st K - i) a) := by
  have hn := hW.n
  have hm2 := hW.1.le (show K + 1 ≤ A.ns by omega) (Nat.le_refl _)
  have hw' : A.st A.ns ≤ 150 := hW.w
  have e0 := h.rlo hK
  have e9 := first_r hF hW h (show K ≤ A.ns by omega)
  intro fu
  induction fu with
  | zero => intro i a h1 h2; omega
  | succ fu ih =>
    intro i a h1 h2
    rw [f_X4_heatOf_L4_s]
    by_cases hh : A.st (K + 1) - A.st K ≤ i
    · have e : A.st (K + 1) - A.st K - i = 0 := by omega
      rw [e, itF_0]
      simp (disch := omega) only [gd_true, nm_eq, jn_eq, bd1_s, bd2_s, bd3_s, bd4_s, bd5_s, bd6_s, bd7_s, bd8_s, bd9_s, bd10_s, bd11_s, bd12_s, nI_add, pk_mul, pk_subs, nI_m1s, ix_nIs, nI_clamps, nI_les, nI_lts, nI_eqs, bz_0, bz_1, nI_zero, eq_self, if_true, if_false, e0, if_pos]
    · have e : A.st (K + 1) - A.st K - i = (A.st (K + 1) - A.st K - (i + 1)) + 1 := by omega
      have hp : A.st K + i < A.wn := by unfold Sh.wn; omega
      have e1 := h.rhe hp
      rw [e, itF_s, show A.st K + i + 1 = A.st K + (i + 1) by omega, ← ih (i + 1) _ (by omega) (by omega)]
      simp (disch := omega) only [gd_true, nm_eq, jn_eq, bd1_s, bd2_s, bd3_s, bd4_s, bd5_s, bd6_s, bd7_s, bd8_s, bd9_s, bd10_s, bd11_s, bd12_s, nI_add, pk_mul, pk_subs, nI_m1s, ix_nIs, nI_clamps, nI_les, nI_lts, nI_eqs, bz_0, bz_1, nI_zero, eq_self, if_true, if_false, e0, e9, Nat.add_assoc, e1, if_neg hh]
theorem heatOf4_s (hF : 20000000 ≤ Fu) (hW : WF A) (h : RS A s) {K : Nat} (hK : K < A.ns) : f_X4_heatOf Fu s (nI K) = some (heatR A.he (A.st K) (A.st (K + 1) - A.st K)) := by
  have hn := hW.n
  have hm := hW.1.2.2.1 K hK
  have hm2 := hW.1.le (show K + 1 ≤ A.ns by omega) (Nat.le_refl _)
  have hw' : A.st A.ns ≤ 150 := hW.w
  unfold f_X4_heatOf
  rw [jn_eq, heatOf4_L Fu hF _ hW h hK Fu 0 _ (by omega) (by omega)]
  rfl
theorem allHeat_L (Fu : Nat) (k : Int32 → Option Int32) (hW : WF A) (h : RS A s) : ∀ (fu i : Nat) (a : Int32), i ≤ A.wn → A.wn - i < fu → f_X4_allHeat_L4 Fu k s fu a (nI i) = k (itF (fun p a => a + nI (A.he p)) i (A.wn - i) a) := by
  have hw := hW.w
  have e0 := h.rwn
  intro fu
  induction fu with
  | zero => intro i a h1 h2; omega
  | succ fu ih =>
    intro i a h1 h2
    rw [f_X4_allHeat_L4_s]
    by_cases hh : A.wn ≤ i
    · have e : A.wn - i = 0 := by omega
      rw [e, itF_0]
      simp (disch := omega) only [gd_true, nm_eq, jn_eq, bd1_s, bd2_s, bd3_s, bd4_s, bd5_s, bd6_s, bd7_s, bd8_s, bd9_s, bd10_s, bd11_s, bd12_s, nI_add, pk_mul, pk_subs, nI_m1s, ix_nIs, nI_clamps, nI_les, nI_lts, nI_eqs, bz_0, bz_1, nI_zero, eq_self, if_true, if_false, e0, if_pos]
    · have e : A.wn - i = (A.wn - (i + 1)) + 1 := by omega
      have e1 := h.rhe (show i < A.wn by omega)
      rw [e, itF_s, ← ih (i + 1) _ (by omega) (by omega)]
      simp (disch := omega) only [gd_true, nm_eq, jn_eq, bd1_s, bd2_s, bd3_s, bd4_s, bd5_s, bd6_s, bd7_s, bd8_s, bd9_s, bd10_s, bd11_s, bd12_s, nI_add, pk_mul, pk_subs, nI_m1s, ix_nIs, nI_clamps, nI_les, nI_lts, nI_eqs, bz_0, bz_1, nI_zero, eq_self, if_true, if_false, e0, e1, if_neg hh]
theorem allHeat_s (hF : 20000000 ≤ Fu) (hW : WF A) (h : RS A s) : f_X4_allHeat Fu s = some (heatR A.he 0 A.wn) := by
  have hw := hW.w
  unfold f_X4_allHeat
  rw [jn_eq, allHeat_L Fu _ hW h Fu 0 _ (by omega) (by omega)]
  rfl
theorem unlike_L (Fu : Nat) (hF : 20000000 ≤ Fu) (k : Int32 → Option Int32) (hW : WF A) (h : RS A s) {K : Nat} (hK : K < A.ns) : ∀ (fu i : Nat) (a : Int32), i ≤ 26 → 26 - i < fu → f_X4_unlike_L4 Fu k s (nI K) fu a (nI i) = k (itF (fun c a => a + (if taR A K c ≤ nI 0 then nI 0 else nI 1)) i (26 - i) a) := by
  intro fu
  induction fu with
  | zero => intro i g h1 h3; omega
  | succ fu ih =>
    intro i g h1 h3
    rw [f_X4_unlike_L4_s]
    by_cases hh : 26 ≤ i
    · have e : 26 - i = 0 := by omega
      rw [e, itF_0]
      simp (disch := omega) only [gd_true, nm_eq, jn_eq, bd1_s, bd2_s, bd3_s, bd4_s, bd5_s, bd6_s, bd7_s, bd8_s, bd9_s, bd10_s, bd11_s, bd12_s, nI_add, pk_mul, pk_subs, nI_m1s, ix_nIs, nI_clamps, nI_les, nI_lts, nI_eqs, bz_0, bz_1, nI_zero, eq_self, if_true, if_false, if_pos, if_neg]
    · have e : 26 - i = (26 - (i + 1)) + 1 := by omega
      have e1 := times_s hF hW h hK (show i < 26 by omega)
      rw [e, itF_s, ← ih (i + 1) _ (by omega) (by omega)]
      simp (disch := omega) only [gd_true, nm_eq, jn_eq, bd1_s, bd2_s, bd3_s, bd4_s, bd5_s, bd6_s, bd7_s, bd8_s, bd9_s, bd10_s, bd11_s, bd12_s, nI_add, pk_mul, pk_subs, nI_m1s, ix_nIs, nI_clamps, nI_les, nI_lts, nI_eqs, bz_0, bz_1, nI_zero, eq_self, if_true, if_false, e1, if_neg hh]
theorem unlike_s (hF : 20000000 ≤ Fu) (hW : WF A) (h : RS A s) {K : Nat} (hK : K < A.ns) : f_X4_unlike Fu s (nI K) = some (unR (taR A K)) := by
  unfold f_X4_unlike
  rw [jn_eq, unlike_L Fu hF _ hW h hK Fu 0 _ (by omega) (by omega)]
  rfl
theorem hottest_L (Fu : Nat) (hF : 20000000 ≤ Fu) (k : Int32 → Option Int32) (hW : WF A) (h : RS A s) {K : Nat} (hK : K < A.ns) : ∀ (fu i g : Nat), A.st K + i ≤ A.st (K + 1) → A.st K ≤ g → g < A.st (K + 1) → A.st (K + 1) - A.st K - i < fu → f_X4_hottest_L4 Fu k s (nI K) fu (nI (g - A.st K)) (nI i) = k (nI (itF (fun p g => if A.he p ≤ A.he g then g else p) (A.st K + i) (A.st (K + 1) - A.st K - i) g - A.st K)) := by
  have hn := hW.n
  have hm2 := hW.1.le (show K + 1 ≤ A.ns by omega) (Nat.le_refl _)
  have hw' : A.st A.ns ≤ 150 := hW.w
  have e0 := h.rlo hK
  have e9 := first_r hF hW h (show K ≤ A.ns by omega)
  intro fu
  induction fu with
  | zero => intro i g h1 h2 h3 h4; omega
  | succ fu ih =>
    intro i g h1 h2 h3 h4
    rw [f_X4_hottest_L4_s]
    by_cases hh : A.st (K + 1) - A.st K ≤ i
    · have e : A.st (K + 1) - A.st K - i = 0 := by omega
      rw [e, itF_0]
      simp (disch := omega) only [gd_true, nm_eq, jn_eq, bd1_s, bd2_s, bd3_s, bd4_s, bd5_s, bd6_s, bd7_s, bd8_s, bd9_s, bd10_s, bd11_s, bd12_s, nI_add, pk_mul, pk_subs, nI_m1s, ix_nIs, nI_clamps, nI_les, nI_lts, nI_eqs, bz_0, bz_1, nI_zero, eq_self, if_true, if_false, e0, if_pos]
    · have e : A.st (K + 1) - A.st K - i = (A.st (K + 1) - A.st K - (i + 1)) + 1 := by omega
      have hp : A.st K + i < A.wn := by unfold Sh.wn; omega
      have hq : g < A.wn := by unfold Sh.wn; omega
      have e1 := h.rhe hp
      have e2 := h.rhe hq
      have e4 := (hW.2.2 _ hp).2
      have e5 := (hW.2.2 g hq).2
      have ea : 195 + A.st K + i = 195 + (A.st K + i) := by omega
      have eb : 195 + A.st K + (g - A.st K) = 195 + g := by omega
      rw [e, itF_s, show A.st K + i + 1 = A.st K + (i + 1) by omega]
      by_cases hq2 : A.he (A.st K + i) ≤ A.he g
      · rw [if_pos hq2, ← ih (i + 1) g (by omega) h2 h3 (by omega)]
        simp (disch := omega) only [gd_true, nm_eq, jn_eq, bd1_s, bd2_s, bd3_s, bd4_s, bd5_s, bd6_s, bd7_s, bd8_s, bd9_s, bd10_s, bd11_s, bd12_s, nI_add, pk_mul, pk_subs, nI_m1s, ix_nIs, nI_clamps, nI_les, nI_lts, nI_eqs, bz_0, bz_1, nI_zero, eq_self, if_true, if_false, e0, e9, ea, eb, e1, e2, if_neg hh, if_pos hq2]
      · rw [if_neg hq2, ← ih (i + 1) (A.st K + i) (by omega) (by omega) (by omega) (by omega), show A.st K + i - A.st K = i by omega]
        simp (disch := omega) only [gd_true, nm_eq, jn_eq, bd1_s, bd2_s, bd3_s, bd4_s, bd5_s, bd6_s, bd7_s, bd8_s, bd9_s, bd10_s, bd11_s, bd12_s, nI_add, pk_mul, pk_subs, nI_m1s, ix_nIs, nI_clamps, nI_les, nI_lts, nI_eqs, bz_0, bz_1, nI_zero, eq_self, if_true, if_false, e0, e9, ea, eb, e1, e2, if_neg hh, if_neg hq2]
theorem hottest_s (hF : 20000000 ≤ Fu) (hW : WF A) (h : RS A s) {K : Nat} (hK : K < A.ns) : f_X4_hottest Fu s (nI K) = some (nI (hoR A.he (A.st K) (A.st (K + 1) - A.st K) - A.st K)) := by
  have hn := hW.n
  have hm := hW.1.2.2.1 K hK
  have hm2 := hW.1.le (show K + 1 ≤ A.ns by omega) (Nat.le_refl _)
  have hw' : A.st A.ns ≤ 150 := hW.w
  have e := hottest_L Fu hF (fun v => some v) hW h hK Fu 1 (A.st K) (by omega) (Nat.le_refl _) hm (by omega)
  rw [Nat.sub_self] at e
  unfold f_X4_hottest
  rw [jn_eq, e]
  unfold hoR
  rw [show A.st (K + 1) - A.st K = (A.st (K + 1) - A.st K - 1) + 1 by omega, itF_s, if_pos (Nat.le_refl _)]
  rfl
end RQ
end
section
/-! PURE: what there is, both sides -/
section RQ3
variable {Fu : Nat} {A : Sh} {s : Ar}
def palN (le : FN) (lo n i : Nat) : Bool := decide (∀ j, j < i → le (lo + j) = le (lo + n - 1 - j))
theorem back_L (Fu : Nat) (k : Int32 → Option Int32) (hW : WF A) (h : RS A s) {K : Nat} (hK : K < A.ns) : ∀ (fu i : Nat), A.st K + i ≤ A.st (K + 1) → A.st (K + 1) - A.st K - i < fu → f_X4_isSameBackwards_L26 Fu k s (nI K) (nI (A.st K)) (nI (A.st (K + 1) - 1)) fu (if palN A.le (A.st K) (A.st (K + 1) - A.st K) i = true then nI 1 else nI 0) (nI i) = k (if palN A.le (A.st K) (A.st (K + 1) - A.st K) (A.st (K + 1) - A.st K) = true then nI 1 else nI 0) := by
  have hn := hW.n
  have hm := hW.1.2.2.1 K hK
  have hm2 := hW.1.le (show K + 1 ≤ A.ns by omega) (Nat.le_refl _)
  have hw' : A.st A.ns ≤ 150 := hW.w
  have e0 := h.rlo hK
  intro fu
  induction fu with
  | zero => intro i h1 h2; omega
  | succ fu ih =>
    intro i h1 h2
    rw [f_X4_isSameBackwards_L26_s]
    by_cases hh : A.st (K + 1) - A.st K ≤ i
    · have e : i = A.st (K + 1) - A.st K := by omega
      subst e
      simp (disch := omega) only [gd_true, nm_eq, jn_eq, bd1_s, bd2_s, bd3_s, bd4_s, bd5_s, bd6_s, bd7_s, bd8_s, bd9_s, bd10_s, bd11_s, bd12_s, nI_add, pk_mul, pk_subs, nI_m1s, ix_nIs, nI_clamps, nI_les, nI_lts, nI_eqs, bz_0, bz_1, nI_zero, eq_self, if_true, if_false, e0, if_pos (Nat.le_refl _)]
    · have hp : A.st K + i < A.wn := by unfold Sh.wn; omega
      have hq : A.st (K + 1) - 1 - i < A.wn := by unfold Sh.wn; omega
      have e1 := h.rle hp
      have e2 := h.rle hq
      have b1 := (hW.2.2 _ hp).1
      have b2 := (hW.2.2 _ hq).1
      have ea : 45 + A.st K + i = 45 + (A.st K + i) := by omega
      have eb : 45 + (A.st (K + 1) - 1) - i = 45 + (A.st (K + 1) - 1 - i) := by omega
      have ih' := ih (i + 1) (by omega) (by omega)
      by_cases hb : palN A.le (A.st K) (A.st (K + 1) - A.st K) i = true
      · rw [if_pos hb]
        by_cases hc : A.le (A.st K + i) = A.le (A.st (K + 1) - 1 - i)
        · have hb2 : palN A.le (A.st K) (A.st (K + 1) - A.st K) (i + 1) = true := by
            simp only [palN, decide_eq_true_eq] at hb ⊢
            intro j hj
            by_cases hji : j = i
            · rw [hji, show A.st K + (A.st (K + 1) - A.st K) - 1 - i = A.st (K + 1) - 1 - i by omega]; exact hc
            · exact hb j (by omega)
          rw [if_pos hb2] at ih'
          rw [← ih']
          simp (disch := omega) only [gd_true, nm_eq, jn_eq, bd1_s, bd2_s, bd3_s, bd4_s, bd5_s, bd6_s, bd7_s, bd8_s, bd9_s, bd10_s, bd11_s, bd12_s, nI_add, pk_mul, pk_subs, nI_m1s, ix_nIs, nI_clamps, nI_les, nI_lts, nI_eqs, bz_0, bz_1, nI_zero, eq_self, if_true, if_false, e0, if_neg hh, if_neg (show ¬ (1 : Nat) = 0 by decide), ea, eb, e1, e2, if_pos hc]
        · have hb2 : ¬ palN A.le (A.st K) (A.st (K + 1) - A.st K) (i + 1) = true := by
            simp only [palN, decide_eq_true_eq]
            intro z
            have := z i (by omega)
            rw [show A.st K + (A.st (K + 1) - A.st K) - 1 - i = A.st (K + 1) - 1 - i by omega] at this
            exact hc this
          rw [if_neg hb2] at ih'
          rw [← ih']
          simp (disch := omega) only [gd_true, nm_eq, jn_eq, bd1_s, bd2_s, bd3_s, bd4_s, bd5_s, bd6_s, bd7_s, bd8_s, bd9_s, bd10_s, bd11_s, bd12_s, nI_add, pk_mul, pk_subs, nI_m1s, ix_nIs, nI_clamps, nI_les, nI_lts, nI_eqs, bz_0, bz_1, nI_zero, eq_self, if_true, if_false, e0, if_neg hh, if_neg (show ¬ (1 : Nat) = 0 by decide), ea, eb, e1, e2, if_neg hc]
      · have hb2 : ¬ palN A.le (A.st K) (A.st (K + 1) - A.st K) (i + 1) = true := by
          simp only [palN, decide_eq_true_eq] at hb ⊢
          intro z
          exact hb (fun j hj => z j (by omega))
        rw [if_neg hb]
        rw [if_neg hb2] at ih'
        rw [← ih']
        simp (disch := omega) only [gd_true, nm_eq, jn_eq, bd1_s, bd2_s, bd3_s, bd4_s, bd5_s, bd6_s, bd7_s, bd8_s, bd9_s, bd10_s, bd11_s, bd12_s, nI_add, pk_mul, pk_subs, nI_m1s, ix_nIs, nI_clamps, nI_les, nI_lts, nI_eqs, bz_0, bz_1, nI_zero, eq_self, if_true, if_false, e0, if_neg hh]
theorem back_s (hF : 20000000 ≤ Fu) (hW : WF A) (h : RS A s) {K : Nat} (hK : K < A.ns) : f_X4_isSameBackwards Fu s (nI K) = some (if palB A.le (A.st K) (A.st (K + 1) - A.st K) = true then nI 1 else nI 0) := by
  have hn := hW.n
  have hm := hW.1.2.2.1 K hK
  have hm2 := hW.1.le (show K + 1 ≤ A.ns by omega) (Nat.le_refl _)
  have hw' : A.st A.ns ≤ 150 := hW.w
  have e0 := h.rlo hK
  have e9 := first_r hF hW h (show K ≤ A.ns by omega)
  have ev : A.st K + (A.st (K + 1) - A.st K) - 1 = A.st (K + 1) - 1 := by omega
  have hb0 : palN A.le (A.st K) (A.st (K + 1) - A.st K) 0 = true := by
    simp only [palN, decide_eq_true_eq]
    intro j hj
    omega
  unfold f_X4_isSameBackwards
  rw [e9, bd1_s, nI_add, ix_nIs (by omega) (by omega), gd_true, nI_clamps (by omega), e0, nI_add, pk_subs (by omega), ev, nm_eq, jn_eq]
  have e := back_L Fu (fun v15 => nm (if v15 = 0 then nI 0 else nI 1) fun v17 => some v17) hW h hK Fu 0 (by omega) (by omega)
  rw [if_pos hb0] at e
  rw [e]
  have : palN A.le (A.st K) (A.st (K + 1) - A.st K) (A.st (K + 1) - A.st K) = palB A.le (A.st K) (A.st (K + 1) - A.st K) := rfl
  rw [this, nm_eq]
  by_cases hp : palB A.le (A.st K) (A.st (K + 1) - A.st K) = true
  · rw [if_pos hp]; rfl
  · rw [if_neg hp]; rfl
def newN (fa : Ar) (k i : Nat) : Bool := decide (∀ o, o < i → ¬ fa o = fa k)
theorem fam_in_L (Fu : Nat) (k : Int32 → Option Int32) (hW : WF A) (h : RS A s) {K : Nat} (hK : K < A.ns) : ∀ (fu i : Nat), i ≤ K → K - i < fu → f_X4_families_L19 Fu k s (nI K) fu (if newN A.fa K i = true then nI 1 else nI 0) (nI i) = k (if newN A.fa K K = true then nI 1 else nI 0) := by
  have hn := hW.n
  intro fu
  induction fu with
  | zero => intro i h1 h2; omega
  | succ fu ih =>
    intro i h1 h2
    rw [f_X4_families_L19_s]
    by_cases hh : K ≤ i
    · have e : i = K := by omega
      subst e
      simp (disch := omega) only [gd_true, nm_eq, jn_eq, bd1_s, bd2_s, bd3_s, bd4_s, bd5_s, bd6_s, bd7_s, bd8_s, bd9_s, bd10_s, bd11_s, bd12_s, nI_add, pk_mul, pk_subs, nI_m1s, ix_nIs, nI_clamps, nI_les, nI_lts, nI_eqs, bz_0, bz_1, nI_zero, eq_self, if_true, if_false, if_pos (Nat.le_refl _)]
    · have e1 := h.rfa (show i < A.ns by omega)
      have e2 := h.rfa hK
      have ih' := ih (i + 1) (by omega) (by omega)
      by_cases hb : newN A.fa K i = true
      · rw [if_pos hb]
        by_cases hc : A.fa i = A.fa K
        · have hb2 : ¬ newN A.fa K (i + 1) = true := by
            simp only [newN, decide_eq_true_eq]
            intro z
            exact z i (by omega) hc
          rw [if_neg hb2] at ih'
          rw [← ih']
          simp (disch := omega) only [gd_true, nm_eq, jn_eq, bd1_s, bd2_s, bd3_s, bd4_s, bd5_s, bd6_s, bd7_s, bd8_s, bd9_s, bd10_s, bd11_s, bd12_s, nI_add, pk_mul, pk_subs, nI_m1s, ix_nIs, nI_clamps, nI_les, nI_lts, nI_eqs, bz_0, bz_1, nI_zero, eq_self, if_true, if_false, if_neg hh, if_neg (show ¬ (1 : Nat) = 0 by decide), e1, e2, if_pos hc]
        · have hb2 : newN A.fa K (i + 1) = true := by
            simp only [newN, decide_eq_true_eq] at hb ⊢
            intro j hj
            by_cases hji : j = i
            · rw [hji]; exact hc
            · exact hb j (by omega)
          rw [if_pos hb2] at ih'
          rw [← ih']
          simp (disch := omega) only [gd_true, nm_eq, jn_eq, bd1_s, bd2_s, bd3_s, bd4_s, bd5_s, bd6_s, bd7_s, bd8_s, bd9_s, bd10_s, bd11_s, bd12_s, nI_add, pk_mul, pk_subs, nI_m1s, ix_nIs, nI_clamps, nI_les, nI_lts, nI_eqs, bz_0, bz_1, nI_zero, eq_self, if_true, if_false, if_neg hh, if_neg (show ¬ (1 : Nat) = 0 by decide), e1, e2, if_neg hc]
      · have hb2 : ¬ newN A.fa K (i + 1) = true := by
          simp only [newN, decide_eq_true_eq] at hb ⊢
          intro z
          exact hb (fun j hj => z j (by omega))
        rw [if_neg hb]
        rw [if_neg hb2] at ih'
        rw [← ih']
        simp (disch := omega) only [gd_true, nm_eq, jn_eq, bd1_s, bd2_s, bd3_s, bd4_s, bd5_s, bd6_s, bd7_s, bd8_s, bd9_s, bd10_s, bd11_s, bd12_s, nI_add, pk_mul, pk_subs, nI_m1s, ix_nIs, nI_clamps, nI_les, nI_lts, nI_eqs, bz_0, bz_1, nI_zero, eq_self, if_true, if_false, if_neg hh]
theorem fam_L (Fu : Nat) (hF : 20000000 ≤ Fu) (k : Int32 → Option Int32) (hW : WF A) (h : RS A s) : ∀ (fu i : Nat) (a : Int32), i ≤ A.ns → A.ns - i < fu → f_X4_families_L4 Fu k s fu a (nI i) = k (itF (fun k a => a + (if newF A.fa k = true then nI 1 else nI 0)) i (A.ns - i) a) := by
  have hn := hW.n
  have e0 := h.rns
  intro fu
  induction fu with
  | zero => intro i a h1 h2; omega
  | succ fu ih =>
    intro i a h1 h2
    rw [f_X4_families_L4_s]
    by_cases hh : A.ns ≤ i
    · have e : A.ns - i = 0 := by omega
      rw [e, itF_0]
      simp (disch := omega) only [gd_true, nm_eq, jn_eq, bd1_s, bd2_s, bd3_s, bd4_s, bd5_s, bd6_s, bd7_s, bd8_s, bd9_s, bd10_s, bd11_s, bd12_s, nI_add, pk_mul, pk_subs, nI_m1s, ix_nIs, nI_clamps, nI_les, nI_lts, nI_eqs, bz_0, bz_1, nI_zero, eq_self, if_true, if_false, e0, if_pos]
    · have e : A.ns - i = (A.ns - (i + 1)) + 1 := by omega
      have hb0 : newN A.fa i 0 = true := by
        simp only [newN, decide_eq_true_eq]
        intro j hj
        omega
      rw [e, itF_s, ← ih (i + 1) _ (by omega) (by omega), e0, if_neg (show ¬ nI A.ns ≤ nI i by rw [nI_les (by omega) (by omega)]; exact hh), jn_eq]
      have e2 := fam_in_L Fu (fun v13 => nm (if v13 = 0 then nI 0 else nI 1) fun v15 => f_X4_families_L4 Fu k s fu (a + v15) (nI i + nI 1)) hW h (show i < A.ns by omega) Fu 0 (Nat.zero_le _) (by omega)
      rw [if_pos hb0] at e2
      rw [e2]
      have : newN A.fa i i = newF A.fa i := rfl
      rw [this, nm_eq]
      by_cases hp : newF A.fa i = true
      · rw [if_pos hp, if_neg (show ¬ nI 1 = (0 : Int32) by decide), nI_add]
      · rw [if_neg hp, if_pos (show nI 0 = (0 : Int32) from nI_0), nI_add]
theorem fam_s (hF : 20000000 ≤ Fu) (hW : WF A) (h : RS A s) : f_X4_families Fu s = some (famR A.fa A.ns) := by
  have hn := hW.n
  unfold f_X4_families
  rw [jn_eq, fam_L Fu hF _ hW h Fu 0 _ (Nat.zero_le _) (by omega)]
  rfl
theorem great_L (Fu : Nat) (k : Int32 → Option Int32) (hW : WF A) (h : RS A s) : ∀ (fu i : Nat) (a : Int32), i ≤ A.ns → A.ns - i < fu → f_X4_greatest_L5 Fu k s fu a (nI i) = k (itF (fun k a => if A.ge k ≤ a then a else A.ge k) i (A.ns - i) a) := by
  have hn := hW.n
  have e0 := h.rns
  intro fu
  induction fu with
  | zero => intro i a h1 h2; omega
  | succ fu ih =>
    intro i a h1 h2
    rw [f_X4_greatest_L5_s]
    by_cases hh : A.ns ≤ i
    · have e : A.ns - i = 0 := by omega
      rw [e, itF_0]
      simp (disch := omega) only [gd_true, nm_eq, jn_eq, bd1_s, bd2_s, bd3_s, bd4_s, bd5_s, bd6_s, bd7_s, bd8_s, bd9_s, bd10_s, bd11_s, bd12_s, nI_add, pk_mul, pk_subs, nI_m1s, ix_nIs, nI_clamps, nI_les, nI_lts, nI_eqs, bz_0, bz_1, nI_zero, eq_self, if_true, if_false, e0, if_pos]
    · have e : A.ns - i = (A.ns - (i + 1)) + 1 := by omega
      have e1 := h.rge (show i < A.ns by omega)
      rw [e, itF_s, ← ih (i + 1) _ (by omega) (by omega)]
      by_cases hq : A.ge i ≤ a
      · rw [if_pos hq]
        simp (disch := omega) only [gd_true, nm_eq, jn_eq, bd1_s, bd2_s, bd3_s, bd4_s, bd5_s, bd6_s, bd7_s, bd8_s, bd9_s, bd10_s, bd11_s, bd12_s, nI_add, pk_mul, pk_subs, nI_m1s, ix_nIs, nI_clamps, nI_les, nI_lts, nI_eqs, bz_0, bz_1, nI_zero, eq_self, if_true, if_false, e0, e1, if_neg hh, if_pos hq]
      · rw [if_neg hq]
        simp (disch := omega) only [gd_true, nm_eq, jn_eq, bd1_s, bd2_s, bd3_s, bd4_s, bd5_s, bd6_s, bd7_s, bd8_s, bd9_s, bd10_s, bd11_s, bd12_s, nI_add, pk_mul, pk_subs, nI_m1s, ix_nIs, nI_clamps, nI_les, nI_lts, nI_eqs, bz_0, bz_1, nI_zero, eq_self, if_true, if_false, e0, e1, if_neg hh, if_neg hq]
theorem great_s (hF : 20000000 ≤ Fu) (hW : WF A) (h : RS A s) : f_X4_greatest Fu s = some (grR A.ge A.ns) := by
  have hn := hW.n
  unfold f_X4_greatest
  rw [jn_eq, great_L Fu _ hW h Fu 0 _ (Nat.zero_le _) (by omega)]
  rfl
theorem let27_0 (Fu : Nat) (k : Int32 → Option Int32) (hW : WF A) (h : RS A s) {c : Nat} (hc : c < 26) : ∀ (fu i : Nat) (a : Int32), i ≤ A.wn → A.wn - i < fu → f_X4_letter_L27 Fu k s (nI c) (nI 0) fu a (nI i) = k (itF (fun p a => a + (if A.le p = c then nI 1 else nI 0)) i (A.wn - i) a) := by
  have hw := hW.w
  have e0 := h.rwn
  intro fu
  induction fu with
  | zero => intro i a h1 h2; omega
  | succ fu ih =>
    intro i a h1 h2
    rw [f_X4_letter_L27_s]
    by_cases hh : A.wn ≤ i
    · have e : A.wn - i = 0 := by omega
      rw [e, itF_0]
      simp (disch := omega) only [gd_true, nm_eq, jn_eq, bd1_s, bd2_s, bd3_s, bd4_s, bd5_s, bd6_s, bd7_s, bd8_s, bd9_s, bd10_s, bd11_s, bd12_s, nI_add, pk_mul, pk_subs, nI_m1s, ix_nIs, nI_clamps, nI_les, nI_lts, nI_eqs, bz_0, bz_1, nI_zero, eq_self, if_true, if_false, e0, if_pos]
    · have e : A.wn - i = (A.wn - (i + 1)) + 1 := by omega
      have hp : i < A.wn := by omega
      have e1 := h.rle hp
      have e3 := (hW.2.2 i hp).1
      rw [e, itF_s, ← ih (i + 1) _ (by omega) (by omega)]
      by_cases hq : A.le i = c
      · rw [if_pos hq]
        simp (disch := omega) only [gd_true, nm_eq, jn_eq, bd1_s, bd2_s, bd3_s, bd4_s, bd5_s, bd6_s, bd7_s, bd8_s, bd9_s, bd10_s, bd11_s, bd12_s, nI_add, pk_mul, pk_subs, nI_m1s, ix_nIs, nI_clamps, nI_les, nI_lts, nI_eqs, bz_0, bz_1, nI_zero, eq_self, if_true, if_false, e0, e1, if_neg hh, if_pos hq]
      · rw [if_neg hq]
        simp (disch := omega) only [gd_true, nm_eq, jn_eq, bd1_s, bd2_s, bd3_s, bd4_s, bd5_s, bd6_s, bd7_s, bd8_s, bd9_s, bd10_s, bd11_s, bd12_s, nI_add, pk_mul, pk_subs, nI_m1s, ix_nIs, nI_clamps, nI_les, nI_lts, nI_eqs, bz_0, bz_1, nI_zero, eq_self, if_true, if_false, e0, e1, if_neg hh, if_neg hq]
theorem let27_3 (Fu : Nat) (k : Int32 → Option Int32) (hW : WF A) (h : RS A s) {c : Nat} (hc : c < 26) : ∀ (fu i : Nat) (a : Int32), i ≤ A.wn → A.wn - i < fu → f_X4_letter_L27 Fu k s (nI c) (nI 3) fu a (nI i) = k (itF (fun p a => a + (if A.le p = c then nI (A.he p) else nI 0)) i (A.wn - i) a) := by
  have hw := hW.w
  have e0 := h.rwn
  intro fu
  induction fu with
  | zero => intro i a h1 h2; omega
  | succ fu ih =>
    intro i a h1 h2
    rw [f_X4_letter_L27_s]
    by_cases hh : A.wn ≤ i
    · have e : A.wn - i = 0 := by omega
      rw [e, itF_0]
      simp (disch := omega) only [gd_true, nm_eq, jn_eq, bd1_s, bd2_s, bd3_s, bd4_s, bd5_s, bd6_s, bd7_s, bd8_s, bd9_s, bd10_s, bd11_s, bd12_s, nI_add, pk_mul, pk_subs, nI_m1s, ix_nIs, nI_clamps, nI_les, nI_lts, nI_eqs, bz_0, bz_1, nI_zero, eq_self, if_true, if_false, e0, if_pos]
    · have e : A.wn - i = (A.wn - (i + 1)) + 1 := by omega
      have hp : i < A.wn := by omega
      have e1 := h.rle hp
      have e2 := h.rhe hp
      have e3 := (hW.2.2 i hp).1
      rw [e, itF_s, ← ih (i + 1) _ (by omega) (by omega)]
      by_cases hq : A.le i = c
      · rw [if_pos hq]
        simp (disch := omega) only [gd_true, nm_eq, jn_eq, bd1_s, bd2_s, bd3_s, bd4_s, bd5_s, bd6_s, bd7_s, bd8_s, bd9_s, bd10_s, bd11_s, bd12_s, nI_add, pk_mul, pk_subs, nI_m1s, ix_nIs, nI_clamps, nI_les, nI_lts, nI_eqs, bz_0, bz_1, nI_zero, eq_self, if_true, if_false, e0, e1, e2, if_neg hh, if_pos hq, if_neg (show ¬ (3 : Nat) = 0 by decide)]
      · rw [if_neg hq]
        simp (disch := omega) only [gd_true, nm_eq, jn_eq, bd1_s, bd2_s, bd3_s, bd4_s, bd5_s, bd6_s, bd7_s, bd8_s, bd9_s, bd10_s, bd11_s, bd12_s, nI_add, pk_mul, pk_subs, nI_m1s, ix_nIs, nI_clamps, nI_les, nI_lts, nI_eqs, bz_0, bz_1, nI_zero, eq_self, if_true, if_false, e0, e1, e2, if_neg hh, if_neg hq, if_neg (show ¬ (3 : Nat) = 0 by decide)]
theorem let27_x (Fu : Nat) (k : Int32 → Option Int32) (hW : WF A) (h : RS A s) {c w : Nat} (hw : w = 1 ∨ w = 2) (fu : Nat) (a : Int32) : f_X4_letter_L27 Fu k s (nI c) (nI w) (fu + 1) a (nI 0) = k a := by
  have hw' := hW.w
  have e0 := h.rwn
  rw [f_X4_letter_L27_s]
  by_cases hh : A.wn ≤ 0
  · simp (disch := omega) only [gd_true, nm_eq, jn_eq, bd1_s, bd2_s, bd3_s, bd4_s, bd5_s, bd6_s, bd7_s, bd8_s, bd9_s, bd10_s, bd11_s, bd12_s, nI_add, pk_mul, pk_subs, nI_m1s, ix_nIs, nI_clamps, nI_les, nI_lts, nI_eqs, bz_0, bz_1, nI_zero, eq_self, if_true, if_false, e0, if_pos hh]
  · rcases hw with rfl | rfl
    · simp (disch := omega) only [gd_true, nm_eq, jn_eq, bd1_s, bd2_s, bd3_s, bd4_s, bd5_s, bd6_s, bd7_s, bd8_s, bd9_s, bd10_s, bd11_s, bd12_s, nI_add, pk_mul, pk_subs, nI_m1s, ix_nIs, nI_clamps, nI_les, nI_lts, nI_eqs, bz_0, bz_1, nI_zero, eq_self, if_true, if_false, e0, if_neg hh, if_neg (show ¬ (1 : Nat) = 0 by decide), if_neg (show ¬ (1 : Nat) = 3 by decide)]
    · simp (disch := omega) only [gd_true, nm_eq, jn_eq, bd1_s, bd2_s, bd3_s, bd4_s, bd5_s, bd6_s, bd7_s, bd8_s, bd9_s, bd10_s, bd11_s, bd12_s, nI_add, pk_mul, pk_subs, nI_m1s, ix_nIs, nI_clamps, nI_les, nI_lts, nI_eqs, bz_0, bz_1, nI_zero, eq_self, if_true, if_false, e0, if_neg hh, if_neg (show ¬ (2 : Nat) = 0 by decide), if_neg (show ¬ (2 : Nat) = 3 by decide)]
theorem let96_x (Fu : Nat) (k : Int32 → Option Int32) (hW : WF A) (h : RS A s) {c w : Nat} (hw : w = 0 ∨ w = 3) (fu : Nat) (a : Int32) : f_X4_letter_L96 Fu k s (nI c) (nI w) (fu + 1) a (nI 0) = k a := by
  have hn := hW.n
  have e0 := h.rns
  rw [f_X4_letter_L96_s]
  by_cases hh : A.ns ≤ 0
  · simp (disch := omega) only [gd_true, nm_eq, jn_eq, bd1_s, bd2_s, bd3_s, bd4_s, bd5_s, bd6_s, bd7_s, bd8_s, bd9_s, bd10_s, bd11_s, bd12_s, nI_add, pk_mul, pk_subs, nI_m1s, ix_nIs, nI_clamps, nI_les, nI_lts, nI_eqs, bz_0, bz_1, nI_zero, eq_self, if_true, if_false, e0, if_pos hh]
  · rcases hw with rfl | rfl
    · simp (disch := omega) only [gd_true, nm_eq, jn_eq, bd1_s, bd2_s, bd3_s, bd4_s, bd5_s, bd6_s, bd7_s, bd8_s, bd9_s, bd10_s, bd11_s, bd12_s, nI_add, pk_mul, pk_subs, nI_m1s, ix_nIs, nI_clamps, nI_les, nI_lts, nI_eqs, bz_0, bz_1, nI_zero, eq_self, if_true, if_false, e0, if_neg hh, if_neg (show ¬ (0 : Nat) = 1 by decide), if_neg (show ¬ (0 : Nat) = 2 by decide)]
    · simp (disch := omega) only [gd_true, nm_eq, jn_eq, bd1_s, bd2_s, bd3_s, bd4_s, bd5_s, bd6_s, bd7_s, bd8_s, bd9_s, bd10_s, bd11_s, bd12_s, nI_add, pk_mul, pk_subs, nI_m1s, ix_nIs, nI_clamps, nI_les, nI_lts, nI_eqs, bz_0, bz_1, nI_zero, eq_self, if_true, if_false, e0, if_neg hh, if_neg (show ¬ (3 : Nat) = 1 by decide), if_neg (show ¬ (3 : Nat) = 2 by decide)]
theorem let96_1 (Fu : Nat) (hF : 20000000 ≤ Fu) (k : Int32 → Option Int32) (hW : WF A) (h : RS A s) {c : Nat} (hc : c < 26) : ∀ (fu i : Nat) (a : Int32), i ≤ A.ns → A.ns - i < fu → f_X4_letter_L96 Fu k s (nI c) (nI 1) fu a (nI i) = k (itF (fun k a => a + (if taR A k c ≤ nI 0 then nI 0 else nI 1)) i (A.ns - i) a) := by
  have hn := hW.n
  have e0 := h.rns
  intro fu
  induction fu with
  | zero => intro i a h1 h2; omega
  | succ fu ih =>
    intro i a h1 h2
    rw [f_X4_letter_L96_s]
    by_cases hh : A.ns ≤ i
    · have e : A.ns - i = 0 := by omega
      rw [e, itF_0]
      simp (disch := omega) only [gd_true, nm_eq, jn_eq, bd1_s, bd2_s, bd3_s, bd4_s, bd5_s, bd6_s, bd7_s, bd8_s, bd9_s, bd10_s, bd11_s, bd12_s, nI_add, pk_mul, pk_subs, nI_m1s, ix_nIs, nI_clamps, nI_les, nI_lts, nI_eqs, bz_0, bz_1, nI_zero, eq_self, if_true, if_false, e0, if_pos]
    · have e : A.ns - i = (A.ns - (i + 1)) + 1 := by omega
      have e1 := times_s hF hW h (show i < A.ns by omega) hc
      rw [e, itF_s, ← ih (i + 1) _ (by omega) (by omega)]
      by_cases hq : taR A i c ≤ nI 0
      · rw [if_pos hq]
        simp (disch := omega) only [gd_true, nm_eq, jn_eq, bd1_s, bd2_s, bd3_s, bd4_s, bd5_s, bd6_s, bd7_s, bd8_s, bd9_s, bd10_s, bd11_s, bd12_s, nI_add, pk_mul, pk_subs, nI_m1s, ix_nIs, nI_clamps, nI_les, nI_lts, nI_eqs, bz_0, bz_1, nI_zero, eq_self, if_true, if_false, e0, e1, if_neg hh, if_pos hq]
      · rw [if_neg hq]
        simp (disch := omega) only [gd_true, nm_eq, jn_eq, bd1_s, bd2_s, bd3_s, bd4_s, bd5_s, bd6_s, bd7_s, bd8_s, bd9_s, bd10_s, bd11_s, bd12_s, nI_add, pk_mul, pk_subs, nI_m1s, ix_nIs, nI_clamps, nI_les, nI_lts, nI_eqs, bz_0, bz_1, nI_zero, eq_self, if_true, if_false, e0, e1, if_neg hh, if_neg hq]
theorem let96_2 (Fu : Nat) (hF : 20000000 ≤ Fu) (k : Int32 → Option Int32) (hW : WF A) (h : RS A s) {c : Nat} (hc : c < 26) : ∀ (fu i : Nat) (a : Int32), i ≤ A.ns → A.ns - i < fu → f_X4_letter_L96 Fu k s (nI c) (nI 2) fu a (nI i) = k (itF (fun k a => a + (if thR (taR A k) = c then nI 1 else nI 0)) i (A.ns - i) a) := by
  have hn := hW.n
  have e0 := h.rns
  intro fu
  induction fu with
  | zero => intro i a h1 h2; omega
  | succ fu ih =>
    intro i a h1 h2
    rw [f_X4_letter_L96_s]
    by_cases hh : A.ns ≤ i
    · have e : A.ns - i = 0 := by omega
      rw [e, itF_0]
      simp (disch := omega) only [gd_true, nm_eq, jn_eq, bd1_s, bd2_s, bd3_s, bd4_s, bd5_s, bd6_s, bd7_s, bd8_s, bd9_s, bd10_s, bd11_s, bd12_s, nI_add, pk_mul, pk_subs, nI_m1s, ix_nIs, nI_clamps, nI_les, nI_lts, nI_eqs, bz_0, bz_1, nI_zero, eq_self, if_true, if_false, e0, if_pos]
    · have e : A.ns - i = (A.ns - (i + 1)) + 1 := by omega
      have e1 := theme_s hF hW h (show i < A.ns by omega)
      have e2 := thR_lt (taR A i)
      rw [e, itF_s, ← ih (i + 1) _ (by omega) (by omega)]
      by_cases hq : thR (taR A i) = c
      · rw [if_pos hq]
        simp (disch := omega) only [gd_true, nm_eq, jn_eq, bd1_s, bd2_s, bd3_s, bd4_s, bd5_s, bd6_s, bd7_s, bd8_s, bd9_s, bd10_s, bd11_s, bd12_s, nI_add, pk_mul, pk_subs, nI_m1s, ix_nIs, nI_clamps, nI_les, nI_lts, nI_eqs, bz_0, bz_1, nI_zero, eq_self, if_true, if_false, e0, e1, if_neg hh, if_pos hq, if_neg (show ¬ (2 : Nat) = 1 by decide)]
      · rw [if_neg hq]
        simp (disch := omega) only [gd_true, nm_eq, jn_eq, bd1_s, bd2_s, bd3_s, bd4_s, bd5_s, bd6_s, bd7_s, bd8_s, bd9_s, bd10_s, bd11_s, bd12_s, nI_add, pk_mul, pk_subs, nI_m1s, ix_nIs, nI_clamps, nI_les, nI_lts, nI_eqs, bz_0, bz_1, nI_zero, eq_self, if_true, if_false, e0, e1, if_neg hh, if_neg hq, if_neg (show ¬ (2 : Nat) = 1 by decide)]
end RQ3
section SIMQ
variable {Fu : Nat} {A : Sh} {se le he sa fa ge : Ar} {ns nf sp bo fi : Int32} {s : Ar}
theorem one_ne : ¬ nI 1 = (0 : Int32) := by decide
theorem zero_eq : nI 0 = (0 : Int32) := nI_0
theorem within_n {n : Nat} {p : Int32} (hn : n < 99999) : (if nI 0 ≤ p ∧ p ≤ nI n then nI 1 else nI 0) = (if isS (n + 1) p = true then nI 1 else nI 0) := by
  have := within_isS (n := n + 1) (p := p) (by omega)
  rwa [pk_subs (show 1 ≤ n + 1 from Nat.le_add_left 1 n), Nat.add_sub_cancel] at this
theorem sim_word (hF : 20000000 ≤ Fu) (hW : WF A) (h : RV A se le he sa fa ge ns nf sp bo fi) (g : RS A s) (p q w : Int32) : ∃ r, f_X3_word Fu le he sa ns p q w = some r ∧ f_X4_word Fu s p q w = some r := by
  have hn := hW.n
  have a1 := hasWord_s Fu hW.1 (fun k hk => h.rsa hk) p q
  have a2 := isWord_s Fu hW.1 g.rns (fun k hk => g.rlo hk) p q
  rw [← h.rns] at a1
  unfold f_X3_word f_X4_word
  rw [a1, a2, bd1_s, bd1_s]
  by_cases hq : isW A.ns A.st p q = true
  · rw [if_pos hq, if_neg one_ne, if_neg one_ne]
    obtain ⟨k, j, hk, hj, rfl, rfl⟩ := isW_t hq hW.1
    have hm2 := hW.1.le (show k + 1 ≤ A.ns by omega) (Nat.le_refl _)
    have hw' : A.st A.ns ≤ 150 := hW.w
    have hp : A.st k + j < A.wn := by unfold Sh.wn; omega
    have e1 := h.rsa (show k ≤ A.ns by omega)
    have e2 := h.rle hp
    have e3 := h.rhe hp
    have e4 := g.rle hp
    have e5 := g.rhe hp
    have b1 := (hW.2.2 _ hp).1
    have e6 := first_r hF hW g (show k ≤ A.ns by omega)
    have e7 := timesIn_s hF hW h (show A.le (A.st k + j) < 1000 by omega) hk
    have e8 := times_s hF hW g hk b1
    by_cases w0 : w = nI 0
    · subst w0
      refine ⟨nI (A.le (A.st k + j)), ?_, ?_⟩
      · simp (disch := omega) only [gd_true, nm_eq, jn_eq, bd1_s, bd2_s, bd3_s, bd4_s, bd5_s, bd6_s, bd7_s, bd8_s, bd9_s, bd10_s, bd11_s, bd12_s, nI_add, pk_mul, pk_subs, nI_m1s, ix_nIs, nI_clamps, nI_les, nI_lts, nI_eqs, bz_0, bz_1, nI_zero, eq_self, if_true, if_false, e1, e2]
      · simp (disch := omega) only [gd_true, nm_eq, jn_eq, bd1_s, bd2_s, bd3_s, bd4_s, bd5_s, bd6_s, bd7_s, bd8_s, bd9_s, bd10_s, bd11_s, bd12_s, nI_add, pk_mul, pk_subs, nI_m1s, ix_nIs, nI_clamps, nI_les, nI_lts, nI_eqs, bz_0, bz_1, nI_zero, eq_self, if_true, if_false, e6, e4]
    · by_cases w1 : w = nI 1
      · subst w1
        refine ⟨nI (A.he (A.st k + j)), ?_, ?_⟩
        · simp (disch := omega) only [gd_true, nm_eq, jn_eq, bd1_s, bd2_s, bd3_s, bd4_s, bd5_s, bd6_s, bd7_s, bd8_s, bd9_s, bd10_s, bd11_s, bd12_s, nI_add, pk_mul, pk_subs, nI_m1s, ix_nIs, nI_clamps, nI_les, nI_lts, nI_eqs, bz_0, bz_1, nI_zero, eq_self, if_true, if_false, e1, e3, if_neg (show ¬ (1 : Nat) = 0 by decide)]
        · simp (disch := omega) only [gd_true, nm_eq, jn_eq, bd1_s, bd2_s, bd3_s, bd4_s, bd5_s, bd6_s, bd7_s, bd8_s, bd9_s, bd10_s, bd11_s, bd12_s, nI_add, pk_mul, pk_subs, nI_m1s, ix_nIs, nI_clamps, nI_les, nI_lts, nI_eqs, bz_0, bz_1, nI_zero, eq_self, if_true, if_false, e6, e5, if_neg (show ¬ (1 : Nat) = 0 by decide)]
      · by_cases w2 : w = nI 2
        · subst w2
          refine ⟨taR A k (A.le (A.st k + j)), ?_, ?_⟩
          · simp (disch := omega) only [gd_true, nm_eq, jn_eq, bd1_s, bd2_s, bd3_s, bd4_s, bd5_s, bd6_s, bd7_s, bd8_s, bd9_s, bd10_s, bd11_s, bd12_s, nI_add, pk_mul, pk_subs, nI_m1s, ix_nIs, nI_clamps, nI_les, nI_lts, nI_eqs, bz_0, bz_1, nI_zero, eq_self, if_true, if_false, e1, e2, e7, if_neg (show ¬ (2 : Nat) = 0 by decide), if_neg (show ¬ (2 : Nat) = 1 by decide)]
            rfl
          · simp (disch := omega) only [gd_true, nm_eq, jn_eq, bd1_s, bd2_s, bd3_s, bd4_s, bd5_s, bd6_s, bd7_s, bd8_s, bd9_s, bd10_s, bd11_s, bd12_s, nI_add, pk_mul, pk_subs, nI_m1s, ix_nIs, nI_clamps, nI_les, nI_lts, nI_eqs, bz_0, bz_1, nI_zero, eq_self, if_true, if_false, e6, e4, e8, if_neg (show ¬ (2 : Nat) = 0 by decide), if_neg (show ¬ (2 : Nat) = 1 by decide)]
        · refine ⟨-2, ?_, ?_⟩
          · simp (disch := omega) only [gd_true, nm_eq, jn_eq, bd1_s, bd2_s, bd3_s, bd4_s, bd5_s, bd6_s, bd7_s, bd8_s, bd9_s, bd10_s, bd11_s, bd12_s, nI_add, pk_mul, pk_subs, nI_m1s, ix_nIs, nI_clamps, nI_les, nI_lts, nI_eqs, bz_0, bz_1, nI_zero, eq_self, if_true, if_false, e1, if_neg w0, if_neg w1, if_neg w2]
          · simp (disch := omega) only [gd_true, nm_eq, jn_eq, bd1_s, bd2_s, bd3_s, bd4_s, bd5_s, bd6_s, bd7_s, bd8_s, bd9_s, bd10_s, bd11_s, bd12_s, nI_add, pk_mul, pk_subs, nI_m1s, ix_nIs, nI_clamps, nI_les, nI_lts, nI_eqs, bz_0, bz_1, nI_zero, eq_self, if_true, if_false, e6, if_neg w0, if_neg w1, if_neg w2]
  · rw [if_neg hq, if_pos zero_eq, if_pos zero_eq]
    exact ⟨-1, rfl, rfl⟩
theorem sim_letter (hF : 20000000 ≤ Fu) (hW : WF A) (h : RV A se le he sa fa ge ns nf sp bo fi) (g : RS A s) (t : Ar) (p w : Int32) : ∃ r t', f_X3_letter Fu le he sa t ns p w = some (r, t') ∧ f_X4_letter Fu s p w = some r := by
  unfold f_X3_letter f_X4_letter f_X3_isLetter
  rw [isWithin_s, in4_s, in4_s, within_n (n := 25) (by omega), within_n (n := 3) (by omega), bd1_s, bz_if, gd_true, bd1_s, bd1_s]
  by_cases hq : isS (25 + 1) p = true
  · rw [if_pos hq, if_neg one_ne, if_neg one_ne]
    obtain ⟨c, hc, rfl⟩ := isS_t hq (by omega)
    have hc : c < 26 := hc
    rw [bd1_s, nm_eq]
    obtain ⟨F1, rfl⟩ : ∃ F1, Fu = F1 + 1 := ⟨Fu - 1, by omega⟩
    by_cases w0 : w = nI 0
    · subst w0
      refine ⟨cntR A.le 0 A.wn c, t, ?_, ?_⟩
      · rw [if_pos rfl, timesInAll_s hF hW h (show c < 1000 by omega), bd1_s]
      · rw [if_pos (show isS (3 + 1) (nI 0) = true by decide), if_neg one_ne, jn_eq, let27_0 _ _ hW g hc _ 0 _ (Nat.zero_le _) (by have := hW.w; omega), jn_eq, let96_x _ _ hW g (Or.inl rfl)]
        rfl
    · by_cases w1 : w = nI 1
      · subst w1
        refine ⟨withR A c, t, ?_, ?_⟩
        · rw [if_neg (by decide), if_pos rfl, with_s hF hW h hc, bd1_s]
        · rw [if_pos (show isS (3 + 1) (nI 1) = true by decide), if_neg one_ne, jn_eq, let27_x _ _ hW g (Or.inl rfl), jn_eq, let96_1 _ hF _ hW g hc _ 0 _ (Nat.zero_le _) (by have := hW.n; omega)]
          rfl
      · by_cases w2 : w = nI 2
        · subst w2
          obtain ⟨t', e⟩ := ofth_s hF hW h hc t
          refine ⟨ofthR A c, t', ?_, ?_⟩
          · rw [if_neg (by decide), if_neg (by decide), if_pos rfl, e, bd2_s]
          · rw [if_pos (show isS (3 + 1) (nI 2) = true by decide), if_neg one_ne, jn_eq, let27_x _ _ hW g (Or.inr rfl), jn_eq, let96_2 _ hF _ hW g hc _ 0 _ (Nat.zero_le _) (by have := hW.n; omega)]
            rfl
        · by_cases w3 : w = nI 3
          · subst w3
            refine ⟨hlR A c, t, ?_, ?_⟩
            · rw [if_neg (by decide), if_neg (by decide), if_neg (by decide), if_pos rfl, hl_s hF hW h hc, bd1_s]
            · rw [if_pos (show isS (3 + 1) (nI 3) = true by decide), if_neg one_ne, jn_eq, let27_3 _ _ hW g hc _ 0 _ (Nat.zero_le _) (by have := hW.w; omega), jn_eq, let96_x _ _ hW g (Or.inr rfl)]
              rfl
          · refine ⟨-2, t, ?_, ?_⟩
            · rw [if_neg w0, if_neg w1, if_neg w2, if_neg w3]
            · have : ¬ isS (3 + 1) w = true := by
                intro z
                obtain ⟨j, hj, rfl⟩ := isS_t z (by omega)
                rcases (show j = 0 ∨ j = 1 ∨ j = 2 ∨ j = 3 by omega) with rfl | rfl | rfl | rfl
                · exact w0 rfl
                · exact w1 rfl
                · exact w2 rfl
                · exact w3 rfl
              rw [if_neg this, if_pos zero_eq]
  · rw [if_neg hq, if_pos zero_eq, if_pos zero_eq]
    exact ⟨-2, t, rfl, rfl⟩
theorem sim_story (hF : 20000000 ≤ Fu) (hW : WF A) (h : RV A se le he sa fa ge ns nf sp bo fi) (g : RS A s) (t : Ar) (p w : Int32) : ∃ r t', f_X3_story Fu le he sa fa ge t ns p w = some (r, t') ∧ f_X4_story Fu s p w = some r := by
  have hn := hW.n
  have a1 := hasStory_s Fu p (show A.ns < 1000000 by omega)
  have a2 := isStory_s Fu p g.rns (show A.ns < 1000000 by omega)
  rw [← h.rns] at a1
  unfold f_X3_story f_X4_story
  rw [a1, a2, bd1_s, bd1_s]
  by_cases hq : isS A.ns p = true
  · rw [if_pos hq, if_neg one_ne, if_neg one_ne]
    obtain ⟨k, hk, rfl⟩ := isS_t hq (by omega)
    have e1 := sizeOf_s Fu hW.1 (fun k hk => h.rsa hk) hk
    have f1 := g.rlo hk
    have e2 := heatOf_s hF hW h hk
    have f2 := heatOf4_s hF hW g hk
    have e4 := h.rfa hk
    have f4 := g.rfa hk
    have e5 := h.rge hk
    have f5 := g.rge hk
    have e6 := hottestOf_s hF hW h hk
    have f6 := hottest_s hF hW g hk
    have e8 := reads_s hF hW h hk
    have f8 := back_s hF hW g hk
    by_cases w0 : w = nI 0
    · subst w0
      exact ⟨nI (A.st (k + 1) - A.st k), t, by simp (disch := omega) only [gd_true, nm_eq, jn_eq, bd1_s, bd2_s, bd3_s, bd4_s, bd5_s, bd6_s, bd7_s, bd8_s, bd9_s, bd10_s, bd11_s, bd12_s, nI_add, pk_mul, pk_subs, nI_m1s, ix_nIs, nI_clamps, nI_les, nI_lts, nI_eqs, bz_0, bz_1, nI_zero, eq_self, if_true, if_false, e1], by simp (disch := omega) only [gd_true, nm_eq, jn_eq, bd1_s, bd2_s, bd3_s, bd4_s, bd5_s, bd6_s, bd7_s, bd8_s, bd9_s, bd10_s, bd11_s, bd12_s, nI_add, pk_mul, pk_subs, nI_m1s, ix_nIs, nI_clamps, nI_les, nI_lts, nI_eqs, bz_0, bz_1, nI_zero, eq_self, if_true, if_false, f1]⟩
    · by_cases w1 : w = nI 1
      · subst w1
        exact ⟨heatR A.he (A.st k) (A.st (k + 1) - A.st k), t, by simp (disch := omega) only [gd_true, nm_eq, jn_eq, bd1_s, bd2_s, bd3_s, bd4_s, bd5_s, bd6_s, bd7_s, bd8_s, bd9_s, bd10_s, bd11_s, bd12_s, nI_add, pk_mul, pk_subs, nI_m1s, ix_nIs, nI_clamps, nI_les, nI_lts, nI_eqs, bz_0, bz_1, nI_zero, eq_self, if_true, if_false, e2, if_neg (show ¬ (1 : Nat) = 0 by decide)], by simp (disch := omega) only [gd_true, nm_eq, jn_eq, bd1_s, bd2_s, bd3_s, bd4_s, bd5_s, bd6_s, bd7_s, bd8_s, bd9_s, bd10_s, bd11_s, bd12_s, nI_add, pk_mul, pk_subs, nI_m1s, ix_nIs, nI_clamps, nI_les, nI_lts, nI_eqs, bz_0, bz_1, nI_zero, eq_self, if_true, if_false, f2, if_neg (show ¬ (1 : Nat) = 0 by decide)]⟩
      · by_cases w2 : w = nI 2
        · subst w2
          obtain ⟨t', e3⟩ := themeOf_s hF hW h t hk
          have f3 := theme_s hF hW g hk
          refine ⟨nI (thR (taR A k)), t', ?_, ?_⟩
          · rw [nm_eq, if_neg w0, if_neg w1]
            simp (disch := omega) only [gd_true, nm_eq, jn_eq, bd1_s, bd2_s, bd3_s, bd4_s, bd5_s, bd6_s, bd7_s, bd8_s, bd9_s, bd10_s, bd11_s, bd12_s, nI_add, pk_mul, pk_subs, nI_m1s, ix_nIs, nI_clamps, nI_les, nI_lts, nI_eqs, bz_0, bz_1, nI_zero, eq_self, if_true, if_false, e3]
          · rw [nm_eq, if_neg w0, if_neg w1]
            simp (disch := omega) only [gd_true, nm_eq, jn_eq, bd1_s, bd2_s, bd3_s, bd4_s, bd5_s, bd6_s, bd7_s, bd8_s, bd9_s, bd10_s, bd11_s, bd12_s, nI_add, pk_mul, pk_subs, nI_m1s, ix_nIs, nI_clamps, nI_les, nI_lts, nI_eqs, bz_0, bz_1, nI_zero, eq_self, if_true, if_false, f3]
        · by_cases w3 : w = nI 3
          · subst w3
            refine ⟨A.fa k, t, ?_, ?_⟩
            · rw [nm_eq, if_neg w0, if_neg w1, if_neg w2]
              simp (disch := omega) only [gd_true, nm_eq, jn_eq, bd1_s, bd2_s, bd3_s, bd4_s, bd5_s, bd6_s, bd7_s, bd8_s, bd9_s, bd10_s, bd11_s, bd12_s, nI_add, pk_mul, pk_subs, nI_m1s, ix_nIs, nI_clamps, nI_les, nI_lts, nI_eqs, bz_0, bz_1, nI_zero, eq_self, if_true, if_false, e4]
            · rw [nm_eq, if_neg w0, if_neg w1, if_neg w2]
              simp (disch := omega) only [gd_true, nm_eq, jn_eq, bd1_s, bd2_s, bd3_s, bd4_s, bd5_s, bd6_s, bd7_s, bd8_s, bd9_s, bd10_s, bd11_s, bd12_s, nI_add, pk_mul, pk_subs, nI_m1s, ix_nIs, nI_clamps, nI_les, nI_lts, nI_eqs, bz_0, bz_1, nI_zero, eq_self, if_true, if_false, f4]
          · by_cases w4 : w = nI 4
            · subst w4
              refine ⟨A.ge k, t, ?_, ?_⟩
              · rw [nm_eq, if_neg w0, if_neg w1, if_neg w2, if_neg w3]
                simp (disch := omega) only [gd_true, nm_eq, jn_eq, bd1_s, bd2_s, bd3_s, bd4_s, bd5_s, bd6_s, bd7_s, bd8_s, bd9_s, bd10_s, bd11_s, bd12_s, nI_add, pk_mul, pk_subs, nI_m1s, ix_nIs, nI_clamps, nI_les, nI_lts, nI_eqs, bz_0, bz_1, nI_zero, eq_self, if_true, if_false, e5]
              · rw [nm_eq, if_neg w0, if_neg w1, if_neg w2, if_neg w3]
                simp (disch := omega) only [gd_true, nm_eq, jn_eq, bd1_s, bd2_s, bd3_s, bd4_s, bd5_s, bd6_s, bd7_s, bd8_s, bd9_s, bd10_s, bd11_s, bd12_s, nI_add, pk_mul, pk_subs, nI_m1s, ix_nIs, nI_clamps, nI_les, nI_lts, nI_eqs, bz_0, bz_1, nI_zero, eq_self, if_true, if_false, f5]
            · by_cases w5 : w = nI 5
              · subst w5
                refine ⟨nI (hoR A.he (A.st k) (A.st (k + 1) - A.st k) - A.st k), t, ?_, ?_⟩
                · rw [nm_eq, if_neg w0, if_neg w1, if_neg w2, if_neg w3, if_neg w4]
                  simp (disch := omega) only [gd_true, nm_eq, jn_eq, bd1_s, bd2_s, bd3_s, bd4_s, bd5_s, bd6_s, bd7_s, bd8_s, bd9_s, bd10_s, bd11_s, bd12_s, nI_add, pk_mul, pk_subs, nI_m1s, ix_nIs, nI_clamps, nI_les, nI_lts, nI_eqs, bz_0, bz_1, nI_zero, eq_self, if_true, if_false, e6]
                · rw [nm_eq, if_neg w0, if_neg w1, if_neg w2, if_neg w3, if_neg w4]
                  simp (disch := omega) only [gd_true, nm_eq, jn_eq, bd1_s, bd2_s, bd3_s, bd4_s, bd5_s, bd6_s, bd7_s, bd8_s, bd9_s, bd10_s, bd11_s, bd12_s, nI_add, pk_mul, pk_subs, nI_m1s, ix_nIs, nI_clamps, nI_les, nI_lts, nI_eqs, bz_0, bz_1, nI_zero, eq_self, if_true, if_false, f6]
              · by_cases w6 : w = nI 6
                · subst w6
                  obtain ⟨t', e7⟩ := unlikeLettersOf_s hF hW h t hk
                  have f7 := unlike_s hF hW g hk
                  refine ⟨unR (taR A k), t', ?_, ?_⟩
                  · rw [nm_eq, if_neg w0, if_neg w1, if_neg w2, if_neg w3, if_neg w4, if_neg w5]
                    simp (disch := omega) only [gd_true, nm_eq, jn_eq, bd1_s, bd2_s, bd3_s, bd4_s, bd5_s, bd6_s, bd7_s, bd8_s, bd9_s, bd10_s, bd11_s, bd12_s, nI_add, pk_mul, pk_subs, nI_m1s, ix_nIs, nI_clamps, nI_les, nI_lts, nI_eqs, bz_0, bz_1, nI_zero, eq_self, if_true, if_false, e7]
                  · rw [nm_eq, if_neg w0, if_neg w1, if_neg w2, if_neg w3, if_neg w4, if_neg w5]
                    simp (disch := omega) only [gd_true, nm_eq, jn_eq, bd1_s, bd2_s, bd3_s, bd4_s, bd5_s, bd6_s, bd7_s, bd8_s, bd9_s, bd10_s, bd11_s, bd12_s, nI_add, pk_mul, pk_subs, nI_m1s, ix_nIs, nI_clamps, nI_les, nI_lts, nI_eqs, bz_0, bz_1, nI_zero, eq_self, if_true, if_false, f7]
                · by_cases w7 : w = nI 7
                  · subst w7
                    refine ⟨if palB A.le (A.st k) (A.st (k + 1) - A.st k) = true then nI 1 else nI 0, t, ?_, ?_⟩
                    · rw [nm_eq, if_neg w0, if_neg w1, if_neg w2, if_neg w3, if_neg w4, if_neg w5, if_neg w6, if_pos rfl, e8, bd1_s, nm_eq]
                      by_cases hp : palB A.le (A.st k) (A.st (k + 1) - A.st k) = true
                      · rw [if_pos hp]; rfl
                      · rw [if_neg hp]; rfl
                    · rw [nm_eq, if_neg w0, if_neg w1, if_neg w2, if_neg w3, if_neg w4, if_neg w5, if_neg w6]
                      simp (disch := omega) only [gd_true, nm_eq, jn_eq, bd1_s, bd2_s, bd3_s, bd4_s, bd5_s, bd6_s, bd7_s, bd8_s, bd9_s, bd10_s, bd11_s, bd12_s, nI_add, pk_mul, pk_subs, nI_m1s, ix_nIs, nI_clamps, nI_les, nI_lts, nI_eqs, bz_0, bz_1, nI_zero, eq_self, if_true, if_false, f8]
                  · refine ⟨-2, t, ?_, ?_⟩
                    · rw [nm_eq, if_neg w0, if_neg w1, if_neg w2, if_neg w3, if_neg w4, if_neg w5, if_neg w6, if_neg w7]
                    · rw [nm_eq, if_neg w0, if_neg w1, if_neg w2, if_neg w3, if_neg w4, if_neg w5, if_neg w6, if_neg w7]
  · rw [if_neg hq, if_pos zero_eq, if_pos zero_eq]
    exact ⟨-1, t, rfl, rfl⟩
end SIMQ
end
section
/-! PURE: heat comes, a story splits, a word reacts: on the shelf's value, and both sides -/
def minH (a b : Nat) : Nat := if a + b ≤ 999 then a + b else 999
theorem minH_le (a b : Nat) : minH a b ≤ 999 ∧ minH a b ≤ a + b := by
  unfold minH
  by_cases h : a + b ≤ 999
  · rw [if_pos h]; omega
  · rw [if_neg h]; omega
theorem jmin_s {a b : Nat} (ha : a ≤ 100000) (hb : b ≤ 100000) : jmin (nI 999) (nI a + nI b) = nI (minH a b) := by
  unfold jmin minH
  rw [nI_add]
  by_cases h : a + b ≤ 999
  · rw [if_pos h]
    by_cases h2 : a + b < 999
    · rw [if_pos (by rw [nI_lts (by omega) (by omega)]; exact h2)]
    · rw [if_neg (by rw [nI_lts (by omega) (by omega)]; exact h2)]
      congr 1
      omega
  · rw [if_neg h, if_neg (by rw [nI_lts (by omega) (by omega)]; omega)]
def Sh.setHe (A : Sh) (h : FN) : Sh := Sh.mk A.se A.ns A.st A.le h A.fa A.ge A.nf A.sp A.bo A.fi
def warmA (A : Sh) (p b : Nat) : Sh := A.setHe (fun q => if q = p then minH (A.he p) b else A.he q)
theorem WF.he {A : Sh} {h : FN} (hW : WF A) (hh : ∀ p, p < A.wn → h p ≤ 999) : WF (A.setHe h) := ⟨hW.1, hW.2.1, fun p hp => ⟨(hW.2.2 p hp).1, hh p hp⟩⟩
theorem WF.warm {A : Sh} (hW : WF A) (p b : Nat) : WF (warmA A p b) := hW.he (fun q hq => by
  show (if q = p then minH (A.he p) b else A.he q) ≤ 999
  by_cases h : q = p
  · rw [if_pos h]; exact (minH_le _ _).1
  · rw [if_neg h]; exact (hW.2.2 q hq).2)
section OPV
variable {Fu : Nat} {A : Sh} {se le he sa fa ge : Ar} {ns nf sp bo fi : Int32}
theorem RV.setHe (h : RV A se le he sa fa ge ns nf sp bo fi) {he' : Ar} {g : FN} (hh : ∀ p, p < A.wn → he' p = nI (g p)) : RV (A.setHe g) se le he' sa fa ge ns nf sp bo fi := ⟨h.1, h.2.1, hh, h.2.2.2⟩
theorem warm_s (hW : WF A) (h : RV A se le he sa fa ge ns nf sp bo fi) {p b : Nat} (hp : p < A.wn) (hb : b ≤ 1000) : ∃ he', f_X2_warm Fu he (nI p) (nI b) = some he' ∧ RV (warmA A p b) se le he' sa fa ge ns nf sp bo fi := by
  have hw := hW.w
  have e1 := h.rhe hp
  have b1 := (hW.2.2 p hp).2
  have e2 := jmin_s (show A.he p ≤ 100000 by omega) (show b ≤ 100000 by omega)
  refine ⟨upd he p (nI (minH (A.he p) b)), ?_, h.setHe (fun q hq => ?_)⟩
  · rw [← e2]
    unfold f_X2_warm
    simp (disch := omega) only [gd_true, nm_eq, jn_eq, bd1_s, bd2_s, bd3_s, bd4_s, bd5_s, bd6_s, bd7_s, bd8_s, bd9_s, bd10_s, bd11_s, bd12_s, nI_add, pk_mul, pk_subs, nI_m1s, ix_nIs, nI_clamps, nI_les, nI_lts, nI_eqs, bz_0, bz_1, nI_zero, eq_self, if_true, if_false, e1]
  · unfold upd
    by_cases hqp : q = p
    · rw [if_pos hqp, if_pos hqp]
    · rw [if_neg hqp, if_neg hqp]; exact h.rhe hq
end OPV
theorem RS.setHe {A : Sh} {s s' : Ar} (h : RS A s) (hW : WF A) {g : FN} (h1 : ∀ j, j < 195 → s' j = s j) (h2 : ∀ p, p < A.wn → s' (195 + p) = nI (g p)) : RS (A.setHe g) s' := by
  have hn := hW.n
  have hw := hW.w
  exact ⟨fun i hi => by rw [h1 i (by omega)]; exact h.rse hi, by rw [h1 3 (by omega)]; exact h.rns, by rw [h1 4 (by omega)]; exact h.rwn, by rw [h1 5 (by omega)]; exact h.rnf, by rw [h1 6 (by omega)]; exact h.rsp, by rw [h1 7 (by omega)]; exact h.rbo, by rw [h1 8 (by omega)]; exact h.rfi,
    fun k (hk : k < A.ns) => by rw [h1 (9 + k) (by omega)]; exact h.rlo hk, fun k (hk : k < A.ns) => by rw [h1 (21 + k) (by omega)]; exact h.rfa hk, fun k (hk : k < A.ns) => by rw [h1 (33 + k) (by omega)]; exact h.rge hk, fun p (hp : p < A.wn) => by rw [h1 (45 + p) (by omega)]; exact h.rle hp, h2⟩
theorem warm4_s {Fu : Nat} {A : Sh} {s : Ar} (hW : WF A) (h : RS A s) {p b : Nat} (hp : p < A.wn) (hb : b ≤ 1000) : ∃ s', f_X4_warm Fu s (nI p) (nI b) = some s' ∧ RS (warmA A p b) s' := by
  have hw := hW.w
  have e1 := h.rhe hp
  have b1 := (hW.2.2 p hp).2
  refine ⟨upd s (195 + p) (nI (minH (A.he p) b)), ?_, h.setHe hW (fun j hj => ?_) (fun q hq => ?_)⟩
  · unfold f_X4_warm minH
    by_cases hc : A.he p + b ≤ 999
    · rw [if_pos hc]
      simp (disch := omega) only [gd_true, nm_eq, jn_eq, bd1_s, bd2_s, bd3_s, bd4_s, bd5_s, bd6_s, bd7_s, bd8_s, bd9_s, bd10_s, bd11_s, bd12_s, nI_add, pk_mul, pk_subs, nI_m1s, ix_nIs, nI_clamps, nI_les, nI_lts, nI_eqs, bz_0, bz_1, nI_zero, eq_self, if_true, if_false, e1, if_pos hc]
    · rw [if_neg hc]
      simp (disch := omega) only [gd_true, nm_eq, jn_eq, bd1_s, bd2_s, bd3_s, bd4_s, bd5_s, bd6_s, bd7_s, bd8_s, bd9_s, bd10_s, bd11_s, bd12_s, nI_add, pk_mul, pk_subs, nI_m1s, ix_nIs, nI_clamps, nI_les, nI_lts, nI_eqs, bz_0, bz_1, nI_zero, eq_self, if_true, if_false, e1, if_neg hc]
  · unfold upd
    rw [if_neg (by omega)]
  · unfold upd
    by_cases hqp : q = p
    · rw [if_pos (by omega), if_pos hqp]
    · rw [if_neg (by omega), if_neg hqp]; exact h.rhe hq
/-- the story of a word -/
def stO (st : FN) (p : Nat) : Nat → Nat
  | 0 => 0
  | k + 1 => if st (k + 1) ≤ p then k + 1 else stO st p k
theorem stO_s {ns : Nat} {st : FN} (hW : SW ns st) {p K : Nat} (hK : K < ns) (h1 : st K ≤ p) (h2 : p < st (K + 1)) : stO st p (ns - 1) = K := by
  have key : ∀ j, K ≤ j → j < ns → stO st p j = K := by
    intro j
    induction j with
    | zero => intro a b; show 0 = K; omega
    | succ j ih =>
      intro a b
      show (if st (j + 1) ≤ p then j + 1 else stO st p j) = K
      by_cases hj : K = j + 1
      · subst hj; rw [if_pos h1]
      · have := hW.le (show K + 1 ≤ j + 1 by omega) (by omega)
        rw [if_neg (by omega)]
        exact ih (by omega) (by omega)
  exact key (ns - 1) (by omega) (by omega)
def Sh.so (A : Sh) (p : Nat) : Nat := stO A.st p (A.ns - 1)
theorem WF.so {A : Sh} (hW : WF A) {p : Nat} (hp : p < A.wn) : A.so p < A.ns ∧ A.st (A.so p) ≤ p ∧ p < A.st (A.so p + 1) := by
  obtain ⟨K, hK, h1, h2⟩ := hW.1.find (show p < A.st A.ns from hp)
  have : A.so p = K := stO_s hW.1 hK h1 h2
  rw [this]
  exact ⟨hK, h1, h2⟩
/-- the story K splits at the word p -/
def splitA (A : Sh) (K p : Nat) : Sh := Sh.mk A.se (A.ns + 1) (fun k => if k ≤ K then A.st k else if k = K + 1 then p else A.st (k - 1)) A.le A.he (fun k => if k ≤ K then A.fa k else A.fa (k - 1)) (fun k => if k ≤ K then A.ge k else if k = K + 1 then A.ge K + nI 1 else A.ge (k - 1)) A.nf A.sp A.bo A.fi
theorem split_st {A : Sh} {K p k : Nat} : (splitA A K p).st k = if k ≤ K then A.st k else if k = K + 1 then p else A.st (k - 1) := rfl
theorem split_wn {A : Sh} {K p : Nat} (hK : K < A.ns) : (splitA A K p).wn = A.wn := by
  show (splitA A K p).st (A.ns + 1) = A.st A.ns
  rw [split_st, if_neg (by omega), if_neg (by omega), show A.ns + 1 - 1 = A.ns by omega]
theorem WF.split {A : Sh} (hW : WF A) {K p : Nat} (hK : K < A.ns) (h1 : A.st K < p) (h2 : p < A.st (K + 1)) (hn : A.ns < 12) : WF (splitA A K p) := by
  refine ⟨⟨by show A.ns + 1 ≤ 12; omega, ?_, fun k (hk : k < A.ns + 1) => ?_, ?_⟩, hW.2.1, fun q hq => ?_⟩
  · rw [split_st, if_pos (Nat.zero_le _)]; exact hW.1.2.1
  · rw [split_st, split_st]
    rcases Nat.lt_trichotomy k K with q | q | q
    · rw [if_pos (by omega), if_pos (by omega)]; exact hW.1.2.2.1 k (by omega)
    · subst q; rw [if_pos (Nat.le_refl _), if_neg (by omega), if_pos rfl]; exact h1
    · by_cases q2 : k = K + 1
      · subst q2; rw [if_neg (by omega), if_pos rfl, if_neg (by omega), if_neg (by omega)]; exact h2
      · rw [if_neg (by omega), if_neg q2, if_neg (by omega), if_neg (by omega), show k + 1 - 1 = (k - 1) + 1 by omega]; exact hW.1.2.2.1 (k - 1) (by omega)
  · have : (splitA A K p).wn ≤ 150 := by rw [split_wn hK]; exact hW.w
    exact this
  · rw [split_wn hK] at hq
    exact hW.2.2 q hq
theorem le_dec (a b : Nat) : (le a b) = decide (a ≤ b) := rfl
section SPL
variable {Fu : Nat} {A : Sh} {se le he sa fa ge : Ar} {ns nf sp bo fi : Int32} {s : Ar}
theorem cpok_s {n0 n1 a b c : Nat} (h1 : a + c ≤ n0) (h2 : b + c ≤ n1) (h3 : n0 < 1000000) (h4 : n1 < 1000000) : cpok n0 n1 (nI a) (nI b) (nI c) = true := by
  have x1 : ¬ nI a < 0 := nI_pos (by omega)
  have x2 : ¬ nI b < 0 := nI_pos (by omega)
  have x3 : ¬ nI c < 0 := nI_pos (by omega)
  simp only [cpok, nn, le_dec, nI_clamp (show a < 2 ^ 31 by omega), nI_clamp (show b < 2 ^ 31 by omega), nI_clamp (show c < 2 ^ 31 by omega), x1, x2, x3, h1, h2, decide_true, decide_false, Bool.not_false, Bool.and_self]
theorem cpA_pt {f g : Ar} {a b c k : Nat} (ha : a < 1000000) (hb : b < 1000000) (hc : c < 1000000) : cpA f g (nI a) (nI b) (nI c) k = if b ≤ k ∧ k < b + c then f (a + (k - b)) else g k := by
  show va_cpy f g (nI a).toNatClampNeg (nI b).toNatClampNeg (nI c).toNatClampNeg k = _
  rw [nI_clamp (by omega), nI_clamp (by omega), nI_clamp (by omega)]
  rfl
theorem split_s (hW : WF A) (h : RV A se le he sa fa ge ns nf sp bo fi) {K p : Nat} (hK : K < A.ns) (hp : p < A.wn) (hn : A.ns < 12) : ∃ sa' fa' ge', f_X2_split Fu sa fa ge ns (nI K) (nI p) = some (sa', fa', ge', nI (A.ns + 1)) ∧ RV (splitA A K p) se le he sa' fa' ge' (nI (A.ns + 1)) nf sp bo fi := by
  have hw := hW.w
  have hnn := hW.n
  have c1 := cpok_s (n0 := 13) (n1 := 13) (a := K + 1) (b := K + 2) (c := A.ns - K) (by omega) (by omega) (by omega) (by omega)
  have c2 := cpok_s (n0 := 12) (n1 := 12) (a := K) (b := K + 1) (c := A.ns - K) (by omega) (by omega) (by omega) (by omega)
  refine ⟨upd (cpA sa sa (nI (K + 1)) (nI (K + 2)) (nI (A.ns - K))) (K + 1) (nI p), cpA fa fa (nI K) (nI (K + 1)) (nI (A.ns - K)), upd (cpA ge ge (nI K) (nI (K + 1)) (nI (A.ns - K))) (K + 1) ((cpA ge ge (nI K) (nI (K + 1)) (nI (A.ns - K))) (K + 1) + nI 1), ?_, ?_⟩
  · rw [h.rns]
    unfold f_X2_split
    simp (disch := omega) only [gd_true, nm_eq, jn_eq, bd1_s, bd2_s, bd3_s, bd4_s, bd5_s, bd6_s, bd7_s, bd8_s, bd9_s, bd10_s, bd11_s, bd12_s, nI_add, pk_mul, pk_subs, nI_m1s, ix_nIs, nI_clamps, nI_les, nI_lts, nI_eqs, bz_0, bz_1, nI_zero, eq_self, if_true, if_false, c1, c2]
  · refine ⟨h.1, ?_, ?_, fun k (hk : k ≤ A.ns + 1) => ?_, fun k (hk : k < A.ns + 1) => ?_, fun k (hk : k < A.ns + 1) => ?_, rfl, h.rnf, h.rsp, h.rbo, h.rfi⟩
    · intro q hq; rw [split_wn hK] at hq; exact h.rle hq
    · intro q hq; rw [split_wn hK] at hq; exact h.rhe hq
    · rw [split_st]
      unfold upd
      by_cases k1 : k = K + 1
      · rw [if_pos k1, if_neg (by omega), if_pos k1]
      · rw [if_neg k1, cpA_pt (by omega) (by omega) (by omega)]
        by_cases k2 : k ≤ K
        · rw [if_pos k2, if_neg (by omega)]; exact h.rsa (by omega)
        · rw [if_neg k2, if_neg k1, if_pos (by omega), show K + 1 + (k - (K + 2)) = k - 1 by omega]; exact h.rsa (by omega)
    · rw [cpA_pt (by omega) (by omega) (by omega)]
      show _ = if k ≤ K then A.fa k else A.fa (k - 1)
      by_cases k2 : k ≤ K
      · rw [if_pos k2, if_neg (by omega)]; exact h.rfa (by omega)
      · rw [if_neg k2, if_pos (by omega), show K + (k - (K + 1)) = k - 1 by omega]; exact h.rfa (by omega)
    · show _ = if k ≤ K then A.ge k else if k = K + 1 then A.ge K + nI 1 else A.ge (k - 1)
      unfold upd
      by_cases k1 : k = K + 1
      · rw [if_pos k1, if_neg (by omega), if_pos k1, cpA_pt (by omega) (by omega) (by omega), if_pos (by omega), show K + (K + 1 - (K + 1)) = K by omega, h.rge hK]
      · rw [if_neg k1, cpA_pt (by omega) (by omega) (by omega)]
        by_cases k2 : k ≤ K
        · rw [if_pos k2, if_neg (by omega)]; exact h.rge (by omega)
        · rw [if_neg k2, if_neg k1, if_pos (by omega), show K + (k - (K + 1)) = k - 1 by omega]; exact h.rge (by omega)
end SPL
end
section
/-! PURE: the reference's split -/
def shfF (s : Ar) (n i : Nat) : Ar := fun j => if (9 + i < j ∧ j ≤ 9 + n) ∨ (21 + i < j ∧ j ≤ 21 + n) ∨ (33 + i < j ∧ j ≤ 33 + n) then s (j - 1) else s j
theorem split4_step (s : Ar) {n i : Nat} (hn : n < 12) (hi : i ≤ n) (h0 : 0 < i) : upd (upd (upd (shfF s n i) (9 + i) (shfF s n i (9 + i - 1))) (21 + i) ((upd (shfF s n i) (9 + i) (shfF s n i (9 + i - 1))) (21 + i - 1))) (33 + i) ((upd (upd (shfF s n i) (9 + i) (shfF s n i (9 + i - 1))) (21 + i) ((upd (shfF s n i) (9 + i) (shfF s n i (9 + i - 1))) (21 + i - 1))) (33 + i - 1)) = shfF s n (i - 1) := by
  have e1 : shfF s n i (9 + i - 1) = s (9 + i - 1) := by unfold shfF; rw [if_neg (by omega)]
  have e2 : (upd (shfF s n i) (9 + i) (shfF s n i (9 + i - 1))) (21 + i - 1) = s (21 + i - 1) := by
    unfold upd
    rw [if_neg (by omega)]
    unfold shfF
    rw [if_neg (by omega)]
  have e3 : (upd (upd (shfF s n i) (9 + i) (shfF s n i (9 + i - 1))) (21 + i) ((upd (shfF s n i) (9 + i) (shfF s n i (9 + i - 1))) (21 + i - 1))) (33 + i - 1) = s (33 + i - 1) := by
    unfold upd
    rw [if_neg (by omega), if_neg (by omega)]
    unfold shfF
    rw [if_neg (by omega)]
  rw [e3, e2, e1]
  funext j
  unfold upd
  by_cases j3 : j = 33 + i
  · subst j3
    rw [if_pos rfl]
    unfold shfF
    rw [if_pos (by omega)]
  · rw [if_neg j3]
    by_cases j2 : j = 21 + i
    · subst j2
      rw [if_pos rfl]
      unfold shfF
      rw [if_pos (by omega)]
    · rw [if_neg j2]
      by_cases j1 : j = 9 + i
      · subst j1
        rw [if_pos rfl]
        unfold shfF
        rw [if_pos (by omega)]
      · rw [if_neg j1]
        unfold shfF
        by_cases hc : (9 + i < j ∧ j ≤ 9 + n) ∨ (21 + i < j ∧ j ≤ 21 + n) ∨ (33 + i < j ∧ j ≤ 33 + n)
        · rw [if_pos hc, if_pos (by omega)]
        · rw [if_neg hc, if_neg (by omega)]
theorem split4_L (Fu : Nat) (k : Ar → Option Ar) (s : Ar) {n K : Nat} (hn : n < 12) (hK : K < n) : ∀ (fu i : Nat), K + 1 ≤ i → i ≤ n → i - (K + 1) < fu → f_X4_split_L7 Fu k (nI K) fu (nI i) (shfF s n i) = k (shfF s n (K + 1)) := by
  intro fu
  induction fu with
  | zero => intro i h1 h2 h3; omega
  | succ fu ih =>
    intro i h1 h2 h3
    rw [f_X4_split_L7_s]
    by_cases hh : i ≤ K + 1
    · have e : i = K + 1 := by omega
      subst e
      simp (disch := omega) only [gd_true, nm_eq, jn_eq, bd1_s, bd2_s, bd3_s, bd4_s, bd5_s, bd6_s, bd7_s, bd8_s, bd9_s, bd10_s, bd11_s, bd12_s, nI_add, pk_mul, pk_subs, nI_m1s, ix_nIs, nI_clamps, nI_les, nI_lts, nI_eqs, bz_0, bz_1, nI_zero, eq_self, if_true, if_false, if_pos, if_neg]
    · rw [← ih (i - 1) (by omega) (by omega) (by omega), ← split4_step s hn h2 (by omega)]
      simp (disch := omega) only [gd_true, nm_eq, jn_eq, bd1_s, bd2_s, bd3_s, bd4_s, bd5_s, bd6_s, bd7_s, bd8_s, bd9_s, bd10_s, bd11_s, bd12_s, nI_add, pk_mul, pk_subs, nI_m1s, ix_nIs, nI_clamps, nI_les, nI_lts, nI_eqs, bz_0, bz_1, nI_zero, eq_self, if_true, if_false, if_neg hh]
theorem split4_s {Fu : Nat} (hF : 20000000 ≤ Fu) {A : Sh} {s : Ar} (hW : WF A) (h : RS A s) {K p : Nat} (hK : K < A.ns) (h1 : A.st K < p) (h2 : p < A.st (K + 1)) (hn : A.ns < 12) : ∃ s', f_X4_split Fu s (nI K) (nI (p - A.st K)) = some s' ∧ RS (splitA A K p) s' := by
  have hm2 := hW.1.le (show K + 1 ≤ A.ns by omega) (Nat.le_refl _)
  have hw := hW.w
  have hw' : A.st A.ns ≤ 150 := hW.w
  have e0 : shfF s A.ns A.ns = s := by
    funext j
    unfold shfF
    rw [if_neg (by omega)]
  have el : ∀ (k : Ar → Option Ar), f_X4_split_L7 Fu k (nI K) Fu (s 3) s = k (shfF s A.ns (K + 1)) := fun k => by
    have := split4_L Fu k s hn hK Fu A.ns (by omega) (Nat.le_refl _) (by omega)
    rw [e0] at this
    rw [h.rns]
    exact this
  have g1 : shfF s A.ns (K + 1) (9 + K) = nI (A.st (K + 1) - A.st K) := by unfold shfF; rw [if_neg (by omega)]; exact h.rlo hK
  have g2 : shfF s A.ns (K + 1) (21 + K) = A.fa K := by unfold shfF; rw [if_neg (by omega)]; exact h.rfa hK
  have g3 : shfF s A.ns (K + 1) (33 + K) = A.ge K := by unfold shfF; rw [if_neg (by omega)]; exact h.rge hK
  have g4 : shfF s A.ns (K + 1) 3 = nI A.ns := by unfold shfF; rw [if_neg (by omega)]; exact h.rns
  generalize hS : shfF s A.ns (K + 1) = S at el g1 g2 g3 g4
  have u1 : ∀ (f : Ar) (a b : Nat) (x : Int32), a ≠ b → upd f a x b = f b := fun f a b x hab => by unfold upd; rw [if_neg (Ne.symm hab)]
  have u2 : ∀ (f : Ar) (a : Nat) (x : Int32), upd f a x a = x := fun f a x => by unfold upd; rw [if_pos rfl]
  refine ⟨upd (upd (upd (upd (upd S (9 + K + 1) (nI (A.st (K + 1) - A.st K - (p - A.st K)))) (9 + K) (nI (p - A.st K))) (21 + K + 1) (A.fa K)) (33 + K + 1) (A.ge K + nI 1)) 3 (nI (A.ns + 1)), ?_, ?_⟩
  · unfold f_X4_split
    rw [jn_eq, el]
    rw [nI_add, nI_add, ix_nIs (by omega) (by omega), gd_true, ix_nIs (by omega) (by omega), gd_true, nm_eq, nI_clamps (by omega), nI_clamps (by omega), g1, pk_subs (by omega), gd_true]
    rw [nI_add, nI_add, ix_nIs (by omega) (by omega), gd_true, ix_nIs (by omega) (by omega), gd_true, nm_eq, nI_clamps (by omega), nI_clamps (by omega)]
    rw [u1 _ _ _ _ (show 9 + K ≠ 21 + K by omega), u1 _ _ _ _ (show 9 + K + 1 ≠ 21 + K by omega), g2]
    rw [nI_add, nI_add, ix_nIs (by omega) (by omega), gd_true, ix_nIs (by omega) (by omega), gd_true, nm_eq, nI_clamps (by omega), nI_clamps (by omega)]
    rw [u1 _ _ _ _ (show 21 + K + 1 ≠ 33 + K by omega), u1 _ _ _ _ (show 9 + K ≠ 33 + K by omega), u1 _ _ _ _ (show 9 + K + 1 ≠ 33 + K by omega), g3]
    rw [u1 _ _ _ _ (show 33 + K + 1 ≠ 3 by omega), u1 _ _ _ _ (show 21 + K + 1 ≠ 3 by omega), u1 _ _ _ _ (show 9 + K ≠ 3 by omega), u1 _ _ _ _ (show 9 + K + 1 ≠ 3 by omega), g4, nI_add]
  · have key : ∀ j, j ≠ 3 → j ≠ 33 + K + 1 → j ≠ 21 + K + 1 → j ≠ 9 + K → j ≠ 9 + K + 1 → upd (upd (upd (upd (upd S (9 + K + 1) (nI (A.st (K + 1) - A.st K - (p - A.st K)))) (9 + K) (nI (p - A.st K))) (21 + K + 1) (A.fa K)) (33 + K + 1) (A.ge K + nI 1)) 3 (nI (A.ns + 1)) j = shfF s A.ns (K + 1) j := fun j a b c d e => by
      rw [u1 _ _ _ _ (Ne.symm a), u1 _ _ _ _ (Ne.symm b), u1 _ _ _ _ (Ne.symm c), u1 _ _ _ _ (Ne.symm d), u1 _ _ _ _ (Ne.symm e), hS]
    refine ⟨fun i hi => ?_, ?_, ?_, ?_, ?_, ?_, ?_, fun k (hk : k < A.ns + 1) => ?_, fun k (hk : k < A.ns + 1) => ?_, fun k (hk : k < A.ns + 1) => ?_, fun q hq => ?_, fun q hq => ?_⟩
    · rw [key i (by omega) (by omega) (by omega) (by omega) (by omega)]; unfold shfF; rw [if_neg (by omega)]; exact h.rse hi
    · rw [u2]; rfl
    · rw [split_wn hK, key 4 (by omega) (by omega) (by omega) (by omega) (by omega)]; unfold shfF; rw [if_neg (by omega)]; exact h.rwn
    · rw [key 5 (by omega) (by omega) (by omega) (by omega) (by omega)]; unfold shfF; rw [if_neg (by omega)]; exact h.rnf
    · rw [key 6 (by omega) (by omega) (by omega) (by omega) (by omega)]; unfold shfF; rw [if_neg (by omega)]; exact h.rsp
    · rw [key 7 (by omega) (by omega) (by omega) (by omega) (by omega)]; unfold shfF; rw [if_neg (by omega)]; exact h.rbo
    · rw [key 8 (by omega) (by omega) (by omega) (by omega) (by omega)]; unfold shfF; rw [if_neg (by omega)]; exact h.rfi
    · rw [split_st, split_st]
      by_cases k1 : k = K
      · subst k1
        rw [u1 _ _ _ _ (show 3 ≠ 9 + k by omega), u1 _ _ _ _ (show 33 + k + 1 ≠ 9 + k by omega), u1 _ _ _ _ (show 21 + k + 1 ≠ 9 + k by omega), u2, if_neg (by omega), if_pos rfl, if_pos (Nat.le_refl _)]
      · by_cases k2 : k = K + 1
        · subst k2
          rw [u1 _ _ _ _ (show 3 ≠ 9 + (K + 1) by omega), u1 _ _ _ _ (show 33 + K + 1 ≠ 9 + (K + 1) by omega), u1 _ _ _ _ (show 21 + K + 1 ≠ 9 + (K + 1) by omega), u1 _ _ _ _ (show 9 + K ≠ 9 + (K + 1) by omega), show 9 + (K + 1) = 9 + K + 1 by omega, u2, if_neg (by omega), if_neg (by omega), if_neg (by omega), if_pos rfl, show K + 1 + 1 - 1 = K + 1 by omega]
          congr 1
          omega
        · rw [key (9 + k) (by omega) (by omega) (by omega) (by omega) (by omega)]
          unfold shfF
          by_cases k3 : k < K
          · rw [if_neg (by omega), if_pos (by omega), if_pos (by omega)]; exact h.rlo (by omega)
          · rw [if_pos (by omega), if_neg (by omega), if_neg (by omega), if_neg (by omega), if_neg k2, show 9 + k - 1 = 9 + (k - 1) by omega, show k + 1 - 1 = (k - 1) + 1 by omega]; exact h.rlo (by omega)
    · show _ = if k ≤ K then A.fa k else A.fa (k - 1)
      by_cases k1 : k = K + 1
      · subst k1
        rw [u1 _ _ _ _ (show 3 ≠ 21 + (K + 1) by omega), u1 _ _ _ _ (show 33 + K + 1 ≠ 21 + (K + 1) by omega), show 21 + (K + 1) = 21 + K + 1 by omega, u2, if_neg (by omega), Nat.add_sub_cancel]
      · by_cases k4 : 21 + k = 33 + K + 1
        · omega
        · rw [key (21 + k) (by omega) (by omega) (by omega) (by omega) (by omega)]
          unfold shfF
          by_cases k3 : k ≤ K
          · rw [if_neg (by omega), if_pos k3]; exact h.rfa (by omega)
          · rw [if_pos (by omega), if_neg k3, show 21 + k - 1 = 21 + (k - 1) by omega]; exact h.rfa (by omega)
    · show _ = if k ≤ K then A.ge k else if k = K + 1 then A.ge K + nI 1 else A.ge (k - 1)
      by_cases k1 : k = K + 1
      · subst k1
        rw [u1 _ _ _ _ (show 3 ≠ 33 + (K + 1) by omega), show 33 + (K + 1) = 33 + K + 1 by omega, u2, if_neg (by omega), if_pos rfl]
      · rw [key (33 + k) (by omega) (by omega) (by omega) (by omega) (by omega)]
        unfold shfF
        by_cases k3 : k ≤ K
        · rw [if_neg (by omega), if_pos k3]; exact h.rge (by omega)
        · rw [if_pos (by omega), if_neg k3, if_neg k1, show 33 + k - 1 = 33 + (k - 1) by omega]; exact h.rge (by omega)
    · rw [split_wn hK] at hq
      rw [key (45 + q) (by omega) (by omega) (by omega) (by omega) (by omega)]; unfold shfF; rw [if_neg (by omega)]; exact h.rle hq
    · rw [split_wn hK] at hq
      rw [key (195 + q) (by omega) (by omega) (by omega) (by omega) (by omega)]; unfold shfF; rw [if_neg (by omega)]; exact h.rhe hq
end
section
/-! PURE: one reaction, both sides -/
def Sh.setCt (A : Sh) (sp : Nat) (bo fi : Int32) : Sh := Sh.mk A.se A.ns A.st A.le A.he A.fa A.ge A.nf sp bo fi
def zeroA (A : Sh) (p : Nat) : Sh := A.setHe (fun q => if q = p then 0 else A.he q)
def brA (A : Sh) (K p : Nat) : Sh := if p = A.st K then A.setCt A.sp (A.bo + nI 1) A.fi else if A.ns < 12 then (splitA A K p).setCt (A.sp + 1) A.bo A.fi else A.setCt A.sp A.bo (A.fi + nI 1)
def reactA (A : Sh) (p : Nat) : Sh :=
  let K := A.so p
  let B := brA (zeroA A p) K p
  let C := if A.st K < p then warmA B (p - 1) (A.se 1) else B
  if p + 1 < A.st (K + 1) then warmA C (p + 1) (A.se 1) else C
theorem WF.zero {A : Sh} (hW : WF A) (p : Nat) : WF (zeroA A p) := hW.he (fun q hq => by
  show (if q = p then 0 else A.he q) ≤ 999
  by_cases h : q = p
  · rw [if_pos h]; omega
  · rw [if_neg h]; exact (hW.2.2 q hq).2)
theorem WF.setCt {A : Sh} (hW : WF A) (sp : Nat) (bo fi : Int32) : WF (A.setCt sp bo fi) := hW
theorem br_wn {A : Sh} {K p : Nat} (hK : K < A.ns) : (brA A K p).wn = A.wn := by
  unfold brA
  by_cases c1 : p = A.st K
  · rw [if_pos c1]; rfl
  · rw [if_neg c1]
    by_cases c2 : A.ns < 12
    · rw [if_pos c2]; exact split_wn hK
    · rw [if_neg c2]; rfl
theorem br_se {A : Sh} {K p : Nat} : (brA A K p).se = A.se := by
  unfold brA
  by_cases c1 : p = A.st K
  · rw [if_pos c1]; rfl
  · rw [if_neg c1]
    by_cases c2 : A.ns < 12
    · rw [if_pos c2]; rfl
    · rw [if_neg c2]; rfl
theorem br_he {A : Sh} {K p : Nat} : (brA A K p).he = A.he := by
  unfold brA
  by_cases c1 : p = A.st K
  · rw [if_pos c1]; rfl
  · rw [if_neg c1]
    by_cases c2 : A.ns < 12
    · rw [if_pos c2]; rfl
    · rw [if_neg c2]; rfl
theorem WF.br {A : Sh} (hW : WF A) {K p : Nat} (hK : K < A.ns) (h1 : A.st K ≤ p) (h2 : p < A.st (K + 1)) : WF (brA A K p) := by
  unfold brA
  by_cases c1 : p = A.st K
  · rw [if_pos c1]; exact hW
  · rw [if_neg c1]
    by_cases c2 : A.ns < 12
    · rw [if_pos c2]; exact hW.split hK (by omega) h2 c2
    · rw [if_neg c2]; exact hW
theorem WF.react {A : Sh} (hW : WF A) {p : Nat} (hp : p < A.wn) : WF (reactA A p) := by
  obtain ⟨h1, h2, h3⟩ := hW.so hp
  have hB : WF (brA (zeroA A p) (A.so p) p) := (hW.zero p).br h1 h2 h3
  unfold reactA
  show WF (if p + 1 < A.st (A.so p + 1) then warmA (if A.st (A.so p) < p then warmA (brA (zeroA A p) (A.so p) p) (p - 1) (A.se 1) else brA (zeroA A p) (A.so p) p) (p + 1) (A.se 1) else (if A.st (A.so p) < p then warmA (brA (zeroA A p) (A.so p) p) (p - 1) (A.se 1) else brA (zeroA A p) (A.so p) p))
  have hC : WF (if A.st (A.so p) < p then warmA (brA (zeroA A p) (A.so p) p) (p - 1) (A.se 1) else brA (zeroA A p) (A.so p) p) := by
    by_cases c : A.st (A.so p) < p
    · rw [if_pos c]; exact hB.warm _ _
    · rw [if_neg c]; exact hB
  by_cases c : p + 1 < A.st (A.so p + 1)
  · rw [if_pos c]; exact hC.warm _ _
  · rw [if_neg c]; exact hC
theorem react_wn {A : Sh} (hW : WF A) {p : Nat} (hp : p < A.wn) : (reactA A p).wn = A.wn := by
  obtain ⟨h1, h2, h3⟩ := hW.so hp
  have hB : (brA (zeroA A p) (A.so p) p).wn = A.wn := br_wn h1
  unfold reactA
  show (if p + 1 < A.st (A.so p + 1) then warmA (if A.st (A.so p) < p then warmA (brA (zeroA A p) (A.so p) p) (p - 1) (A.se 1) else brA (zeroA A p) (A.so p) p) (p + 1) (A.se 1) else (if A.st (A.so p) < p then warmA (brA (zeroA A p) (A.so p) p) (p - 1) (A.se 1) else brA (zeroA A p) (A.so p) p)).wn = A.wn
  have hC : (if A.st (A.so p) < p then warmA (brA (zeroA A p) (A.so p) p) (p - 1) (A.se 1) else brA (zeroA A p) (A.so p) p).wn = A.wn := by
    by_cases c : A.st (A.so p) < p
    · rw [if_pos c]; exact hB
    · rw [if_neg c]; exact hB
  by_cases c : p + 1 < A.st (A.so p + 1)
  · rw [if_pos c]; exact hC
  · rw [if_neg c]; exact hC
section RCV
variable {Fu : Nat} {A : Sh} {se le he sa fa ge : Ar} {ns nf sp bo fi : Int32} {s : Ar}
theorem RV.setCt (h : RV A se le he sa fa ge ns nf sp bo fi) (sp' : Nat) (bo' fi' : Int32) : RV (A.setCt sp' bo' fi') se le he sa fa ge ns nf (nI sp') bo' fi' := ⟨h.1, h.2.1, h.2.2.1, h.2.2.2.1, h.2.2.2.2.1, h.2.2.2.2.2.1, h.2.2.2.2.2.2.1, h.2.2.2.2.2.2.2.1, rfl, rfl, rfl⟩
theorem reactAt_s (hF : 20000000 ≤ Fu) (hW : WF A) (h : RV A se le he sa fa ge ns nf sp bo fi) {p : Nat} (hp : p < A.wn) : ∃ he' sa' fa' ge' ns' sp' bo' fi', f_X2_reactAt Fu se he sa fa ge ns sp bo fi (nI p) = some (he', sa', fa', ge', ns', sp', bo', fi') ∧ RV (reactA A p) se le he' sa' fa' ge' ns' nf sp' bo' fi' := by
  obtain ⟨hK, hk1, hk2⟩ := hW.so hp
  unfold reactA
  show ∃ he' sa' fa' ge' ns' sp' bo' fi', _ ∧ RV (if p + 1 < A.st (A.so p + 1) then warmA (if A.st (A.so p) < p then warmA (brA (zeroA A p) (A.so p) p) (p - 1) (A.se 1) else brA (zeroA A p) (A.so p) p) (p + 1) (A.se 1) else (if A.st (A.so p) < p then warmA (brA (zeroA A p) (A.so p) p) (p - 1) (A.se 1) else brA (zeroA A p) (A.so p) p)) se le he' sa' fa' ge' ns' nf sp' bo' fi'
  generalize A.so p = K at hK hk1 hk2
  have hw := hW.w
  have hw' : A.st A.ns ≤ 150 := hW.w
  have hn := hW.n
  have hm2 := hW.1.le (show K + 1 ≤ A.ns by omega) (Nat.le_refl _)
  have hs := hW.2.1.2.2.1
  have es : f_X2_storyAt Fu sa ns (nI p) = some (nI K) := by
    rw [h.rns]
    exact storyAt_s hF hW.1 (fun k hk => h.rsa hk) hK hk1 hk2
  have e1 := h.rsa (show K ≤ A.ns by omega)
  have e2 := h.rsa (show K + 1 ≤ A.ns by omega)
  have e3 := h.rse (show 1 < 3 by omega)
  have e4 := h.rns
  have hZ : RV (zeroA A p) se le (upd he p (nI 0)) sa fa ge ns nf sp bo fi := h.setHe (fun q hq => by
    unfold upd
    by_cases hqp : q = p
    · rw [if_pos hqp, if_pos hqp]
    · rw [if_neg hqp, if_neg hqp]; exact h.rhe hq)
  have hWZ := hW.zero p
  have hWB : WF (brA (zeroA A p) K p) := hWZ.br hK hk1 hk2
  have hwB : (brA (zeroA A p) K p).wn = A.wn := br_wn hK
  -- what follows the branch
  have tail : ∀ (sa' fa' ge' : Ar) (ns' sp' bo' fi' : Int32), RV (brA (zeroA A p) K p) se le (upd he p (nI 0)) sa' fa' ge' ns' nf sp' bo' fi' → ∃ he',
      (gd (ix (nI p) 150) (jn (fun (q_heats_25 : Ar) => jn (fun (q_heats_30 : Ar) => some (q_heats_30, sa', fa', ge', ns', sp', bo', fi')) (fun j31 => if nI (A.st (K + 1)) ≤ (nI p + nI 1) then j31 q_heats_25 else bd1 (f_X2_warm Fu q_heats_25 (nI p + nI 1) (se 1)) (fun q_heats_28 => j31 q_heats_28)))
        (fun j26 => if nI p ≤ nI (A.st K) then j26 (upd he (nI p).toNatClampNeg (nI 0)) else bd1 (f_X2_warm Fu (upd he (nI p).toNatClampNeg (nI 0)) (nI p - nI 1) (se 1)) (fun q_heats_23 => j26 q_heats_23)))) = some (he', sa', fa', ge', ns', sp', bo', fi') ∧
      RV (if p + 1 < A.st (K + 1) then warmA (if A.st K < p then warmA (brA (zeroA A p) K p) (p - 1) (A.se 1) else brA (zeroA A p) K p) (p + 1) (A.se 1) else (if A.st K < p then warmA (brA (zeroA A p) K p) (p - 1) (A.se 1) else brA (zeroA A p) K p)) se le he' sa' fa' ge' ns' nf sp' bo' fi' := by
    intro sa' fa' ge' ns' sp' bo' fi' hB
    have hpp : A.st K < p → p - 1 < (brA (zeroA A p) K p).wn := fun c => by rw [hwB]; omega
    have hpq : p + 1 < A.st (K + 1) → p + 1 < A.wn := fun c => by
      have : A.st A.ns = A.wn := rfl
      omega
    by_cases c1 : A.st K < p
    · obtain ⟨h1, w1, r1⟩ := warm_s (Fu := Fu) hWB hB (hpp c1) (show A.se 1 ≤ 1000 by omega)
      by_cases c2 : p + 1 < A.st (K + 1)
      · obtain ⟨h2, w2, r2⟩ := warm_s (Fu := Fu) (hWB.warm (p - 1) (A.se 1)) r1 (show p + 1 < (brA (zeroA A p) K p).wn by rw [hwB]; exact hpq c2) (show A.se 1 ≤ 1000 by omega)
        refine ⟨h2, ?_, ?_⟩
        · rw [← e3] at w1 w2
          have n1 : ¬ p ≤ A.st K := by omega
          have n2 : ¬ A.st (K + 1) ≤ p + 1 := by omega
          simp (disch := omega) only [gd_true, nm_eq, jn_eq, bd1_s, bd2_s, bd3_s, bd4_s, bd5_s, bd6_s, bd7_s, bd8_s, bd9_s, bd10_s, bd11_s, bd12_s, nI_add, pk_mul, pk_subs, nI_m1s, ix_nIs, nI_clamps, nI_les, nI_lts, nI_eqs, bz_0, bz_1, nI_zero, eq_self, if_true, if_false, w1, w2, if_neg n1, if_neg n2]
        · rw [if_pos c2, if_pos c1]; exact r2
      · refine ⟨h1, ?_, ?_⟩
        · rw [← e3] at w1
          have n1 : ¬ p ≤ A.st K := by omega
          have n2 : A.st (K + 1) ≤ p + 1 := by omega
          simp (disch := omega) only [gd_true, nm_eq, jn_eq, bd1_s, bd2_s, bd3_s, bd4_s, bd5_s, bd6_s, bd7_s, bd8_s, bd9_s, bd10_s, bd11_s, bd12_s, nI_add, pk_mul, pk_subs, nI_m1s, ix_nIs, nI_clamps, nI_les, nI_lts, nI_eqs, bz_0, bz_1, nI_zero, eq_self, if_true, if_false, w1, if_neg n1, if_pos n2]
        · rw [if_neg c2, if_pos c1]; exact r1
    · by_cases c2 : p + 1 < A.st (K + 1)
      · obtain ⟨h2, w2, r2⟩ := warm_s (Fu := Fu) hWB hB (show p + 1 < (brA (zeroA A p) K p).wn by rw [hwB]; exact hpq c2) (show A.se 1 ≤ 1000 by omega)
        refine ⟨h2, ?_, ?_⟩
        · rw [← e3] at w2
          have n1 : p ≤ A.st K := by omega
          have n2 : ¬ A.st (K + 1) ≤ p + 1 := by omega
          simp (disch := omega) only [gd_true, nm_eq, jn_eq, bd1_s, bd2_s, bd3_s, bd4_s, bd5_s, bd6_s, bd7_s, bd8_s, bd9_s, bd10_s, bd11_s, bd12_s, nI_add, pk_mul, pk_subs, nI_m1s, ix_nIs, nI_clamps, nI_les, nI_lts, nI_eqs, bz_0, bz_1, nI_zero, eq_self, if_true, if_false, w2, if_pos n1, if_neg n2]
        · rw [if_pos c2, if_neg c1]; exact r2
      · refine ⟨upd he p (nI 0), ?_, ?_⟩
        · have n1 : p ≤ A.st K := by omega
          have n2 : A.st (K + 1) ≤ p + 1 := by omega
          simp (disch := omega) only [gd_true, nm_eq, jn_eq, bd1_s, bd2_s, bd3_s, bd4_s, bd5_s, bd6_s, bd7_s, bd8_s, bd9_s, bd10_s, bd11_s, bd12_s, nI_add, pk_mul, pk_subs, nI_m1s, ix_nIs, nI_clamps, nI_les, nI_lts, nI_eqs, bz_0, bz_1, nI_zero, eq_self, if_true, if_false, if_pos n1, if_pos n2]
        · rw [if_neg c2, if_neg c1]; exact hB
  unfold f_X2_reactAt
  rw [es, bd1_s, ix_nIs (show K < 13 by omega) (by omega), gd_true, nI_add, ix_nIs (show K + 1 < 13 by omega) (by omega), gd_true, nI_clamps (show K + 1 < 2147483648 by omega), nI_clamps (show K < 2147483648 by omega), e1, e2, nm_eq, jn_eq]
  by_cases c1 : p = A.st K
  · have hB : RV (brA (zeroA A p) K p) se le (upd he p (nI 0)) sa fa ge ns nf sp (bo + nI 1) fi := by
      have := hZ.setCt A.sp (A.bo + nI 1) A.fi
      unfold brA
      rw [if_pos (show p = (zeroA A p).st K from c1), h.rsp, h.rbo, h.rfi]
      exact this
    obtain ⟨he', t1, t2⟩ := tail _ _ _ _ _ _ _ hB
    refine ⟨he', _, _, _, _, _, _, _, ?_, t2⟩
    rw [if_pos (by rw [c1])]
    exact t1
  · rw [if_neg (show ¬ nI p = nI (A.st K) by rw [nI_eqs (by omega) (by omega)]; exact c1)]
    by_cases c2 : A.ns < 12
    · obtain ⟨sa', fa', ge', q1, q2⟩ := split_s (Fu := Fu) hWZ hZ (K := K) (p := p) hK hp c2
      have hB : RV (brA (zeroA A p) K p) se le (upd he p (nI 0)) sa' fa' ge' (nI (A.ns + 1)) nf (sp + nI 1) bo fi := by
        have := q2.setCt (A.sp + 1) A.bo A.fi
        unfold brA
        rw [if_neg (show ¬ p = (zeroA A p).st K from c1), if_pos (show (zeroA A p).ns < 12 from c2), h.rsp, h.rbo, h.rfi, nI_add]
        exact this
      obtain ⟨he', t1, t2⟩ := tail _ _ _ _ _ _ _ hB
      refine ⟨he', _, _, _, _, _, _, _, ?_, t2⟩
      rw [if_neg (show ¬ nI 12 ≤ ns by rw [e4, nI_les (by omega) (by omega)]; omega), q1, bd4_s]
      exact t1
    · have hB : RV (brA (zeroA A p) K p) se le (upd he p (nI 0)) sa fa ge ns nf sp bo (fi + nI 1) := by
        have := hZ.setCt A.sp A.bo (A.fi + nI 1)
        unfold brA
        rw [if_neg (show ¬ p = (zeroA A p).st K from c1), if_neg (show ¬ (zeroA A p).ns < 12 from c2), h.rsp, h.rbo, h.rfi]
        exact this
      obtain ⟨he', t1, t2⟩ := tail _ _ _ _ _ _ _ hB
      refine ⟨he', _, _, _, _, _, _, _, ?_, t2⟩
      rw [if_pos (show nI 12 ≤ ns by rw [e4, nI_les (by omega) (by omega)]; omega)]
      exact t1
theorem RS.ct (h : RS A s) (hW : WF A) (sp' : Nat) (bo' fi' : Int32) {s' : Ar} (h0 : ∀ j, j ≠ 6 → j ≠ 7 → j ≠ 8 → s' j = s j) (h6 : s' 6 = nI sp') (h7 : s' 7 = bo') (h8 : s' 8 = fi') : RS (A.setCt sp' bo' fi') s' :=
  ⟨fun i hi => by rw [h0 i (by omega) (by omega) (by omega)]; exact h.rse hi, by rw [h0 3 (by omega) (by omega) (by omega)]; exact h.rns, by rw [h0 4 (by omega) (by omega) (by omega)]; exact h.rwn, by rw [h0 5 (by omega) (by omega) (by omega)]; exact h.rnf, h6, h7, h8,
    fun k (hk : k < A.ns) => by rw [h0 (9 + k) (by omega) (by omega) (by omega)]; exact h.rlo hk, fun k (hk : k < A.ns) => by rw [h0 (21 + k) (by omega) (by omega) (by omega)]; exact h.rfa hk, fun k (hk : k < A.ns) => by rw [h0 (33 + k) (by omega) (by omega) (by omega)]; exact h.rge hk, fun p (hp : p < A.wn) => by rw [h0 (45 + p) (by omega) (by omega) (by omega)]; exact h.rle hp, fun p (hp : p < A.wn) => by rw [h0 (195 + p) (by omega) (by omega) (by omega)]; exact h.rhe hp⟩
theorem upd_ne {f : Ar} {a b : Nat} {x : Int32} (h : b ≠ a) : upd f a x b = f b := by unfold upd; rw [if_neg h]
theorem upd_eq {f : Ar} {a : Nat} {x : Int32} : upd f a x a = x := by unfold upd; rw [if_pos rfl]
theorem reactOne_s (hF : 20000000 ≤ Fu) (hW : WF A) (h : RS A s) {p : Nat} (hp : p < A.wn) : ∃ s', f_X4_reactOne Fu s (nI p) = some s' ∧ RS (reactA A p) s' := by
  obtain ⟨hK, hk1, hk2⟩ := hW.so hp
  unfold reactA
  show ∃ s', _ ∧ RS (if p + 1 < A.st (A.so p + 1) then warmA (if A.st (A.so p) < p then warmA (brA (zeroA A p) (A.so p) p) (p - 1) (A.se 1) else brA (zeroA A p) (A.so p) p) (p + 1) (A.se 1) else (if A.st (A.so p) < p then warmA (brA (zeroA A p) (A.so p) p) (p - 1) (A.se 1) else brA (zeroA A p) (A.so p) p)) s'
  generalize A.so p = K at hK hk1 hk2
  have hw := hW.w
  have hw' : A.st A.ns ≤ 150 := hW.w
  have hn := hW.n
  have hm2 := hW.1.le (show K + 1 ≤ A.ns by omega) (Nat.le_refl _)
  have hs := hW.2.1.2.2.1
  have es := storyOf_s hF hW.1 (fun k hk => h.rlo hk) hK hk1 hk2
  have ef := first_r hF hW h (show K ≤ A.ns by omega)
  have e1 := h.rlo hK
  have hZ : RS (zeroA A p) (upd s (195 + p) (nI 0)) := h.setHe hW (fun j hj => upd_ne (by omega)) (fun q hq => by
    by_cases hqp : q = p
    · subst hqp; rw [upd_eq, if_pos rfl]
    · rw [upd_ne (by omega), if_neg hqp]; exact h.rhe hq)
  have hWZ := hW.zero p
  have hWB : WF (brA (zeroA A p) K p) := hWZ.br hK hk1 hk2
  have hwB : (brA (zeroA A p) K p).wn = A.wn := br_wn hK
  have hsB : (brA (zeroA A p) K p).se = A.se := br_se
  have tail : ∀ (s1 : Ar), RS (brA (zeroA A p) K p) s1 → ∃ s',
      (jn (fun (q_s_21 : Ar) => jn (fun (q_s_26 : Ar) => some (q_s_26)) (fun j27 => if (if p - A.st K = A.st (K + 1) - A.st K - 1 then nI 1 else nI 0) = 0 then bd1 (f_X4_warm Fu q_s_21 (nI p + nI 1) (q_s_21 1)) (fun q_s_24 => j27 q_s_24) else j27 q_s_21))
        (fun j22 => if nI (p - A.st K) ≤ 0 then j22 s1 else bd1 (f_X4_warm Fu s1 (nI p - nI 1) (s1 1)) (fun q_s_19 => j22 q_s_19))) = some s' ∧
      RS (if p + 1 < A.st (K + 1) then warmA (if A.st K < p then warmA (brA (zeroA A p) K p) (p - 1) (A.se 1) else brA (zeroA A p) K p) (p + 1) (A.se 1) else (if A.st K < p then warmA (brA (zeroA A p) K p) (p - 1) (A.se 1) else brA (zeroA A p) K p)) s' := by
    intro s1 hB
    have e3 := hB.rse (show 1 < 3 by omega)
    rw [hsB] at e3
    have hpp : A.st K < p → p - 1 < (brA (zeroA A p) K p).wn := fun c => by rw [hwB]; omega
    have hpq : p + 1 < A.st (K + 1) → p + 1 < A.wn := fun c => by
      have : A.st A.ns = A.wn := rfl
      omega
    by_cases c1 : A.st K < p
    · obtain ⟨h1, w1, r1⟩ := warm4_s (Fu := Fu) hWB hB (hpp c1) (show A.se 1 ≤ 1000 by omega)
      have n1 : ¬ p - A.st K ≤ 0 := by omega
      have e4 := r1.rse (show 1 < 3 by omega)
      have e4 : h1 1 = nI (A.se 1) := by rw [e4]; show nI ((brA (zeroA A p) K p).se 1) = _; rw [hsB]
      by_cases c2 : p + 1 < A.st (K + 1)
      · obtain ⟨h2, w2, r2⟩ := warm4_s (Fu := Fu) (hWB.warm (p - 1) (A.se 1)) r1 (show p + 1 < (brA (zeroA A p) K p).wn by rw [hwB]; exact hpq c2) (show A.se 1 ≤ 1000 by omega)
        refine ⟨h2, ?_, ?_⟩
        · have n2 : ¬ p - A.st K = A.st (K + 1) - A.st K - 1 := by omega
          simp (disch := omega) only [gd_true, nm_eq, jn_eq, bd1_s, bd2_s, bd3_s, bd4_s, bd5_s, bd6_s, bd7_s, bd8_s, bd9_s, bd10_s, bd11_s, bd12_s, nI_add, pk_mul, pk_subs, nI_m1s, ix_nIs, nI_clamps, nI_les, nI_lts, nI_eqs, bz_0, bz_1, nI_zero, eq_self, if_true, if_false, e3, e4, w1, w2, if_neg n1, if_neg n2]
        · rw [if_pos c2, if_pos c1]; exact r2
      · refine ⟨h1, ?_, ?_⟩
        · have n2 : p - A.st K = A.st (K + 1) - A.st K - 1 := by omega
          simp (disch := omega) only [gd_true, nm_eq, jn_eq, bd1_s, bd2_s, bd3_s, bd4_s, bd5_s, bd6_s, bd7_s, bd8_s, bd9_s, bd10_s, bd11_s, bd12_s, nI_add, pk_mul, pk_subs, nI_m1s, ix_nIs, nI_clamps, nI_les, nI_lts, nI_eqs, bz_0, bz_1, nI_zero, eq_self, if_true, if_false, e3, w1, if_neg n1, if_pos n2, if_neg (show ¬ (1 : Nat) = 0 by decide)]
        · rw [if_neg c2, if_pos c1]; exact r1
    · have n1 : p - A.st K ≤ 0 := by omega
      by_cases c2 : p + 1 < A.st (K + 1)
      · obtain ⟨h2, w2, r2⟩ := warm4_s (Fu := Fu) hWB hB (show p + 1 < (brA (zeroA A p) K p).wn by rw [hwB]; exact hpq c2) (show A.se 1 ≤ 1000 by omega)
        refine ⟨h2, ?_, ?_⟩
        · have n2 : ¬ p - A.st K = A.st (K + 1) - A.st K - 1 := by omega
          simp (disch := omega) only [gd_true, nm_eq, jn_eq, bd1_s, bd2_s, bd3_s, bd4_s, bd5_s, bd6_s, bd7_s, bd8_s, bd9_s, bd10_s, bd11_s, bd12_s, nI_add, pk_mul, pk_subs, nI_m1s, ix_nIs, nI_clamps, nI_les, nI_lts, nI_eqs, bz_0, bz_1, nI_zero, eq_self, if_true, if_false, e3, w2, if_pos n1, if_neg n2]
        · rw [if_pos c2, if_neg c1]; exact r2
      · refine ⟨s1, ?_, ?_⟩
        · have n2 : p - A.st K = A.st (K + 1) - A.st K - 1 := by omega
          simp (disch := omega) only [gd_true, nm_eq, jn_eq, bd1_s, bd2_s, bd3_s, bd4_s, bd5_s, bd6_s, bd7_s, bd8_s, bd9_s, bd10_s, bd11_s, bd12_s, nI_add, pk_mul, pk_subs, nI_m1s, ix_nIs, nI_clamps, nI_les, nI_lts, nI_eqs, bz_0, bz_1, nI_zero, eq_self, if_true, if_false, if_pos n1, if_pos n2, if_neg (show ¬ (1 : Nat) = 0 by decide)]
        · rw [if_neg c2, if_neg c1]; exact hB
  have c3 : upd s (195 + p) (nI 0) 3 = nI A.ns := by rw [upd_ne (by omega)]; exact h.rns
  have c6 : upd s (195 + p) (nI 0) 6 = nI A.sp := by rw [upd_ne (by omega)]; exact h.rsp
  have c7 : upd s (195 + p) (nI 0) 7 = A.bo := by rw [upd_ne (by omega)]; exact h.rbo
  have c8 : upd s (195 + p) (nI 0) 8 = A.fi := by rw [upd_ne (by omega)]; exact h.rfi
  have ei : (nI p - nI (A.st K) = nI (A.st (K + 1) - A.st K) - nI 1) = (p - A.st K = A.st (K + 1) - A.st K - 1) := by
    rw [pk_subs hk1, pk_subs (by omega), nI_eqs (by omega) (by omega)]
  unfold f_X4_reactOne
  rw [es, bd1_s, ef, bd1_s, nI_add, ix_nIs (show 9 + K < 345 by omega) (by omega), gd_true, nI_clamps (show 9 + K < 2147483648 by omega), e1, nm_eq, nI_add, ix_nIs (show 195 + p < 345 by omega) (by omega), gd_true, jn_eq, nI_clamps (show 195 + p < 2147483648 by omega)]
  simp only [ei]
  rw [pk_subs hk1]
  generalize hz : upd s (195 + p) (nI 0) = z at hZ c3 c6 c7 c8
  by_cases c1 : p = A.st K
  · have hB : RS (brA (zeroA A p) K p) (upd z 7 (A.bo + nI 1)) := by
      unfold brA
      rw [if_pos (show p = (zeroA A p).st K from c1)]
      exact hZ.ct hWZ A.sp (A.bo + nI 1) A.fi (fun j a b c => upd_ne b) (by rw [upd_ne (by omega)]; exact c6) upd_eq (by rw [upd_ne (by omega)]; exact c8)
    obtain ⟨s', t1, t2⟩ := tail _ hB
    refine ⟨s', ?_, t2⟩
    rw [if_pos (show nI (p - A.st K) = 0 by rw [c1, Nat.sub_self]; exact nI_0), c7, nm_eq]
    exact t1
  · have n1 : ¬ nI (p - A.st K) = 0 := by
      rw [nI_zero, nI_eqs (by omega) (by omega)]
      omega
    rw [if_neg n1, c3]
    by_cases c2 : A.ns < 12
    · have hZ2 : RS ((zeroA A p).setCt (A.sp + 1) A.bo A.fi) (upd z 6 (nI (A.sp + 1))) :=
        hZ.ct hWZ (A.sp + 1) A.bo A.fi (fun j a b c => upd_ne a) upd_eq (by rw [upd_ne (by omega)]; exact c7) (by rw [upd_ne (by omega)]; exact c8)
      obtain ⟨s2, q1, q2⟩ := split4_s hF (A := (zeroA A p).setCt (A.sp + 1) A.bo A.fi) hWZ hZ2 (K := K) (p := p) hK (show A.st K < p by omega) hk2 c2
      have hB : RS (brA (zeroA A p) K p) s2 := by
        unfold brA
        rw [if_neg (show ¬ p = (zeroA A p).st K from c1), if_pos (show (zeroA A p).ns < 12 from c2)]
        exact q2
      obtain ⟨s', t1, t2⟩ := tail _ hB
      refine ⟨s', ?_, t2⟩
      have q1 : f_X4_split Fu (upd z 6 (nI (A.sp + 1))) (nI K) (nI (p - A.st K)) = some s2 := q1
      rw [if_neg (show ¬ nI 12 ≤ nI A.ns by rw [nI_les (by omega) (by omega)]; omega), c6, nI_add, nm_eq, q1, bd1_s]
      exact t1
    · have hB : RS (brA (zeroA A p) K p) (upd z 8 (A.fi + nI 1)) := by
        unfold brA
        rw [if_neg (show ¬ p = (zeroA A p).st K from c1), if_neg (show ¬ (zeroA A p).ns < 12 from c2)]
        exact hZ.ct hWZ A.sp A.bo (A.fi + nI 1) (fun j a b c => upd_ne c) (by rw [upd_ne (by omega)]; exact c6) (by rw [upd_ne (by omega)]; exact c7) upd_eq
      obtain ⟨s', t1, t2⟩ := tail _ hB
      refine ⟨s', ?_, t2⟩
      rw [if_pos (show nI 12 ≤ nI A.ns by rw [nI_les (by omega) (by omega)]; omega), c8, nm_eq]
      exact t1
end RCV
end
section
/-! PURE: reactions follow: to their end, both sides -/
def sumN (f : FN) : Nat → Nat
  | 0 => 0
  | n + 1 => sumN f n + f n
theorem sumN_le {f g : FN} : ∀ (n : Nat), (∀ q, q < n → f q ≤ g q) → sumN f n ≤ sumN g n := by
  intro n
  induction n with
  | zero => intro _; exact Nat.le_refl _
  | succ n ih =>
    intro h
    have h1 := ih (fun q hq => h q (by omega))
    have h2 := h n (by omega)
    show sumN f n + f n ≤ sumN g n + g n
    omega
theorem sumN_congr {f g : FN} (n : Nat) (h : ∀ q, q < n → f q = g q) : sumN f n = sumN g n :=
  Nat.le_antisymm (sumN_le n (fun q hq => Nat.le_of_eq (h q hq))) (sumN_le n (fun q hq => Nat.le_of_eq (h q hq).symm))
theorem sumN_up (f : FN) (a x : Nat) : ∀ (n : Nat), a < n → sumN (fun q => if q = a then x else f q) n + f a = sumN f n + x := by
  intro n
  induction n with
  | zero => intro h; omega
  | succ n ih =>
    intro h
    show sumN (fun q => if q = a then x else f q) n + (if n = a then x else f n) + f a = sumN f n + f n + x
    by_cases hn : n = a
    · subst hn
      rw [if_pos rfl]
      have : sumN (fun q => if q = n then x else f q) n = sumN f n := sumN_congr n (fun q hq => by
        show (if q = n then x else f q) = f q
        rw [if_neg (by omega)])
      omega
    · rw [if_neg hn]
      have := ih (by omega)
      omega
theorem sumN_bound (f : FN) : ∀ (n : Nat), (∀ q, q < n → f q ≤ 999) → sumN f n ≤ 999 * n := by
  intro n
  induction n with
  | zero => intro _; exact Nat.le_refl _
  | succ n ih =>
    intro h
    have h1 := ih (fun q hq => h q (by omega))
    have h2 := h n (by omega)
    show sumN f n + f n ≤ 999 * (n + 1)
    omega
/-- all heat -/
def Sh.T (A : Sh) : Nat := sumN A.he A.wn
theorem WF.T {A : Sh} (hW : WF A) : A.T ≤ 149850 := by
  have h1 := sumN_bound A.he A.wn (fun q hq => (hW.2.2 q hq).2)
  have h2 := hW.w
  unfold Sh.T
  omega
theorem warm_T (A : Sh) (p b : Nat) (hp : p < A.wn) : (warmA A p b).T ≤ A.T + b := by
  have h1 := sumN_up A.he p (minH (A.he p) b) A.wn hp
  have h2 := (minH_le (A.he p) b).2
  show sumN (fun q => if q = p then minH (A.he p) b else A.he q) A.wn ≤ sumN A.he A.wn + b
  omega
theorem react_T {A : Sh} (hW : WF A) {p : Nat} (hp : p < A.wn) (hot : A.se 0 ≤ A.he p) : (reactA A p).T + 2 ≤ A.T := by
  obtain ⟨hK, hk1, hk2⟩ := hW.so hp
  have hs := hW.2.1
  have hm2 := hW.1.le (show A.so p + 1 ≤ A.ns by omega) (Nat.le_refl _)
  have hwB : (brA (zeroA A p) (A.so p) p).wn = A.wn := br_wn hK
  have hB : (brA (zeroA A p) (A.so p) p).T + A.he p = A.T := by
    unfold Sh.T
    rw [hwB, br_he]
    have := sumN_up A.he p 0 A.wn hp
    show sumN (fun q => if q = p then 0 else A.he q) A.wn + A.he p = sumN A.he A.wn
    omega
  unfold reactA
  show (if p + 1 < A.st (A.so p + 1) then warmA (if A.st (A.so p) < p then warmA (brA (zeroA A p) (A.so p) p) (p - 1) (A.se 1) else brA (zeroA A p) (A.so p) p) (p + 1) (A.se 1) else (if A.st (A.so p) < p then warmA (brA (zeroA A p) (A.so p) p) (p - 1) (A.se 1) else brA (zeroA A p) (A.so p) p)).T + 2 ≤ A.T
  have hC : (if A.st (A.so p) < p then warmA (brA (zeroA A p) (A.so p) p) (p - 1) (A.se 1) else brA (zeroA A p) (A.so p) p).T ≤ (brA (zeroA A p) (A.so p) p).T + A.se 1 ∧ (if A.st (A.so p) < p then warmA (brA (zeroA A p) (A.so p) p) (p - 1) (A.se 1) else brA (zeroA A p) (A.so p) p).wn = A.wn := by
    by_cases c : A.st (A.so p) < p
    · rw [if_pos c]; exact ⟨warm_T _ _ _ (by rw [hwB]; omega), hwB⟩
    · rw [if_neg c]; exact ⟨by omega, hwB⟩
  by_cases c : p + 1 < A.st (A.so p + 1)
  · rw [if_pos c]
    have hpq : p + 1 < A.wn := by
      have : A.st A.ns = A.wn := rfl
      omega
    have := warm_T (if A.st (A.so p) < p then warmA (brA (zeroA A p) (A.so p) p) (p - 1) (A.se 1) else brA (zeroA A p) (A.so p) p) (p + 1) (A.se 1) (by rw [hC.2]; exact hpq)
    have := hC.1
    omega
  · rw [if_neg c]
    have := hC.1
    omega
theorem react_se {A : Sh} {p : Nat} : (reactA A p).se = A.se := by
  unfold reactA
  show (if p + 1 < A.st (A.so p + 1) then warmA (if A.st (A.so p) < p then warmA (brA (zeroA A p) (A.so p) p) (p - 1) (A.se 1) else brA (zeroA A p) (A.so p) p) (p + 1) (A.se 1) else (if A.st (A.so p) < p then warmA (brA (zeroA A p) (A.so p) p) (p - 1) (A.se 1) else brA (zeroA A p) (A.so p) p)).se = A.se
  by_cases c : p + 1 < A.st (A.so p + 1)
  · rw [if_pos c]
    by_cases c2 : A.st (A.so p) < p
    · rw [if_pos c2]; exact br_se
    · rw [if_neg c2]; exact br_se
  · rw [if_neg c]
    by_cases c2 : A.st (A.so p) < p
    · rw [if_pos c2]; exact br_se
    · rw [if_neg c2]; exact br_se
/-- a reaction leaves the heat of words that are further ahead than its neighbour -/
theorem react_far {A : Sh} {p q : Nat} (hq : q + 1 < p) : (reactA A p).he q = A.he q := by
  have hz : (zeroA A p).he q = A.he q := by
    show (if q = p then 0 else A.he q) = A.he q
    rw [if_neg (by omega)]
  have hb : (brA (zeroA A p) (A.so p) p).he q = A.he q := by rw [br_he]; exact hz
  have hc : (if A.st (A.so p) < p then warmA (brA (zeroA A p) (A.so p) p) (p - 1) (A.se 1) else brA (zeroA A p) (A.so p) p).he q = A.he q := by
    by_cases c2 : A.st (A.so p) < p
    · rw [if_pos c2]
      show (if q = p - 1 then _ else (brA (zeroA A p) (A.so p) p).he q) = A.he q
      rw [if_neg (by omega)]
      exact hb
    · rw [if_neg c2]; exact hb
  unfold reactA
  show (if p + 1 < A.st (A.so p + 1) then warmA (if A.st (A.so p) < p then warmA (brA (zeroA A p) (A.so p) p) (p - 1) (A.se 1) else brA (zeroA A p) (A.so p) p) (p + 1) (A.se 1) else (if A.st (A.so p) < p then warmA (brA (zeroA A p) (A.so p) p) (p - 1) (A.se 1) else brA (zeroA A p) (A.so p) p)).he q = A.he q
  by_cases c : p + 1 < A.st (A.so p + 1)
  · rw [if_pos c]
    show (if q = p + 1 then _ else (if A.st (A.so p) < p then warmA (brA (zeroA A p) (A.so p) p) (p - 1) (A.se 1) else brA (zeroA A p) (A.so p) p).he q) = A.he q
    rw [if_neg (by omega)]
    exact hc
  · rw [if_neg c]; exact hc
def cold (A : Sh) (p : Nat) : Prop := A.he p < A.se 0
/-- the run: the first word that is too hot reacts, until there is none -/
def fhot (P : Nat → Bool) : Nat → Nat → Nat
  | p, 0 => p
  | p, r + 1 => if P p = true then p else fhot P (p + 1) r
theorem fhot_s (P : Nat → Bool) {a : Nat} : ∀ (r p : Nat), p ≤ a → a ≤ p + r → (∀ q, p ≤ q → q < a → P q = false) → (a < p + r → P a = true) → fhot P p r = a := by
  intro r
  induction r with
  | zero => intro p h1 h2 _ _; show p = a; omega
  | succ r ih =>
    intro p h1 h2 h3 h4
    show (if P p = true then p else fhot P (p + 1) r) = a
    by_cases hp : p = a
    · subst hp
      rw [if_pos (h4 (by omega))]
    · rw [if_neg (by rw [h3 p (Nat.le_refl _) (by omega)]; decide)]
      exact ih (p + 1) (by omega) (by omega) (fun q a b => h3 q (by omega) b) (fun c => h4 (by omega))
def Sh.fh (A : Sh) : Nat := fhot (fun p => decide (A.se 0 ≤ A.he p)) 0 A.wn
def runA : Nat → Sh → Option (Sh × Nat)
  | 0, _ => none
  | f + 1, A => if A.fh = A.wn then some (A, 0) else (runA f (reactA A A.fh)).map (fun x => (x.1, x.2 + 1))
def Runs (A B : Sh) (n : Nat) : Prop := ∃ f, runA f A = some (B, n)
theorem runA_more : ∀ (f : Nat) (A : Sh) (x : Sh × Nat), runA f A = some x → runA (f + 1) A = some x := by
  intro f
  induction f with
  | zero => intro A x h; cases h
  | succ f ih =>
    intro A x h
    unfold runA at h ⊢
    by_cases c : A.fh = A.wn
    · rw [if_pos c] at h ⊢; exact h
    · rw [if_neg c] at h ⊢
      cases hr : runA f (reactA A A.fh) with
      | none => rw [hr] at h; cases h
      | some z => rw [hr] at h; rw [ih _ _ hr]; exact h
theorem runA_add {f : Nat} {A : Sh} {x : Sh × Nat} (h : runA f A = some x) (g : Nat) : runA (f + g) A = some x := by
  induction g with
  | zero => exact h
  | succ g ih => exact runA_more _ _ _ ih
theorem Runs.det {A B C : Sh} {n m : Nat} (h1 : Runs A B n) (h2 : Runs A C m) : B = C ∧ n = m := by
  obtain ⟨f, hf⟩ := h1
  obtain ⟨g, hg⟩ := h2
  have a := runA_add hf g
  have b := runA_add hg f
  rw [Nat.add_comm g f] at b
  rw [a] at b
  have := Option.some.inj b
  exact ⟨congrArg Prod.fst this, congrArg Prod.snd this⟩
theorem Runs.done {A : Sh} (h : ∀ q, q < A.wn → cold A q) : Runs A A 0 := by
  refine ⟨1, ?_⟩
  have e : A.fh = A.wn := fhot_s _ A.wn 0 (Nat.zero_le _) (by omega) (fun q _ hq => by
    have := h q hq
    unfold cold at this
    simp only [decide_eq_false_iff_not]
    omega) (fun c => by omega)
  unfold runA
  rw [if_pos e]
theorem Runs.step {A B : Sh} {n p : Nat} (hp : p < A.wn) (hot : A.se 0 ≤ A.he p) (hc : ∀ q, q < p → cold A q) (h : Runs (reactA A p) B n) : Runs A B (n + 1) := by
  obtain ⟨f, hf⟩ := h
  refine ⟨f + 1, ?_⟩
  have e : A.fh = p := fhot_s _ A.wn 0 (Nat.zero_le _) (by omega) (fun q _ hq => by
    have := hc q hq
    unfold cold at this
    simp only [decide_eq_false_iff_not]
    omega) (fun _ => by simp only [decide_eq_true_eq]; exact hot)
  unfold runA
  rw [if_neg (by omega), e, hf]
  rfl
/-- what a run keeps: WF, words, settings; splits and stories grow alike -/
def Keeps (A B : Sh) : Prop := WF B ∧ B.wn = A.wn ∧ B.se = A.se ∧ B.sp + A.ns = A.sp + B.ns ∧ A.ns ≤ B.ns ∧ B.le = A.le ∧ B.nf = A.nf
theorem br_keep {A : Sh} {K p : Nat} : (brA A K p).sp + A.ns = A.sp + (brA A K p).ns ∧ A.ns ≤ (brA A K p).ns ∧ (brA A K p).le = A.le ∧ (brA A K p).nf = A.nf := by
  unfold brA
  by_cases c1 : p = A.st K
  · rw [if_pos c1]; exact ⟨rfl, Nat.le_refl _, rfl, rfl⟩
  · rw [if_neg c1]
    by_cases c2 : A.ns < 12
    · rw [if_pos c2]
      refine ⟨?_, ?_, rfl, rfl⟩
      · show A.sp + 1 + A.ns = A.sp + (A.ns + 1); omega
      · show A.ns ≤ A.ns + 1; omega
    · rw [if_neg c2]; exact ⟨rfl, Nat.le_refl _, rfl, rfl⟩
theorem react_keep {A : Sh} (hW : WF A) {p : Nat} (hp : p < A.wn) : Keeps A (reactA A p) := by
  have k := br_keep (A := zeroA A p) (K := A.so p) (p := p)
  refine ⟨hW.react hp, react_wn hW hp, react_se, ?_⟩
  unfold reactA
  show (if p + 1 < A.st (A.so p + 1) then warmA (if A.st (A.so p) < p then warmA (brA (zeroA A p) (A.so p) p) (p - 1) (A.se 1) else brA (zeroA A p) (A.so p) p) (p + 1) (A.se 1) else (if A.st (A.so p) < p then warmA (brA (zeroA A p) (A.so p) p) (p - 1) (A.se 1) else brA (zeroA A p) (A.so p) p)).sp + A.ns = A.sp + (if p + 1 < A.st (A.so p + 1) then warmA (if A.st (A.so p) < p then warmA (brA (zeroA A p) (A.so p) p) (p - 1) (A.se 1) else brA (zeroA A p) (A.so p) p) (p + 1) (A.se 1) else (if A.st (A.so p) < p then warmA (brA (zeroA A p) (A.so p) p) (p - 1) (A.se 1) else brA (zeroA A p) (A.so p) p)).ns ∧ A.ns ≤ (if p + 1 < A.st (A.so p + 1) then warmA (if A.st (A.so p) < p then warmA (brA (zeroA A p) (A.so p) p) (p - 1) (A.se 1) else brA (zeroA A p) (A.so p) p) (p + 1) (A.se 1) else (if A.st (A.so p) < p then warmA (brA (zeroA A p) (A.so p) p) (p - 1) (A.se 1) else brA (zeroA A p) (A.so p) p)).ns ∧ (if p + 1 < A.st (A.so p + 1) then warmA (if A.st (A.so p) < p then warmA (brA (zeroA A p) (A.so p) p) (p - 1) (A.se 1) else brA (zeroA A p) (A.so p) p) (p + 1) (A.se 1) else (if A.st (A.so p) < p then warmA (brA (zeroA A p) (A.so p) p) (p - 1) (A.se 1) else brA (zeroA A p) (A.so p) p)).le = A.le ∧ (if p + 1 < A.st (A.so p + 1) then warmA (if A.st (A.so p) < p then warmA (brA (zeroA A p) (A.so p) p) (p - 1) (A.se 1) else brA (zeroA A p) (A.so p) p) (p + 1) (A.se 1) else (if A.st (A.so p) < p then warmA (brA (zeroA A p) (A.so p) p) (p - 1) (A.se 1) else brA (zeroA A p) (A.so p) p)).nf = A.nf
  by_cases c : p + 1 < A.st (A.so p + 1)
  · rw [if_pos c]
    by_cases c2 : A.st (A.so p) < p
    · rw [if_pos c2]; exact k
    · rw [if_neg c2]; exact k
  · rw [if_neg c]
    by_cases c2 : A.st (A.so p) < p
    · rw [if_pos c2]; exact k
    · rw [if_neg c2]; exact k
theorem Keeps.refl {A : Sh} (hW : WF A) : Keeps A A := ⟨hW, rfl, rfl, rfl, Nat.le_refl _, rfl, rfl⟩
theorem Keeps.trans {A B C : Sh} (h1 : Keeps A B) (h2 : Keeps B C) : Keeps A C := by
  obtain ⟨a1, a2, a3, a4, a5, a6, a7⟩ := h1
  obtain ⟨b1, b2, b3, b4, b5, b6, b7⟩ := h2
  exact ⟨b1, b2.trans a2, b3.trans a3, by omega, by omega, b6.trans a6, b7.trans a7⟩
section RUNV
variable {Fu : Nat} {se le fa : Ar} {nf : Int32}
theorem jmax_0 (p : Nat) (hp : p < 1000000) : jmax (nI 0) (nI p - nI 1) = nI (p - 1) := by
  unfold jmax
  by_cases h : p = 0
  · subst h
    decide
  · rw [pk_subs (by omega)]
    by_cases h2 : p - 1 = 0
    · rw [h2]; decide
    · rw [if_pos (by rw [nI_lts (by omega) (by omega)]; omega)]
theorem react_L (Fu : Nat) (hF : 20000000 ≤ Fu) (k : Int32 → Ar → Ar → Ar → Ar → Int32 → Int32 → Int32 → Int32 → Option (Int32 × Ar × Ar × Ar × Ar × Int32 × Int32 × Int32 × Int32)) {se le : Ar} {nf : Int32} : ∀ (fu : Nat) (A : Sh) (he sa fa ge : Ar) (ns sp bo fi : Int32) (p x j : Nat), WF A → RV A se le he sa fa ge ns nf sp bo fi → p ≤ A.wn → (∀ q, q < p → cold A q) → A.T + (A.wn - p) < fu → j + (A.T + (A.wn - p)) < 1000000 →
    ∃ B n he' sa' fa' ge' ns' sp' bo' fi', Runs A B n ∧ n ≤ A.T ∧ Keeps A B ∧ RV B se le he' sa' fa' ge' ns' nf sp' bo' fi' ∧ f_X2_react_L6 Fu k se fu (nI x) (nI p) (nI j) he sa fa ge ns sp bo fi = k (nI (x + n)) he' sa' fa' ge' ns' sp' bo' fi' := by
  intro fu
  induction fu with
  | zero => intro A he sa fa ge ns sp bo fi p x j hW h hp hc h1 h2; omega
  | succ fu ih =>
    intro A he sa fa ge ns sp bo fi p x j hW h hp hc h1 h2
    have hw := hW.w
    have e1 := words_r (Fu := Fu) hW h
    have nj : ¬ nI 1000000 ≤ nI j := by rw [nI_les (by omega) (by omega)]; omega
    by_cases hd : A.wn ≤ p
    · refine ⟨A, 0, he, sa, fa, ge, ns, sp, bo, fi, Runs.done (fun q hq => hc q (by omega)), Nat.zero_le _, Keeps.refl hW, h, ?_⟩
      rw [f_X2_react_L6_s, if_neg nj, e1, bd1_s, if_pos (by rw [nI_les (by omega) (by omega)]; exact hd), Nat.add_zero]
    · have hp' : p < A.wn := by omega
      have e2 := h.rhe hp'
      have e3 := h.rse (show 0 < 3 by omega)
      have b1 := (hW.2.2 p hp').2
      have b2 := hW.2.1.2.1
      have nd : ¬ nI A.wn ≤ nI p := by rw [nI_les (by omega) (by omega)]; exact hd
      by_cases hot : A.se 0 ≤ A.he p
      · obtain ⟨he', sa', fa', ge', ns', sp', bo', fi', q1, q2⟩ := reactAt_s hF hW h hp'
        have hT := react_T hW hp' hot
        have hk := react_keep hW hp'
        have hwn := react_wn hW hp'
        obtain ⟨B, n, he2, sa2, fa2, ge2, ns2, sp2, bo2, fi2, r1, r2, r3, r4, r5⟩ := ih (reactA A p) he' sa' fa' ge' ns' sp' bo' fi' (p - 1) (x + 1) (j + 1) hk.1 q2 (by omega) (fun q hq => by
          have := hc q (by omega)
          unfold cold at this ⊢
          rw [react_far (by omega), react_se]
          exact this) (by omega) (by omega)
        refine ⟨B, n + 1, he2, sa2, fa2, ge2, ns2, sp2, bo2, fi2, Runs.step hp' hot hc r1, by omega, hk.trans r3, r4, ?_⟩
        rw [show x + (n + 1) = x + 1 + n by omega, ← r5, f_X2_react_L6_s, if_neg nj, e1, bd1_s, if_neg nd, ix_nIs (by omega) (by omega), gd_true, jn_eq, nI_clamps (by omega), e2, e3, if_pos (by rw [nI_les (by omega) (by omega)]; exact hot), q1, bd8_s, jmax_0 p (by omega), nI_add, nI_add]
      · obtain ⟨B, n, he2, sa2, fa2, ge2, ns2, sp2, bo2, fi2, r1, r2, r3, r4, r5⟩ := ih A he sa fa ge ns sp bo fi (p + 1) x (j + 1) hW h (by omega) (fun q hq => by
          by_cases hqp : q = p
          · subst hqp; unfold cold; omega
          · exact hc q (by omega)) (by omega) (by omega)
        refine ⟨B, n, he2, sa2, fa2, ge2, ns2, sp2, bo2, fi2, r1, r2, r3, r4, ?_⟩
        rw [← r5, f_X2_react_L6_s, if_neg nj, e1, bd1_s, if_neg nd, ix_nIs (by omega) (by omega), gd_true, jn_eq, nI_clamps (by omega), e2, e3, if_neg (by rw [nI_les (by omega) (by omega)]; exact hot), nI_add, nI_add]
theorem react_s (hF : 20000000 ≤ Fu) {A : Sh} {se le he sa fa ge : Ar} {ns nf sp bo fi : Int32} (hW : WF A) (h : RV A se le he sa fa ge ns nf sp bo fi) : ∃ B n he' sa' fa' ge' ns' sp' bo' fi', Runs A B n ∧ n ≤ 149850 ∧ Keeps A B ∧ RV B se le he' sa' fa' ge' ns' nf sp' bo' fi' ∧ f_X2_react Fu se he sa fa ge ns sp bo fi = some (nI n, he', sa', fa', ge', ns', sp', bo', fi') := by
  have hT := hW.T
  have hw := hW.w
  obtain ⟨B, n, he2, sa2, fa2, ge2, ns2, sp2, bo2, fi2, r1, r2, r3, r4, r5⟩ := react_L Fu hF (fun (v38 : Int32) (q_heats_39 : Ar) (q_starts_40 : Ar) (q_families_41 : Ar) (q_generations_42 : Ar) (q_stories_43 : Int32) (q_splits_44 : Int32) (q_boilings_45 : Int32) (q_fizzles_46 : Int32) => some (v38, q_heats_39, q_starts_40, q_families_41, q_generations_42, q_stories_43, q_splits_44, q_boilings_45, q_fizzles_46)) Fu A he sa fa ge ns sp bo fi 0 0 0 hW h (Nat.zero_le _) (fun q hq => by omega) (by omega) (by omega)
  refine ⟨B, n, he2, sa2, fa2, ge2, ns2, sp2, bo2, fi2, r1, by omega, r3, r4, ?_⟩
  unfold f_X2_react
  rw [jn_eq, r5, Nat.zero_add]
theorem react4_L (Fu : Nat) (hF : 20000000 ≤ Fu) (k : Int32 → Ar → Option (Int32 × Ar)) : ∀ (fu : Nat) (A : Sh) (s : Ar) (p x : Nat), WF A → RS A s → p ≤ A.wn → (∀ q, q < p → cold A q) → A.T * 151 + (A.wn - p) < fu →
    ∃ B n s', Runs A B n ∧ Keeps A B ∧ RS B s' ∧ f_X4_react_L4 Fu k fu (nI x) (nI p) s = k (nI (x + n)) s' := by
  intro fu
  induction fu with
  | zero => intro A s p x hW h hp hc h1; omega
  | succ fu ih =>
    intro A s p x hW h hp hc h1
    have hw := hW.w
    have e1 := h.rwn
    by_cases hd : A.wn ≤ p
    · refine ⟨A, 0, s, Runs.done (fun q hq => hc q (by omega)), Keeps.refl hW, h, ?_⟩
      rw [f_X4_react_L4_s, e1, if_pos (by rw [nI_les (by omega) (by omega)]; exact hd), Nat.add_zero]
    · have hp' : p < A.wn := by omega
      have e2 := h.rhe hp'
      have e3 := h.rse (show 0 < 3 by omega)
      have b1 := (hW.2.2 p hp').2
      have b2 := hW.2.1.2.1
      have nd : ¬ nI A.wn ≤ nI p := by rw [nI_les (by omega) (by omega)]; exact hd
      by_cases hot : A.se 0 ≤ A.he p
      · obtain ⟨s1, q1, q2⟩ := reactOne_s hF hW h hp'
        have hT := react_T hW hp' hot
        have hk := react_keep hW hp'
        have hwn := react_wn hW hp'
        obtain ⟨B, n, s2, r1, r3, r4, r5⟩ := ih (reactA A p) s1 0 (x + 1) hk.1 q2 (Nat.zero_le _) (fun q hq => by omega) (by omega)
        refine ⟨B, n + 1, s2, Runs.step hp' hot hc r1, hk.trans r3, r4, ?_⟩
        rw [show x + (n + 1) = x + 1 + n by omega, ← r5, f_X4_react_L4_s, e1, if_neg nd, nI_add, ix_nIs (by omega) (by omega), gd_true, nI_clamps (by omega), e2, e3, if_neg (by rw [nI_lts (by omega) (by omega)]; omega), q1, bd1_s, nI_add]
      · obtain ⟨B, n, s2, r1, r3, r4, r5⟩ := ih A s (p + 1) x hW h (by omega) (fun q hq => by
          by_cases hqp : q = p
          · subst hqp; unfold cold; omega
          · exact hc q (by omega)) (by omega)
        refine ⟨B, n, s2, r1, r3, r4, ?_⟩
        rw [← r5, f_X4_react_L4_s, e1, if_neg nd, nI_add, ix_nIs (by omega) (by omega), gd_true, nI_clamps (by omega), e2, e3, if_pos (by rw [nI_lts (by omega) (by omega)]; omega), nI_add]
theorem react4_s {Fu : Nat} (hF : 100000000 ≤ Fu) {A : Sh} {s : Ar} (hW : WF A) (h : RS A s) : ∃ B n s', Runs A B n ∧ Keeps A B ∧ RS B s' ∧ f_X4_react Fu s = some (nI n, s') := by
  have hT := hW.T
  have hw := hW.w
  obtain ⟨B, n, s2, r1, r3, r4, r5⟩ := react4_L Fu (by omega) (fun v s => some (v, s)) Fu A s 0 0 hW h (Nat.zero_le _) (fun q hq => by omega) (by omega)
  refine ⟨B, n, s2, r1, r3, r4, ?_⟩
  rw [Nat.zero_add] at r5
  exact r5
end RUNV
end
section
/-! PURE: copies, the history, the slots -/
theorem cpy_step (f g : Ar) (sp dp i : Nat) : upd (va_cpy f g sp dp i) (dp + i) (f (sp + i)) = va_cpy f g sp dp (i + 1) := by
  funext k
  unfold upd va_cpy
  by_cases h : k = dp + i
  · subst h
    rw [if_pos rfl, if_pos (by omega), show dp + i - dp = i by omega]
  · rw [if_neg h]
    by_cases h2 : dp ≤ k ∧ k < dp + i
    · rw [if_pos h2, if_pos (by omega)]
    · rw [if_neg h2, if_neg (by omega)]
theorem cpy_0 (f g : Ar) (sp dp : Nat) : va_cpy f g sp dp 0 = g := by
  funext k
  unfold va_cpy
  rw [if_neg (by omega)]
theorem cpy_in {f g : Ar} {sp dp n j : Nat} (h : j < n) : va_cpy f g sp dp n (dp + j) = f (sp + j) := by
  unfold va_cpy
  rw [if_pos (by omega), show dp + j - dp = j by omega]
theorem cpy_out {f g : Ar} {sp dp n k : Nat} (h : k < dp ∨ dp + n ≤ k) : va_cpy f g sp dp n k = g k := by
  unfold va_cpy
  rw [if_neg (by omega)]
theorem RS.congr {A : Sh} {s s' : Ar} (hW : WF A) (h : RS A s) (e : ∀ j, j < 345 → s' j = s j) : RS A s' := by
  have hn := hW.n
  have hw := hW.w
  exact ⟨fun i hi => by rw [e i (by omega)]; exact h.rse hi, by rw [e 3 (by omega)]; exact h.rns, by rw [e 4 (by omega)]; exact h.rwn, by rw [e 5 (by omega)]; exact h.rnf, by rw [e 6 (by omega)]; exact h.rsp, by rw [e 7 (by omega)]; exact h.rbo, by rw [e 8 (by omega)]; exact h.rfi,
    fun k hk => by rw [e (9 + k) (by omega)]; exact h.rlo hk, fun k hk => by rw [e (21 + k) (by omega)]; exact h.rfa hk, fun k hk => by rw [e (33 + k) (by omega)]; exact h.rge hk, fun p hp => by rw [e (45 + p) (by omega)]; exact h.rle hp, fun p hp => by rw [e (195 + p) (by omega)]; exact h.rhe hp⟩
section CPY
variable {Fu : Nat} {A : Sh} {se le he sa fa ge : Ar} {ns nf sp bo fi : Int32} {s : Ar}
theorem copyFrom_s (hW : WF A) (h : RV A se le he sa fa ge ns nf sp bo fi) (a1 a2 a3 a4 a5 a6 : Ar) (b1 b2 b3 b4 b5 : Int32) : ∃ se' le' he' sa' fa' ge', f_X2_copyFrom Fu a1 a2 a3 a4 a5 a6 b1 b2 b3 b4 b5 se le he sa fa ge ns nf sp bo fi = some (se', le', he', sa', fa', ge', ns, nf, sp, bo, fi) ∧ RV A se' le' he' sa' fa' ge' ns nf sp bo fi := by
  have hn := hW.n
  have hw := hW.w
  have e1 := words_r (Fu := Fu) hW h
  have c1 := cpok_s (n0 := 3) (n1 := 3) (a := 0) (b := 0) (c := 3) (by omega) (by omega) (by omega) (by omega)
  have c2 := cpok_s (n0 := 150) (n1 := 150) (a := 0) (b := 0) (c := A.wn) (by omega) (by omega) (by omega) (by omega)
  have c3 := cpok_s (n0 := 13) (n1 := 13) (a := 0) (b := 0) (c := A.ns + 1) (by omega) (by omega) (by omega) (by omega)
  have c4 := cpok_s (n0 := 12) (n1 := 12) (a := 0) (b := 0) (c := A.ns) (by omega) (by omega) (by omega) (by omega)
  have key : ∀ (f g : Ar) (n k : Nat), n < 1000000 → k < n → cpA f g (nI 0) (nI 0) (nI n) k = f k := fun f g n k h1 h2 => by
    rw [cpA_pt (by omega) (by omega) h1, if_pos (by omega)]
    congr 1
    omega
  refine ⟨cpA se a1 (nI 0) (nI 0) (nI 3), cpA le a2 (nI 0) (nI 0) (nI A.wn), cpA he a3 (nI 0) (nI 0) (nI A.wn), cpA sa a4 (nI 0) (nI 0) (nI (A.ns + 1)), cpA fa a5 (nI 0) (nI 0) (nI A.ns), cpA ge a6 (nI 0) (nI 0) (nI A.ns), ?_, ?_⟩
  · unfold f_X2_copyFrom
    rw [e1, bd1_s, c1, gd_true, c2, gd_true, gd_true, h.rns, nI_add, c3, gd_true, c4, gd_true, gd_true]
  · exact ⟨fun i hi => by rw [key _ _ _ _ (by omega) hi]; exact h.rse hi, fun p hp => by rw [key _ _ _ _ (by omega) hp]; exact h.rle hp, fun p hp => by rw [key _ _ _ _ (by omega) hp]; exact h.rhe hp, fun k hk => by rw [key _ _ _ _ (by omega) (by omega)]; exact h.rsa hk, fun k hk => by rw [key _ _ _ _ (by omega) hk]; exact h.rfa hk, fun k hk => by rw [key _ _ _ _ (by omega) hk]; exact h.rge hk, h.2.2.2.2.2.2⟩
end CPY
/-- a shelf of a pool -/
def RVs (v : SV) (A : Sh) : Prop := RV A (sv_settings v) (sv_letters v) (sv_heats v) (sv_starts v) (sv_families v) (sv_generations v) (sv_stories v) (sv_nextFamily v) (sv_splits v) (sv_boilings v) (sv_fizzles v)
/-- the history: z states, the oldest at o of the ring, and at 0 of the reference's row -/
def HR (M : Nat) (hs : Nat → Sh) (o z : Nat) (hv : Nat → SV) (be : Ar) : Prop := o < 6 ∧ z ≤ 6 ∧ ∀ j, j < z → WF (hs j) ∧ (hs j).sp ≤ M ∧ RVs (hv ((o + j) % 6)) (hs j) ∧ RS (hs j) (fun k => be (345 * j + k))
theorem know_L52 (Fu : Nat) (k : Ar → Option (Ar × Int32)) (s be : Ar) {z : Nat} (hz : z < 6) : ∀ (fu i : Nat), i ≤ 345 → 345 - i < fu → f_X4_know_L52 Fu k s (nI z) fu (nI i) (va_cpy s be 0 (345 * z) i) = k (va_cpy s be 0 (345 * z) 345) := by
  intro fu
  induction fu with
  | zero => intro i h1 h2; omega
  | succ fu ih =>
    intro i h1 h2
    rw [f_X4_know_L52_s]
    by_cases hh : 345 ≤ i
    · have e : i = 345 := by omega
      subst e
      simp (disch := omega) only [gd_true, nm_eq, jn_eq, bd1_s, bd2_s, bd3_s, bd4_s, bd5_s, bd6_s, bd7_s, bd8_s, bd9_s, bd10_s, bd11_s, bd12_s, nI_add, pk_mul, pk_subs, nI_m1s, ix_nIs, nI_clamps, nI_les, nI_lts, nI_eqs, bz_0, bz_1, nI_zero, eq_self, if_true, if_false, if_pos, if_neg]
    · rw [← ih (i + 1) (by omega) (by omega), ← cpy_step, Nat.zero_add]
      simp (disch := omega) only [gd_true, nm_eq, jn_eq, bd1_s, bd2_s, bd3_s, bd4_s, bd5_s, bd6_s, bd7_s, bd8_s, bd9_s, bd10_s, bd11_s, bd12_s, nI_add, pk_mul, pk_subs, nI_m1s, ix_nIs, nI_clamps, nI_les, nI_lts, nI_eqs, bz_0, bz_1, nI_zero, eq_self, if_true, if_false, if_neg hh]
theorem know_L11 (Fu : Nat) (k : Ar → Option (Ar × Int32)) (be : Ar) : ∀ (fu i : Nat), i ≤ 1725 → 1725 - i < fu → f_X4_know_L11 Fu k fu (nI i) (va_cpy be be 345 0 i) = k (va_cpy be be 345 0 1725) := by
  intro fu
  induction fu with
  | zero => intro i h1 h2; omega
  | succ fu ih =>
    intro i h1 h2
    rw [f_X4_know_L11_s]
    by_cases hh : 1725 ≤ i
    · have e : i = 1725 := by omega
      subst e
      simp (disch := omega) only [gd_true, nm_eq, jn_eq, bd1_s, bd2_s, bd3_s, bd4_s, bd5_s, bd6_s, bd7_s, bd8_s, bd9_s, bd10_s, bd11_s, bd12_s, nI_add, pk_mul, pk_subs, nI_m1s, ix_nIs, nI_clamps, nI_les, nI_lts, nI_eqs, bz_0, bz_1, nI_zero, eq_self, if_true, if_false, if_pos, if_neg]
    · have e1 : va_cpy be be 345 0 i (345 + i) = be (345 + i) := cpy_out (by omega)
      rw [← ih (i + 1) (by omega) (by omega), ← cpy_step, Nat.zero_add]
      simp (disch := omega) only [gd_true, nm_eq, jn_eq, bd1_s, bd2_s, bd3_s, bd4_s, bd5_s, bd6_s, bd7_s, bd8_s, bd9_s, bd10_s, bd11_s, bd12_s, nI_add, pk_mul, pk_subs, nI_m1s, ix_nIs, nI_clamps, nI_les, nI_lts, nI_eqs, bz_0, bz_1, nI_zero, eq_self, if_true, if_false, if_neg hh, e1]
theorem know_s {Fu : Nat} (hF : 20000000 ≤ Fu) (s be : Ar) {z : Nat} (hz : z ≤ 6) : f_X4_know Fu s be (nI z) = some (if z < 6 then va_cpy s be 0 (345 * z) 345 else va_cpy s (va_cpy be be 345 0 1725) 0 1725 345, nI (if z < 6 then z + 1 else 6)) := by
  unfold f_X4_know
  rw [jn_eq]
  have l52 : ∀ (b : Ar) (w : Nat), w < 6 → (jn (fun (q_before_18 : Ar) => some (q_before_18, nI w + nI 1)) (fun k_52 => f_X4_know_L52 Fu k_52 s (nI w) Fu (nI 0) b)) = some (va_cpy s b 0 (345 * w) 345, nI (w + 1)) := fun b w hw => by
    have := know_L52 Fu (fun (q_before_18 : Ar) => some (q_before_18, nI w + nI 1)) s b hw Fu 0 (Nat.zero_le _) (by omega)
    rw [cpy_0] at this
    rw [jn_eq, this, nI_add]
  by_cases h : z < 6
  · rw [if_neg (show ¬ nI z = nI 6 by rw [nI_eqs (by omega) (by omega)]; omega), if_pos h, if_pos h]
    exact l52 be z h
  · have e : z = 6 := by omega
    subst e
    have l11 := know_L11 Fu (fun (q_before_8 : Ar) => jn (fun (q_before_18 : Ar) => some (q_before_18, nI 5 + nI 1)) (fun k_52 => f_X4_know_L52 Fu k_52 s (nI 5) Fu (nI 0) q_before_8)) be Fu 0 (Nat.zero_le _) (by omega)
    rw [cpy_0] at l11
    rw [if_pos rfl, if_neg h, if_neg h, jn_eq, pk_subs (show 1 ≤ 6 by omega), show 6 - 1 = 5 by omega, l11, l52 _ 5 (by omega)]
theorem record_s {Fu : Nat} {A : Sh} {se le he sa fa ge : Ar} {ns nf sp bo fi : Int32} (hW : WF A) (h : RV A se le he sa fa ge ns nf sp bo fi) (hv : Nat → SV) {o z : Nat} (ho : o < 6) (hz : z ≤ 6) : ∃ v, RVs v A ∧ f_X0_record Fu hv (nI o) (nI z) se le he sa fa ge ns nf sp bo fi = some (va_up hv ((o + z) % 6) v, nI (if z < 6 then o else (o + 1) % 6), nI (if z < 6 then z + 1 else 6)) := by
  obtain ⟨se', le', he', sa', fa', ge', e1, e2⟩ := copyFrom_s (Fu := Fu) hW h (sv_settings (hv ((o + z) % 6))) (sv_letters (hv ((o + z) % 6))) (sv_heats (hv ((o + z) % 6))) (sv_starts (hv ((o + z) % 6))) (sv_families (hv ((o + z) % 6))) (sv_generations (hv ((o + z) % 6))) (sv_stories (hv ((o + z) % 6))) (sv_nextFamily (hv ((o + z) % 6))) (sv_splits (hv ((o + z) % 6))) (sv_boilings (hv ((o + z) % 6))) (sv_fizzles (hv ((o + z) % 6)))
  refine ⟨mkSV se' le' he' sa' fa' ge' (sv_tally (hv ((o + z) % 6))) ns nf sp bo fi, e2, ?_⟩
  unfold f_X0_record
  rw [nI_add, pk_rem (show o + z < 2 ^ 31 by omega) (show 0 < 6 by omega) (by omega), ix_nIs (by omega) (by omega), gd_true, nm_eq, nI_clamps (by omega), e1, bd11_s, nm_eq, jn_eq]
  by_cases hc : z < 6
  · rw [if_pos hc, if_pos hc, if_neg (show ¬ nI 6 ≤ nI z by rw [nI_les (by omega) (by omega)]; omega), nI_add]
  · have e : z = 6 := by omega
    subst e
    rw [if_neg hc, if_neg hc, if_pos (show nI 6 ≤ nI 6 by decide), nI_add, pk_rem (show o + 1 < 2 ^ 31 by omega) (show 0 < 6 by omega) (by omega)]
/-- a change is recorded, on both sides -/
theorem rec_sim {Fu M : Nat} (hF : 20000000 ≤ Fu) {A : Sh} {se le he sa fa ge : Ar} {ns nf sp bo fi : Int32} {s : Ar} (hW : WF A) (hM : A.sp ≤ M) (h : RV A se le he sa fa ge ns nf sp bo fi) (g : RS A s) {hs : Nat → Sh} {o z : Nat} {hv : Nat → SV} {be : Ar} (hH : HR M hs o z hv be) :
    ∃ hs' o' z' hv' be', HR M hs' o' z' hv' be' ∧ f_X0_record Fu hv (nI o) (nI z) se le he sa fa ge ns nf sp bo fi = some (hv', nI o', nI z') ∧ f_X4_know Fu s be (nI z) = some (be', nI z') := by
  obtain ⟨ho, hz, hj⟩ := hH
  obtain ⟨v, hv1, hv2⟩ := record_s (Fu := Fu) hW h hv ho hz
  by_cases hc : z < 6
  · rw [if_pos hc, if_pos hc] at hv2
    have hk := know_s hF s be hz
    rw [if_pos hc, if_pos hc] at hk
    refine ⟨fun j => if j = z then A else hs j, o, z + 1, _, _, ⟨ho, by omega, fun j hjz => ?_⟩, hv2, hk⟩
    by_cases hjz2 : j = z
    · subst hjz2
      dsimp only
      rw [if_pos rfl, va_up_self]
      exact ⟨hW, hM, hv1, g.congr hW (fun i hi => by rw [cpy_in hi, Nat.zero_add])⟩
    · dsimp only
      rw [if_neg hjz2, va_up_ne _ _ (by omega)]
      obtain ⟨w1, w2, w3, w4⟩ := hj j (by omega)
      exact ⟨w1, w2, w3, w4.congr w1 (fun i hi => cpy_out (by omega))⟩
  · have e : z = 6 := by omega
    subst e
    rw [if_neg hc, if_neg hc] at hv2
    have hk := know_s hF s be hz
    rw [if_neg hc, if_neg hc] at hk
    refine ⟨fun j => if j = 5 then A else hs (j + 1), (o + 1) % 6, 6, _, _, ⟨by omega, by omega, fun j hjz => ?_⟩, hv2, hk⟩
    by_cases hj5 : j = 5
    · subst hj5
      dsimp only
      rw [if_pos rfl, show ((o + 1) % 6 + 5) % 6 = (o + 6) % 6 by omega, va_up_self]
      exact ⟨hW, hM, hv1, g.congr hW (fun i hi => by rw [show 345 * 5 + i = 1725 + i by omega, cpy_in hi, Nat.zero_add])⟩
    · dsimp only
      rw [if_neg hj5, va_up_ne _ _ (by omega), show ((o + 1) % 6 + j) % 6 = (o + (j + 1)) % 6 by omega]
      obtain ⟨w1, w2, w3, w4⟩ := hj (j + 1) (by omega)
      refine ⟨w1, w2, w3, w4.congr w1 (fun i hi => ?_)⟩
      rw [cpy_out (by omega), show 345 * j + i = 0 + (345 * j + i) by omega, cpy_in (by omega)]
      congr 1
      omega
theorem undo_L (Fu : Nat) (k : Ar → Option (Int32 × Ar × Int32)) (s be : Ar) {z : Nat} (h0 : 0 < z) (hz : z ≤ 6) : ∀ (fu i : Nat), i ≤ 345 → 345 - i < fu → f_X4_undo_L22 Fu k be (nI z) fu (nI i) (va_cpy be s (345 * (z - 1)) 0 i) = k (va_cpy be s (345 * (z - 1)) 0 345) := by
  intro fu
  induction fu with
  | zero => intro i h1 h2; omega
  | succ fu ih =>
    intro i h1 h2
    rw [f_X4_undo_L22_s]
    by_cases hh : 345 ≤ i
    · have e : i = 345 := by omega
      subst e
      simp (disch := omega) only [gd_true, nm_eq, jn_eq, bd1_s, bd2_s, bd3_s, bd4_s, bd5_s, bd6_s, bd7_s, bd8_s, bd9_s, bd10_s, bd11_s, bd12_s, nI_add, pk_mul, pk_subs, nI_m1s, ix_nIs, nI_clamps, nI_les, nI_lts, nI_eqs, bz_0, bz_1, nI_zero, eq_self, if_true, if_false, if_pos, if_neg]
    · rw [← ih (i + 1) (by omega) (by omega), ← cpy_step, Nat.zero_add]
      simp (disch := omega) only [gd_true, nm_eq, jn_eq, bd1_s, bd2_s, bd3_s, bd4_s, bd5_s, bd6_s, bd7_s, bd8_s, bd9_s, bd10_s, bd11_s, bd12_s, nI_add, pk_mul, pk_subs, nI_m1s, ix_nIs, nI_clamps, nI_les, nI_lts, nI_eqs, bz_0, bz_1, nI_zero, eq_self, if_true, if_false, if_neg hh]
theorem HR.less {M : Nat} {hs : Nat → Sh} {o z : Nat} {hv : Nat → SV} {be : Ar} (h : HR M hs o z hv be) : HR M hs o (z - 1) hv be := ⟨h.1, by have := h.2.1; omega, fun j hj => h.2.2 j (by omega)⟩
theorem HR.more {M M' : Nat} {hs : Nat → Sh} {o z : Nat} {hv : Nat → SV} {be : Ar} (h : HR M hs o z hv be) (hM : M ≤ M') : HR M' hs o z hv be := ⟨h.1, h.2.1, fun j hj => by
  obtain ⟨a, b, c, d⟩ := h.2.2 j hj
  exact ⟨a, by omega, c, d⟩⟩
theorem sim_undo {Fu M : Nat} (hF : 20000000 ≤ Fu) {A : Sh} {se le he sa fa ge : Ar} {ns nf sp bo fi : Int32} {s : Ar} (hW : WF A) (hM : A.sp ≤ M) (h : RV A se le he sa fa ge ns nf sp bo fi) (g : RS A s) {hs : Nat → Sh} {o z : Nat} {hv : Nat → SV} {be : Ar} (hH : HR M hs o z hv be) :
    ∃ r B z' se' le' he' sa' fa' ge' ns' nf' sp' bo' fi' s', WF B ∧ B.sp ≤ M ∧ RV B se' le' he' sa' fa' ge' ns' nf' sp' bo' fi' ∧ RS B s' ∧ HR M hs o z' hv be ∧
      f_X3_undo Fu se le he sa fa ge ns nf sp bo fi hv (nI o) (nI z) = some (r, se', le', he', sa', fa', ge', ns', nf', sp', bo', fi', nI z') ∧ f_X4_undo Fu s be (nI z) = some (r, s', nI z') := by
  unfold f_X3_undo f_X4_undo
  by_cases h0 : z = 0
  · subst h0
    refine ⟨-5, A, 0, se, le, he, sa, fa, ge, ns, nf, sp, bo, fi, s, hW, hM, h, g, hH, ?_, ?_⟩
    · rw [if_pos nI_0]
    · rw [if_pos nI_0]
  · have hz := hH.2.1
    have ho := hH.1
    have n0 : ¬ nI z = 0 := by rw [nI_zero, nI_eqs (by omega) (by omega)]; exact h0
    obtain ⟨w1, w2, w3, w4⟩ := hH.2.2 (z - 1) (by omega)
    obtain ⟨se', le', he', sa', fa', ge', e1, e2⟩ := copyFrom_s (Fu := Fu) w1 w3 se le he sa fa ge ns nf sp bo fi
    refine ⟨nI (z - 1), hs (z - 1), z - 1, se', le', he', sa', fa', ge', _, _, _, _, _, va_cpy be s (345 * (z - 1)) 0 345, w1, w2, e2, ?_, hH.less, ?_, ?_⟩
    · exact w4.congr w1 (fun i hi => by
        have := cpy_in (f := be) (g := s) (sp := 345 * (z - 1)) (dp := 0) hi
        rwa [Nat.zero_add] at this)
    · rw [if_neg n0]
      unfold f_X0_takeBack
      rw [pk_subs (by omega), nI_add, pk_rem (show o + (z - 1) < 2 ^ 31 by omega) (show 0 < 6 by omega) (by omega), ix_nIs (by omega) (by omega), gd_true, nm_eq, nI_clamps (by omega), e1, bd11_s, bd12_s]
    · have := undo_L Fu (fun (q_s_8 : Ar) => some (nI z - nI 1, q_s_8, nI z - nI 1)) s be (show 0 < z by omega) hz Fu 0 (Nat.zero_le _) (by omega)
      rw [cpy_0] at this
      rw [if_neg n0, jn_eq, this, pk_subs (by omega)]
/-- the slots -/
def SR (M : Nat) (ss : Nat → Sh) (sv : Nat → SV) (sa4 : Ar) (vd sd : Ar) : Prop := ∀ j, j < 2 → (vd j = nI 0 ∧ sd j = nI 0) ∨ (vd j = nI 1 ∧ sd j = nI 1 ∧ WF (ss j) ∧ (ss j).sp ≤ M ∧ RVs (sv j) (ss j) ∧ RS (ss j) (fun k => sa4 (345 * j + k)))
theorem SR.more {M M' : Nat} {ss : Nat → Sh} {sv : Nat → SV} {sa4 vd sd : Ar} (h : SR M ss sv sa4 vd sd) (hM : M ≤ M') : SR M' ss sv sa4 vd sd := fun j hj => by
  rcases h j hj with a | ⟨a, b, c, d, e⟩
  · exact Or.inl a
  · exact Or.inr ⟨a, b, c, by omega, e⟩
theorem save_L (Fu : Nat) (k : Ar → Option (Int32 × Ar × Ar)) (s sl : Ar) {j : Nat} (hj : j < 2) : ∀ (fu i : Nat), i ≤ 345 → 345 - i < fu → f_X4_save_L14 Fu k s (nI j) fu (nI i) (va_cpy s sl 0 (345 * j) i) = k (va_cpy s sl 0 (345 * j) 345) := by
  intro fu
  induction fu with
  | zero => intro i h1 h2; omega
  | succ fu ih =>
    intro i h1 h2
    rw [f_X4_save_L14_s]
    by_cases hh : 345 ≤ i
    · have e : i = 345 := by omega
      subst e
      simp (disch := omega) only [gd_true, nm_eq, jn_eq, bd1_s, bd2_s, bd3_s, bd4_s, bd5_s, bd6_s, bd7_s, bd8_s, bd9_s, bd10_s, bd11_s, bd12_s, nI_add, pk_mul, pk_subs, nI_m1s, ix_nIs, nI_clamps, nI_les, nI_lts, nI_eqs, bz_0, bz_1, nI_zero, eq_self, if_true, if_false, if_pos, if_neg]
    · rw [← ih (i + 1) (by omega) (by omega), ← cpy_step, Nat.zero_add]
      simp (disch := omega) only [gd_true, nm_eq, jn_eq, bd1_s, bd2_s, bd3_s, bd4_s, bd5_s, bd6_s, bd7_s, bd8_s, bd9_s, bd10_s, bd11_s, bd12_s, nI_add, pk_mul, pk_subs, nI_m1s, ix_nIs, nI_clamps, nI_les, nI_lts, nI_eqs, bz_0, bz_1, nI_zero, eq_self, if_true, if_false, if_neg hh]
theorem sim_save {Fu M : Nat} (hF : 20000000 ≤ Fu) {A : Sh} {se le he sa fa ge : Ar} {ns nf sp bo fi : Int32} {s : Ar} (hW : WF A) (hM : A.sp ≤ M) (h : RV A se le he sa fa ge ns nf sp bo fi) (g : RS A s) {ss : Nat → Sh} {sv : Nat → SV} {sl vd sd : Ar} (hS : SR M ss sv sl vd sd) (p : Int32) :
    ∃ r ss' sv' sl' vd' sd', SR M ss' sv' sl' vd' sd' ∧ f_X3_save Fu vd se le he sa fa ge ns nf sp bo fi sv p = some (r, vd', sv') ∧ f_X4_save Fu s sl sd p = some (r, sl', sd') := by
  unfold f_X3_save f_X4_save
  rw [isWithin_s, in4_s, within_n (n := 1) (by omega), bd1_s, bd1_s]
  by_cases hq : isS (1 + 1) p = true
  · rw [if_pos hq, if_neg one_ne, if_neg one_ne]
    obtain ⟨j, hj, rfl⟩ := isS_t hq (by omega)
    have hj : j < 2 := hj
    obtain ⟨se', le', he', sa', fa', ge', e1, e2⟩ := copyFrom_s (Fu := Fu) hW h (sv_settings (sv j)) (sv_letters (sv j)) (sv_heats (sv j)) (sv_starts (sv j)) (sv_families (sv j)) (sv_generations (sv j)) (sv_stories (sv j)) (sv_nextFamily (sv j)) (sv_splits (sv j)) (sv_boilings (sv j)) (sv_fizzles (sv j))
    have hL := save_L Fu (fun (q_slots_10 : Ar) => gd (ix (nI j) 2) (some (s 3, q_slots_10, upd sd (nI j).toNatClampNeg (nI 1)))) s sl hj Fu 0 (Nat.zero_le _) (by omega)
    rw [cpy_0] at hL
    refine ⟨nI A.ns, fun i => if i = j then A else ss i, va_up sv j (mkSV se' le' he' sa' fa' ge' (sv_tally (sv j)) ns nf sp bo fi), va_cpy s sl 0 (345 * j) 345, upd vd j (nI 1), upd sd j (nI 1), fun i hi => ?_, ?_, ?_⟩
    · by_cases hij : i = j
      · subst hij
        refine Or.inr ⟨upd_eq, upd_eq, ?_⟩
        dsimp only
        rw [if_pos rfl, va_up_self]
        exact ⟨hW, hM, e2, g.congr hW (fun k hk => by rw [cpy_in hk, Nat.zero_add])⟩
      · rw [upd_ne hij, upd_ne hij]
        rcases hS i hi with a | ⟨a, b, c, d, e, f⟩
        · exact Or.inl a
        · refine Or.inr ⟨a, b, ?_⟩
          dsimp only
          rw [if_neg hij, va_up_ne _ _ hij]
          exact ⟨c, d, e, f.congr c (fun k hk => cpy_out (by omega))⟩
    · rw [ix_nIs hj (by omega), gd_true, nm_eq, nI_clamps (by omega), e1, bd11_s, nm_eq, gd_true, h.rns]
    · rw [jn_eq, hL, ix_nIs hj (by omega), gd_true, nI_clamps (by omega), g.rns]
  · rw [if_neg hq, if_pos zero_eq, if_pos zero_eq]
    exact ⟨-2, ss, sv, sl, vd, sd, hS, rfl, rfl⟩
theorem restore_L (Fu : Nat) (k : Ar → Option (Int32 × Ar × Ar × Int32)) (s sl : Ar) {j : Nat} (hj : j < 2) : ∀ (fu i : Nat), i ≤ 345 → 345 - i < fu → f_X4_restore_L30 Fu k sl (nI j) fu (nI i) (va_cpy sl s (345 * j) 0 i) = k (va_cpy sl s (345 * j) 0 345) := by
  intro fu
  induction fu with
  | zero => intro i h1 h2; omega
  | succ fu ih =>
    intro i h1 h2
    rw [f_X4_restore_L30_s]
    by_cases hh : 345 ≤ i
    · have e : i = 345 := by omega
      subst e
      simp (disch := omega) only [gd_true, nm_eq, jn_eq, bd1_s, bd2_s, bd3_s, bd4_s, bd5_s, bd6_s, bd7_s, bd8_s, bd9_s, bd10_s, bd11_s, bd12_s, nI_add, pk_mul, pk_subs, nI_m1s, ix_nIs, nI_clamps, nI_les, nI_lts, nI_eqs, bz_0, bz_1, nI_zero, eq_self, if_true, if_false, if_pos, if_neg]
    · rw [← ih (i + 1) (by omega) (by omega), ← cpy_step, Nat.zero_add]
      simp (disch := omega) only [gd_true, nm_eq, jn_eq, bd1_s, bd2_s, bd3_s, bd4_s, bd5_s, bd6_s, bd7_s, bd8_s, bd9_s, bd10_s, bd11_s, bd12_s, nI_add, pk_mul, pk_subs, nI_m1s, ix_nIs, nI_clamps, nI_les, nI_lts, nI_eqs, bz_0, bz_1, nI_zero, eq_self, if_true, if_false, if_neg hh]
theorem sim_restore {Fu M : Nat} (hF : 20000000 ≤ Fu) {A : Sh} {se le he sa fa ge : Ar} {ns nf sp bo fi : Int32} {s : Ar} (hW : WF A) (hM : A.sp ≤ M) (h : RV A se le he sa fa ge ns nf sp bo fi) (g : RS A s) {hs : Nat → Sh} {o z : Nat} {hv : Nat → SV} {be : Ar} (hH : HR M hs o z hv be) {ss : Nat → Sh} {sv : Nat → SV} {sl vd sd : Ar} (hS : SR M ss sv sl vd sd) (p : Int32) :
    ∃ r B hs' o' z' hv' be' se' le' he' sa' fa' ge' ns' nf' sp' bo' fi' s', WF B ∧ B.sp ≤ M ∧ RV B se' le' he' sa' fa' ge' ns' nf' sp' bo' fi' ∧ RS B s' ∧ HR M hs' o' z' hv' be' ∧
      f_X3_restore Fu vd se le he sa fa ge ns nf sp bo fi hv (nI o) (nI z) sv p = some (r, se', le', he', sa', fa', ge', ns', nf', sp', bo', fi', hv', nI o', nI z') ∧ f_X4_restore Fu s be (nI z) sl sd p = some (r, s', be', nI z') := by
  unfold f_X3_restore f_X4_restore
  rw [isWithin_s, in4_s, within_n (n := 1) (by omega), bd1_s, bd1_s]
  by_cases hq : isS (1 + 1) p = true
  · rw [if_pos hq, if_neg one_ne, if_neg one_ne]
    obtain ⟨j, hj, rfl⟩ := isS_t hq (by omega)
    have hj : j < 2 := hj
    rw [ix_nIs hj (by omega), gd_true, gd_true, nI_clamps (by omega)]
    rcases hS j hj with ⟨a, b⟩ | ⟨a, b, c, d, e, f⟩
    · refine ⟨-5, A, hs, o, z, hv, be, se, le, he, sa, fa, ge, ns, nf, sp, bo, fi, s, hW, hM, h, g, hH, ?_, ?_⟩
      · rw [a, if_pos nI_0]
      · rw [b, if_pos nI_0]
    · obtain ⟨hs', o', z', hv', be', q1, q2, q3⟩ := rec_sim hF hW hM h g hH
      obtain ⟨se', le', he', sa', fa', ge', e1, e2⟩ := copyFrom_s (Fu := Fu) c e se le he sa fa ge ns nf sp bo fi
      have hL := restore_L Fu (fun (q_s_15 : Ar) => some (q_s_15 3, q_s_15, be', nI z')) s sl hj Fu 0 (Nat.zero_le _) (by omega)
      rw [cpy_0] at hL
      have hB : RS (ss j) (va_cpy sl s (345 * j) 0 345) := f.congr c (fun i hi => by
        have := cpy_in (f := sl) (g := s) (sp := 345 * j) (dp := 0) hi
        rwa [Nat.zero_add] at this)
      refine ⟨nI (ss j).ns, ss j, hs', o', z', hv', be', se', le', he', sa', fa', ge', _, _, _, _, _, va_cpy sl s (345 * j) 0 345, c, d, e2, hB, q1, ?_, ?_⟩
      · rw [a, if_neg one_ne, q2, bd3_s, gd_true, nm_eq, e1, bd11_s, RV.rns e]
      · rw [b, if_neg one_ne, q3, bd2_s, jn_eq, hL, hB.rns]
  · rw [if_neg hq, if_pos zero_eq, if_pos zero_eq]
    exact ⟨-2, A, hs, o, z, hv, be, se, le, he, sa, fa, ge, ns, nf, sp, bo, fi, s, hW, hM, h, g, hH, rfl, rfl⟩
end
section
/-! PURE: heat, read, pass -/
theorem rng {p : Int32} {lo hi : Nat} (h : nI lo ≤ p ∧ p ≤ nI hi) (hb : hi < 1000000) (hl : lo ≤ hi) : ∃ b, lo ≤ b ∧ b ≤ hi ∧ p = nI b := by
  have h1 := Int32.le_iff_toInt_le.mp h.1
  have h2 := Int32.le_iff_toInt_le.mp h.2
  rw [nI_toInt (by omega)] at h1 h2
  refine ⟨p.toInt.toNat, by omega, by omega, ?_⟩
  apply Int32.toInt_inj.mp
  rw [nI_toInt (by omega)]
  omega
theorem Keeps.sp {A B : Sh} (h : Keeps A B) : B.sp ≤ A.sp + 12 := by
  have := h.1.n
  have := h.2.2.2.1
  omega
section CH
variable {Fu M : Nat} {A : Sh} {se le he sa fa ge : Ar} {ns nf sp bo fi : Int32} {s : Ar} {hs : Nat → Sh} {o z : Nat} {hv : Nat → SV} {be : Ar}
/-- what each change answers: the same answer, a value on both sides -/
theorem react_sim (hF : 100000000 ≤ Fu) (hW : WF A) (h : RV A se le he sa fa ge ns nf sp bo fi) (g : RS A s) : ∃ B n he' sa' fa' ge' ns' sp' bo' fi' s', Runs A B n ∧ n ≤ 149850 ∧ Keeps A B ∧ RV B se le he' sa' fa' ge' ns' nf sp' bo' fi' ∧ RS B s' ∧ f_X2_react Fu se he sa fa ge ns sp bo fi = some (nI n, he', sa', fa', ge', ns', sp', bo', fi') ∧ f_X4_react Fu s = some (nI n, s') := by
  obtain ⟨B, n, he', sa', fa', ge', ns', sp', bo', fi', r1, r2, r3, r4, r5⟩ := react_s (Fu := Fu) (by omega) hW h
  obtain ⟨C, m, s', q1, q2, q3, q4⟩ := react4_s hF hW g
  obtain ⟨e1, e2⟩ := r1.det q1
  subst e1
  subst e2
  exact ⟨B, n, he', sa', fa', ge', ns', sp', bo', fi', s', r1, r2, r3, r4, q3, r5, q4⟩
theorem sim_heat (hF : 100000000 ≤ Fu) (hW : WF A) (hM : A.sp ≤ M) (h : RV A se le he sa fa ge ns nf sp bo fi) (g : RS A s) (hH : HR M hs o z hv be) (p q b : Int32) :
    ∃ r B hs' o' z' hv' be' he' sa' fa' ge' ns' sp' bo' fi' s', WF B ∧ B.sp ≤ M + 12 ∧ RV B se le he' sa' fa' ge' ns' nf sp' bo' fi' ∧ RS B s' ∧ HR M hs' o' z' hv' be' ∧
      f_X3_heat Fu se le he sa fa ge ns nf sp bo fi hv (nI o) (nI z) p q b = some (r, he', sa', fa', ge', ns', sp', bo', fi', hv', nI o', nI z') ∧ f_X4_heat Fu s be (nI z) p q b = some (r, s', be', nI z') := by
  have a1 := hasWord_s Fu hW.1 (fun k hk => h.rsa hk) p q
  have a2 := isWord_s Fu hW.1 g.rns (fun k hk => g.rlo hk) p q
  rw [← h.rns] at a1
  unfold f_X3_heat f_X4_heat
  rw [a1, a2, bd1_s, bd1_s]
  by_cases hq : isW A.ns A.st p q = true
  · rw [if_pos hq, if_neg one_ne, if_neg one_ne, isWithin_s, in4_s, bd1_s, bd1_s]
    by_cases hb : nI 1 ≤ b ∧ b ≤ nI 500
    · rw [if_pos hb, if_neg one_ne, if_neg one_ne]
      obtain ⟨k, j, hk, hj, rfl, rfl⟩ := isW_t hq hW.1
      obtain ⟨c, hc1, hc2, rfl⟩ := rng hb (by omega) (by omega)
      have hn := hW.n
      have hm2 := hW.1.le (show k + 1 ≤ A.ns by omega) (Nat.le_refl _)
      have hp : A.st k + j < A.wn := by unfold Sh.wn; omega
      have e1 := h.rsa (show k ≤ A.ns by omega)
      have e2 := first_r (by omega : 20000000 ≤ Fu) hW g (show k ≤ A.ns by omega)
      obtain ⟨hs', o', z', hv', be', q1, q2, q3⟩ := rec_sim (by omega : 20000000 ≤ Fu) hW hM h g hH
      obtain ⟨he1, w1, w2⟩ := warm_s (Fu := Fu) hW h hp (show c ≤ 1000 by omega)
      obtain ⟨s1, v1, v2⟩ := warm4_s (Fu := Fu) hW g hp (show c ≤ 1000 by omega)
      obtain ⟨B, n, he', sa', fa', ge', ns', sp', bo', fi', s', r1, r2, r3, r4, r5, r6, r7⟩ := react_sim hF (hW.warm (A.st k + j) c) w2 v2
      refine ⟨nI n, B, hs', o', z', hv', be', he', sa', fa', ge', ns', sp', bo', fi', s', r3.1, ?_, r4, r5, q1, ?_, ?_⟩
      · have := r3.sp
        have e : (warmA A (A.st k + j) c).sp = A.sp := rfl
        omega
      · rw [q2, bd3_s, ix_nIs (by omega) (by omega), gd_true, nI_clamps (by omega), e1, nI_add, w1, bd1_s, r6, bd9_s]
      · rw [q3, bd2_s, e2, bd1_s, nI_add, v1, bd1_s, r7, bd2_s]
    · rw [if_neg hb, if_pos zero_eq, if_pos zero_eq]
      exact ⟨-2, A, hs, o, z, hv, be, he, sa, fa, ge, ns, sp, bo, fi, s, hW, by omega, h, g, hH, rfl, rfl⟩
  · rw [if_neg hq, if_pos zero_eq, if_pos zero_eq]
    exact ⟨-1, A, hs, o, z, hv, be, he, sa, fa, ge, ns, sp, bo, fi, s, hW, by omega, h, g, hH, rfl, rfl⟩
/-- each word of a row gets heat -/
def rdA (A : Sh) (lo hi b : Nat) : Sh := A.setHe (fun q => if lo ≤ q ∧ q < hi then minH (A.he q) b else A.he q)
theorem rd_0 (A : Sh) (lo b : Nat) : rdA A lo lo b = A := by
  unfold rdA
  have : (fun q => if lo ≤ q ∧ q < lo then minH (A.he q) b else A.he q) = A.he := by
    funext q
    rw [if_neg (by omega)]
  rw [this]
  rfl
theorem rd_s (A : Sh) (lo i b : Nat) (h : lo ≤ i) : warmA (rdA A lo i b) i b = rdA A lo (i + 1) b := by
  show A.setHe (fun q => if q = i then minH (if lo ≤ i ∧ i < i then minH (A.he i) b else A.he i) b else (if lo ≤ q ∧ q < i then minH (A.he q) b else A.he q)) = A.setHe _
  congr 1
  funext q
  by_cases hq : q = i
  · subst hq
    rw [if_pos rfl, if_neg (by omega), if_pos (by omega)]
  · rw [if_neg hq]
    by_cases h2 : lo ≤ q ∧ q < i
    · rw [if_pos h2, if_pos (by omega)]
    · rw [if_neg h2, if_neg (by omega)]
theorem WF.rd (hW : WF A) (lo hi b : Nat) : WF (rdA A lo hi b) := hW.he (fun q hq => by
  show (if lo ≤ q ∧ q < hi then minH (A.he q) b else A.he q) ≤ 999
  by_cases h : lo ≤ q ∧ q < hi
  · rw [if_pos h]; exact (minH_le _ _).1
  · rw [if_neg h]; exact (hW.2.2 q hq).2)
theorem read_L (Fu : Nat) (hW : WF A) {K b : Nat} (hK : K < A.ns) (hb : b ≤ 1000) : ∀ (fu i : Nat) (he : Ar), A.st K ≤ i → i ≤ A.st (K + 1) → RV (rdA A (A.st K) i b) se le he sa fa ge ns nf sp bo fi → A.st (K + 1) - i < fu → ∃ he', RV (rdA A (A.st K) (A.st (K + 1)) b) se le he' sa fa ge ns nf sp bo fi ∧ ∀ k : Ar → Option (Int32 × Ar × Ar × Ar × Ar × Int32 × Int32 × Int32 × Int32 × (Nat → SV) × Int32 × Int32), f_X3_read_L47 Fu k sa (nI K) (nI b) fu (nI i) he = k he' := by
  have hn := hW.n
  have hm2 := hW.1.le (show K + 1 ≤ A.ns by omega) (Nat.le_refl _)
  have hw' : A.st A.ns ≤ 150 := hW.w
  intro fu
  induction fu with
  | zero => intro i he h1 h2 h h3; omega
  | succ fu ih =>
    intro i he h1 h2 h h3
    have e1 : sa (K + 1) = nI (A.st (K + 1)) := h.rsa (show K + 1 ≤ A.ns by omega)
    by_cases hh : A.st (K + 1) ≤ i
    · have e : i = A.st (K + 1) := by omega
      subst e
      refine ⟨he, h, fun k => ?_⟩
      rw [f_X3_read_L47_s]
      simp (disch := omega) only [gd_true, nm_eq, jn_eq, bd1_s, bd2_s, bd3_s, bd4_s, bd5_s, bd6_s, bd7_s, bd8_s, bd9_s, bd10_s, bd11_s, bd12_s, nI_add, pk_mul, pk_subs, nI_m1s, ix_nIs, nI_clamps, nI_les, nI_lts, nI_eqs, bz_0, bz_1, nI_zero, eq_self, if_true, if_false, e1, if_pos (Nat.le_refl _)]
    · have hp : i < A.wn := by unfold Sh.wn; omega
      obtain ⟨he1, w1, w2⟩ := warm_s (Fu := Fu) (hW.rd (A.st K) i b) h hp hb
      rw [rd_s A (A.st K) i b h1] at w2
      obtain ⟨he2, r1, r2⟩ := ih (i + 1) he1 (by omega) (by omega) w2 (by omega)
      refine ⟨he2, r1, fun k => ?_⟩
      rw [← r2 k, f_X3_read_L47_s]
      simp (disch := omega) only [gd_true, nm_eq, jn_eq, bd1_s, bd2_s, bd3_s, bd4_s, bd5_s, bd6_s, bd7_s, bd8_s, bd9_s, bd10_s, bd11_s, bd12_s, nI_add, pk_mul, pk_subs, nI_m1s, ix_nIs, nI_clamps, nI_les, nI_lts, nI_eqs, bz_0, bz_1, nI_zero, eq_self, if_true, if_false, e1, w1, if_neg hh]
theorem read4_L (Fu : Nat) (hF : 20000000 ≤ Fu) (hW : WF A) {K b : Nat} (hK : K < A.ns) (hb : b ≤ 1000) : ∀ (fu i : Nat) (s : Ar), A.st K + i ≤ A.st (K + 1) → RS (rdA A (A.st K) (A.st K + i) b) s → A.st (K + 1) - A.st K - i < fu → ∃ s', RS (rdA A (A.st K) (A.st (K + 1)) b) s' ∧ ∀ k : Ar → Option (Int32 × Ar × Ar × Int32), f_X4_read_L29 Fu k (nI K) (nI b) fu (nI i) s = k s' := by
  have hn := hW.n
  have hm2 := hW.1.le (show K + 1 ≤ A.ns by omega) (Nat.le_refl _)
  have hw' : A.st A.ns ≤ 150 := hW.w
  intro fu
  induction fu with
  | zero => intro i s h1 h h3; omega
  | succ fu ih =>
    intro i s h1 h h3
    have e1 : s (9 + K) = nI (A.st (K + 1) - A.st K) := h.rlo (show K < A.ns from hK)
    have e2 : f_X4_first Fu s (nI K) = some (nI (A.st K)) := first_r hF (hW.rd (A.st K) (A.st K + i) b) h (show K ≤ A.ns by omega)
    by_cases hh : A.st (K + 1) - A.st K ≤ i
    · have e : A.st K + i = A.st (K + 1) := by omega
      rw [e] at h
      refine ⟨s, h, fun k => ?_⟩
      rw [f_X4_read_L29_s]
      simp (disch := omega) only [gd_true, nm_eq, jn_eq, bd1_s, bd2_s, bd3_s, bd4_s, bd5_s, bd6_s, bd7_s, bd8_s, bd9_s, bd10_s, bd11_s, bd12_s, nI_add, pk_mul, pk_subs, nI_m1s, ix_nIs, nI_clamps, nI_les, nI_lts, nI_eqs, bz_0, bz_1, nI_zero, eq_self, if_true, if_false, e1, if_pos hh]
    · have hp : A.st K + i < A.wn := by unfold Sh.wn; omega
      obtain ⟨s1, w1, w2⟩ := warm4_s (Fu := Fu) (hW.rd (A.st K) (A.st K + i) b) h hp hb
      rw [rd_s A (A.st K) (A.st K + i) b (by omega)] at w2
      obtain ⟨s2, r1, r2⟩ := ih (i + 1) s1 (by omega) w2 (by omega)
      refine ⟨s2, r1, fun k => ?_⟩
      rw [← r2 k, f_X4_read_L29_s]
      simp (disch := omega) only [gd_true, nm_eq, jn_eq, bd1_s, bd2_s, bd3_s, bd4_s, bd5_s, bd6_s, bd7_s, bd8_s, bd9_s, bd10_s, bd11_s, bd12_s, nI_add, pk_mul, pk_subs, nI_m1s, ix_nIs, nI_clamps, nI_les, nI_lts, nI_eqs, bz_0, bz_1, nI_zero, eq_self, if_true, if_false, e1, e2, w1, if_neg hh]
theorem sim_read (hF : 100000000 ≤ Fu) (hW : WF A) (hM : A.sp ≤ M) (h : RV A se le he sa fa ge ns nf sp bo fi) (g : RS A s) (hH : HR M hs o z hv be) (p b : Int32) :
    ∃ r B hs' o' z' hv' be' he' sa' fa' ge' ns' sp' bo' fi' s', WF B ∧ B.sp ≤ M + 12 ∧ RV B se le he' sa' fa' ge' ns' nf sp' bo' fi' ∧ RS B s' ∧ HR M hs' o' z' hv' be' ∧
      f_X3_read Fu se le he sa fa ge ns nf sp bo fi hv (nI o) (nI z) p b = some (r, he', sa', fa', ge', ns', sp', bo', fi', hv', nI o', nI z') ∧ f_X4_read Fu s be (nI z) p b = some (r, s', be', nI z') := by
  have hn := hW.n
  have a1 := hasStory_s Fu p (show A.ns < 1000000 by omega)
  have a2 := isStory_s Fu p g.rns (show A.ns < 1000000 by omega)
  rw [← h.rns] at a1
  unfold f_X3_read f_X4_read
  rw [a1, a2, bd1_s, bd1_s]
  by_cases hq : isS A.ns p = true
  · rw [if_pos hq, if_neg one_ne, if_neg one_ne, isWithin_s, in4_s, bd1_s, bd1_s]
    by_cases hb : nI 1 ≤ b ∧ b ≤ nI 50
    · rw [if_pos hb, if_neg one_ne, if_neg one_ne]
      obtain ⟨k, hk, rfl⟩ := isS_t hq (by omega)
      obtain ⟨c, hc1, hc2, rfl⟩ := rng hb (by omega) (by omega)
      have hw' : A.st A.ns ≤ 150 := hW.w
      have hm2 := hW.1.le (show k + 1 ≤ A.ns by omega) (Nat.le_refl _)
      have hm := hW.1.2.2.1 k hk
      have e1 := h.rsa (show k ≤ A.ns by omega)
      obtain ⟨hs', o', z', hv', be', q1, q2, q3⟩ := rec_sim (by omega : 20000000 ≤ Fu) hW hM h g hH
      have h0 : RV (rdA A (A.st k) (A.st k) c) se le he sa fa ge ns nf sp bo fi := by rw [rd_0]; exact h
      have g0 : RS (rdA A (A.st k) (A.st k + 0) c) s := by rw [Nat.add_zero, rd_0]; exact g
      obtain ⟨he1, w1, w2⟩ := read_L Fu hW hk (show c ≤ 1000 by omega) Fu (A.st k) he (Nat.le_refl _) (by omega) h0 (by omega)
      obtain ⟨s1, v1, v2⟩ := read4_L Fu (by omega) hW hk (show c ≤ 1000 by omega) Fu 0 s (by omega) g0 (by omega)
      obtain ⟨B, n, he', sa', fa', ge', ns', sp', bo', fi', s', r1, r2, r3, r4, r5, r6, r7⟩ := react_sim hF (hW.rd (A.st k) (A.st (k + 1)) c) w1 v1
      refine ⟨nI n, B, hs', o', z', hv', be', he', sa', fa', ge', ns', sp', bo', fi', s', r3.1, ?_, r4, r5, q1, ?_, ?_⟩
      · have := r3.sp
        have e : (rdA A (A.st k) (A.st (k + 1)) c).sp = A.sp := rfl
        omega
      · rw [q2, bd3_s, ix_nIs (by omega) (by omega), gd_true, nI_clamps (by omega), e1, jn_eq, w2, r6, bd9_s]
      · rw [q3, bd2_s, jn_eq, v2, r7, bd2_s]
    · rw [if_neg hb, if_pos zero_eq, if_pos zero_eq]
      exact ⟨-2, A, hs, o, z, hv, be, he, sa, fa, ge, ns, sp, bo, fi, s, hW, by omega, h, g, hH, rfl, rfl⟩
  · rw [if_neg hq, if_pos zero_eq, if_pos zero_eq]
    exact ⟨-1, A, hs, o, z, hv, be, he, sa, fa, ge, ns, sp, bo, fi, s, hW, by omega, h, g, hH, rfl, rfl⟩
theorem jmax_sub {a b : Nat} (ha : a < 1000000) (hb : b < 1000000) : jmax (nI 0) (nI a - nI b) = nI (a - b) := by
  unfold jmax
  by_cases h : b ≤ a
  · rw [pk_subs h]
    by_cases h2 : a - b = 0
    · rw [h2]; decide
    · rw [if_pos (by rw [nI_lts (by omega) (by omega)]; omega)]
  · have h1 : nI a - nI b < 0 := pk_sneg (by omega) (by omega)
    rw [if_neg (by rw [nI_0]; exact fun z => Int32.lt_irrefl (Int32.lt_trans z h1)), show a - b = 0 by omega]
def coolA (A : Sh) (l i : Nat) : Sh := A.setHe (fun q => if q < i then A.he q - l else A.he q)
theorem cool_0 (A : Sh) (l : Nat) : coolA A l 0 = A := by
  unfold coolA
  have : (fun q => if q < 0 then A.he q - l else A.he q) = A.he := by
    funext q
    rw [if_neg (by omega)]
  rw [this]
  rfl
theorem WF.cool (hW : WF A) (l i : Nat) : WF (coolA A l i) := hW.he (fun q hq => by
  show (if q < i then A.he q - l else A.he q) ≤ 999
  have := (hW.2.2 q hq).2
  by_cases h : q < i
  · rw [if_pos h]; omega
  · rw [if_neg h]; exact this)
theorem pass_L (Fu : Nat) (hW : WF A) {l d c : Nat} (hd : d ≤ 30) (hc : c ≤ 20) (hl : l = d * c) (h2 : se 2 = nI c) : ∀ (fu i : Nat) (he : Ar), i ≤ A.wn → RV (coolA A l i) se le he sa fa ge ns nf sp bo fi → A.wn - i < fu → ∃ he', RV (coolA A l A.wn) se le he' sa fa ge ns nf sp bo fi ∧ ∀ k : Ar → Option (Int32 × Ar × (Nat → SV) × Int32 × Int32), f_X3_pass_L38 Fu k se sa ns (nI d) fu (nI i) he = k he' := by
  have hw := hW.w
  have hl2 : l ≤ 600 := by
    have := Nat.mul_le_mul hd hc
    omega
  intro fu
  induction fu with
  | zero => intro i he h1 h h3; omega
  | succ fu ih =>
    intro i he h1 h h3
    have e1 : f_X2_words Fu sa ns = some (nI A.wn) := words_r (A := coolA A l i) (hW.cool l i) h
    by_cases hh : A.wn ≤ i
    · have e : i = A.wn := by omega
      subst e
      refine ⟨he, h, fun k => ?_⟩
      rw [f_X3_pass_L38_s]
      simp (disch := omega) only [gd_true, nm_eq, jn_eq, bd1_s, bd2_s, bd3_s, bd4_s, bd5_s, bd6_s, bd7_s, bd8_s, bd9_s, bd10_s, bd11_s, bd12_s, nI_add, pk_mul, pk_subs, nI_m1s, ix_nIs, nI_clamps, nI_les, nI_lts, nI_eqs, bz_0, bz_1, nI_zero, eq_self, if_true, if_false, e1, if_pos (Nat.le_refl _)]
    · have hp : i < A.wn := by omega
      have e2 : he i = nI (A.he i) := by
        have := h.rhe (show i < (coolA A l i).wn from hp)
        rw [this]
        show nI (if i < i then A.he i - l else A.he i) = nI (A.he i)
        rw [if_neg (by omega)]
      have b1 := (hW.2.2 i hp).2
      have w2 : RV (coolA A l (i + 1)) se le (upd he i (nI (A.he i - l))) sa fa ge ns nf sp bo fi := by
        refine ⟨h.1, h.2.1, fun q hq => ?_, h.2.2.2⟩
        show upd he i (nI (A.he i - l)) q = nI (if q < i + 1 then A.he q - l else A.he q)
        by_cases hqi : q = i
        · subst hqi; rw [upd_eq, if_pos (by omega)]
        · rw [upd_ne hqi]
          have := h.rhe (show q < (coolA A l i).wn from hq)
          rw [this]
          show nI (if q < i then A.he q - l else A.he q) = _
          by_cases h5 : q < i
          · rw [if_pos h5, if_pos (by omega)]
          · rw [if_neg h5, if_neg (by omega)]
      obtain ⟨he2, r1, r2⟩ := ih (i + 1) _ (by omega) w2 (by omega)
      refine ⟨he2, r1, fun k => ?_⟩
      have e3 := jmax_sub (show A.he i < 1000000 by omega) (show l < 1000000 by omega)
      rw [← r2 k, f_X3_pass_L38_s]
      simp (disch := omega) only [gd_true, nm_eq, jn_eq, bd1_s, bd2_s, bd3_s, bd4_s, bd5_s, bd6_s, bd7_s, bd8_s, bd9_s, bd10_s, bd11_s, bd12_s, nI_add, pk_mul, pk_subs, nI_m1s, ix_nIs, nI_clamps, nI_les, nI_lts, nI_eqs, bz_0, bz_1, nI_zero, eq_self, if_true, if_false, e1, e2, h2, ← hl, e3, if_neg hh]
theorem pass4_L (Fu : Nat) (hW : WF A) {l d c : Nat} (hd : d ≤ 30) (hc : c ≤ 20) (hl : l = d * c) {s0 : Ar} (h2 : s0 2 = nI c) : ∀ (fu i : Nat) (s : Ar), i ≤ A.wn → RS (coolA A l i) s → A.wn - i < fu → ∃ s', RS (coolA A l A.wn) s' ∧ ∀ k : Ar → Option (Int32 × Ar × Ar × Int32), f_X4_pass_L28 Fu k s0 (nI d) fu (nI i) s = k s' := by
  have hw := hW.w
  have hl2 : l ≤ 600 := by
    have := Nat.mul_le_mul hd hc
    omega
  intro fu
  induction fu with
  | zero => intro i s h1 h h3; omega
  | succ fu ih =>
    intro i s h1 h h3
    have e1 : s 4 = nI A.wn := h.rwn
    by_cases hh : A.wn ≤ i
    · have e : i = A.wn := by omega
      subst e
      refine ⟨s, h, fun k => ?_⟩
      rw [f_X4_pass_L28_s]
      simp (disch := omega) only [gd_true, nm_eq, jn_eq, bd1_s, bd2_s, bd3_s, bd4_s, bd5_s, bd6_s, bd7_s, bd8_s, bd9_s, bd10_s, bd11_s, bd12_s, nI_add, pk_mul, pk_subs, nI_m1s, ix_nIs, nI_clamps, nI_les, nI_lts, nI_eqs, bz_0, bz_1, nI_zero, eq_self, if_true, if_false, e1, if_pos (Nat.le_refl _)]
    · have hp : i < A.wn := by omega
      have e2 : s (195 + i) = nI (A.he i) := by
        have := h.rhe (show i < (coolA A l i).wn from hp)
        rw [this]
        show nI (if i < i then A.he i - l else A.he i) = nI (A.he i)
        rw [if_neg (by omega)]
      have b1 := (hW.2.2 i hp).2
      have w2 : RS (coolA A l (i + 1)) (upd s (195 + i) (nI (A.he i - l))) := by
        have := h.setHe (hW.cool l i) (g := fun q => if q < i + 1 then A.he q - l else A.he q) (s' := upd s (195 + i) (nI (A.he i - l))) (fun j hj => upd_ne (by omega)) (fun q hq => by
          by_cases hqi : q = i
          · subst hqi; rw [upd_eq, if_pos (by omega)]
          · rw [upd_ne (by omega)]
            have := h.rhe hq
            rw [this]
            show nI (if q < i then A.he q - l else A.he q) = _
            by_cases h5 : q < i
            · rw [if_pos h5, if_pos (by omega)]
            · rw [if_neg h5, if_neg (by omega)])
        exact this
      obtain ⟨s2, r1, r2⟩ := ih (i + 1) _ (by omega) w2 (by omega)
      refine ⟨s2, r1, fun k => ?_⟩
      rw [← r2 k, f_X4_pass_L28_s]
      by_cases hc2 : A.he i ≤ l
      · rw [show A.he i - l = A.he i - A.he i by omega]
        simp (disch := omega) only [gd_true, nm_eq, jn_eq, bd1_s, bd2_s, bd3_s, bd4_s, bd5_s, bd6_s, bd7_s, bd8_s, bd9_s, bd10_s, bd11_s, bd12_s, nI_add, pk_mul, pk_subs, nI_m1s, ix_nIs, nI_clamps, nI_les, nI_lts, nI_eqs, bz_0, bz_1, nI_zero, eq_self, if_true, if_false, e1, e2, h2, ← hl, if_neg hh, if_pos hc2]
      · simp (disch := omega) only [gd_true, nm_eq, jn_eq, bd1_s, bd2_s, bd3_s, bd4_s, bd5_s, bd6_s, bd7_s, bd8_s, bd9_s, bd10_s, bd11_s, bd12_s, nI_add, pk_mul, pk_subs, nI_m1s, ix_nIs, nI_clamps, nI_les, nI_lts, nI_eqs, bz_0, bz_1, nI_zero, eq_self, if_true, if_false, e1, e2, h2, ← hl, if_neg hh, if_neg hc2]
theorem sim_pass (hF : 100000000 ≤ Fu) (hW : WF A) (hM : A.sp ≤ M) (h : RV A se le he sa fa ge ns nf sp bo fi) (g : RS A s) (hH : HR M hs o z hv be) (p : Int32) :
    ∃ r B hs' o' z' hv' be' he' s', WF B ∧ B.sp ≤ M ∧ RV B se le he' sa fa ge ns nf sp bo fi ∧ RS B s' ∧ HR M hs' o' z' hv' be' ∧
      f_X3_pass Fu se le he sa fa ge ns nf sp bo fi hv (nI o) (nI z) p = some (r, he', hv', nI o', nI z') ∧ f_X4_pass Fu s be (nI z) p = some (r, s', be', nI z') := by
  have hw := hW.w
  unfold f_X3_pass f_X4_pass
  rw [isWithin_s, in4_s, bd1_s, bd1_s]
  by_cases hb : nI 1 ≤ p ∧ p ≤ nI 30
  · rw [if_pos hb, if_neg one_ne, if_neg one_ne]
    obtain ⟨d, hd1, hd2, rfl⟩ := rng hb (by omega) (by omega)
    have hc := hW.2.1.2.2.2
    obtain ⟨hs', o', z', hv', be', q1, q2, q3⟩ := rec_sim (by omega : 20000000 ≤ Fu) hW hM h g hH
    have h0 : RV (coolA A (d * A.se 2) 0) se le he sa fa ge ns nf sp bo fi := by rw [cool_0]; exact h
    have g0 : RS (coolA A (d * A.se 2) 0) s := by rw [cool_0]; exact g
    obtain ⟨he1, w1, w2⟩ := pass_L Fu hW hd2 hc rfl (h.rse (show 2 < 3 by omega)) Fu 0 he (Nat.zero_le _) h0 (by omega)
    obtain ⟨s1, v1, v2⟩ := pass4_L Fu hW hd2 hc rfl (g.rse (show 2 < 3 by omega)) Fu 0 s (Nat.zero_le _) g0 (by omega)
    have e1 := heatOfAll_s (by omega : 20000000 ≤ Fu) (hW.cool (d * A.se 2) A.wn) w1
    have e2 := allHeat_s (by omega : 20000000 ≤ Fu) (hW.cool (d * A.se 2) A.wn) v1
    refine ⟨heatR (coolA A (d * A.se 2) A.wn).he 0 (coolA A (d * A.se 2) A.wn).wn, coolA A (d * A.se 2) A.wn, hs', o', z', hv', be', he1, s1, hW.cool _ _, hM, w1, v1, q1, ?_, ?_⟩
    · rw [q2, bd3_s, jn_eq, w2, e1, bd1_s]
    · rw [q3, bd2_s, jn_eq, v2, e2, bd1_s]
  · rw [if_neg hb, if_pos zero_eq, if_pos zero_eq]
    exact ⟨-2, A, hs, o, z, hv, be, he, s, hW, hM, h, g, hH, rfl, rfl⟩
end CH
end
section
/-! PURE: a story is taken away, both sides; burn -/
def Sh.sz (A : Sh) (K : Nat) : Nat := A.st (K + 1) - A.st K
def removeA (A : Sh) (K : Nat) : Sh := Sh.mk A.se (A.ns - 1) (fun k => if k ≤ K then A.st k else A.st (k + 1) - A.sz K) (fun p => if p < A.st K then A.le p else A.le (p + A.sz K)) (fun p => if p < A.st K then A.he p else A.he (p + A.sz K)) (fun k => if k < K then A.fa k else A.fa (k + 1)) (fun k => if k < K then A.ge k else A.ge (k + 1)) A.nf A.sp A.bo A.fi
theorem rm_st {A : Sh} {K k : Nat} : (removeA A K).st k = if k ≤ K then A.st k else A.st (k + 1) - A.sz K := rfl
theorem rm_le {A : Sh} {K k : Nat} : (removeA A K).le k = if k < A.st K then A.le k else A.le (k + A.sz K) := rfl
theorem rm_he {A : Sh} {K k : Nat} : (removeA A K).he k = if k < A.st K then A.he k else A.he (k + A.sz K) := rfl
theorem rm_fa {A : Sh} {K k : Nat} : (removeA A K).fa k = if k < K then A.fa k else A.fa (k + 1) := rfl
theorem rm_ge {A : Sh} {K k : Nat} : (removeA A K).ge k = if k < K then A.ge k else A.ge (k + 1) := rfl
theorem rm_ns {A : Sh} {K : Nat} : (removeA A K).ns = A.ns - 1 := rfl
theorem rm_wn {A : Sh} (hW : WF A) {K : Nat} (hK : K < A.ns) : (removeA A K).wn = A.wn - A.sz K := by
  show (removeA A K).st (A.ns - 1) = A.st A.ns - A.sz K
  rw [rm_st]
  by_cases h : A.ns - 1 ≤ K
  · have e : A.ns = K + 1 := by omega
    have := hW.1.2.2.1 K hK
    rw [if_pos h, e, Nat.add_sub_cancel]
    unfold Sh.sz
    omega
  · rw [if_neg h, show A.ns - 1 + 1 = A.ns by omega]
theorem WF.sz {A : Sh} (hW : WF A) {K : Nat} (hK : K < A.ns) : 0 < A.sz K ∧ A.st K + A.sz K = A.st (K + 1) ∧ A.st (K + 1) ≤ A.wn := by
  have h1 := hW.1.2.2.1 K hK
  have h2 : A.st (K + 1) ≤ A.st A.ns := hW.1.le (show K + 1 ≤ A.ns by omega) (Nat.le_refl _)
  refine ⟨?_, ?_, h2⟩ <;> unfold Sh.sz <;> omega
theorem WF.remove {A : Sh} (hW : WF A) {K : Nat} (hK : K < A.ns) : WF (removeA A K) := by
  have hn := hW.n
  obtain ⟨z1, z2, z3⟩ := hW.sz hK
  have hw := hW.w
  refine ⟨⟨by show A.ns - 1 ≤ 12; omega, ?_, fun k (hk : k < A.ns - 1) => ?_, ?_⟩, hW.2.1, fun q hq => ?_⟩
  · rw [rm_st, if_pos (Nat.zero_le _)]; exact hW.1.2.1
  · rw [rm_st, rm_st]
    by_cases h : k + 1 ≤ K
    · rw [if_pos (by omega), if_pos h]; exact hW.1.2.2.1 k (by omega)
    · by_cases h2 : k = K
      · subst h2
        have := hW.1.2.2.1 (k + 1) (by omega)
        rw [if_pos (Nat.le_refl _), if_neg h]
        omega
      · have h3 := hW.1.2.2.1 (k + 1) (by omega)
        have h4 := hW.1.le (show K + 1 ≤ k + 1 by omega) (show k + 1 ≤ A.ns by omega)
        rw [if_neg (by omega), if_neg h]
        omega
  · have : (removeA A K).wn ≤ 150 := by rw [rm_wn hW hK]; omega
    exact this
  · rw [rm_wn hW hK] at hq
    rw [rm_le, rm_he]
    by_cases h : q < A.st K
    · rw [if_pos h, if_pos h]; exact hW.2.2 q (by omega)
    · rw [if_neg h, if_neg h]; exact hW.2.2 (q + A.sz K) (by omega)
def rmSt (sa : Ar) (n K i : Nat) : Ar := fun k => if K ≤ k ∧ k < i then sa (k + 1) - nI n else sa k
theorem rmSt_step (sa : Ar) {n K i : Nat} (h : K ≤ i) : upd (rmSt sa n K i) i (rmSt sa n K i (i + 1) - nI n) = rmSt sa n K (i + 1) := by
  have e : rmSt sa n K i (i + 1) = sa (i + 1) := by unfold rmSt; rw [if_neg (by omega)]
  rw [e]
  funext j
  unfold upd
  by_cases h1 : j = i
  · subst h1; unfold rmSt; rw [if_pos rfl, if_pos (by omega)]
  · unfold rmSt
    by_cases h2 : K ≤ j ∧ j < i
    · rw [if_neg h1, if_pos h2, if_pos (by omega)]
    · rw [if_neg h1, if_neg h2, if_neg (by omega)]
section RMV
variable {Fu : Nat} {A : Sh} {se le he sa fa ge : Ar} {ns nf sp bo fi : Int32}
theorem remove_L (Fu : Nat) (k : Ar → Option (Ar × Ar × Ar × Ar × Ar × Int32)) {K a b n m : Nat} (hm : m ≤ 12) (ha : sa K = nI a) (hab : b = a + n) (hb : b ≤ 150) : ∀ (fu i : Nat), K ≤ i → i ≤ m → m - i < fu → f_X2_remove_L101 Fu k sa (nI m) (nI K) (nI b) fu (nI i) (rmSt sa n K i) = k (rmSt sa n K m) := by
  intro fu
  induction fu with
  | zero => intro i h1 h2 h3; omega
  | succ fu ih =>
    intro i h1 h2 h3
    rw [f_X2_remove_L101_s]
    by_cases hh : m ≤ i
    · have e : i = m := by omega
      subst e
      simp (disch := omega) only [gd_true, nm_eq, jn_eq, bd1_s, bd2_s, bd3_s, bd4_s, bd5_s, bd6_s, bd7_s, bd8_s, bd9_s, bd10_s, bd11_s, bd12_s, nI_add, pk_mul, pk_subs, nI_m1s, ix_nIs, nI_clamps, nI_les, nI_lts, nI_eqs, bz_0, bz_1, nI_zero, eq_self, if_true, if_false, if_pos (Nat.le_refl _)]
    · have e2 : b - a = n := by omega
      rw [← ih (i + 1) (by omega) (by omega) (by omega), ← rmSt_step sa h1]
      simp (disch := omega) only [gd_true, nm_eq, jn_eq, bd1_s, bd2_s, bd3_s, bd4_s, bd5_s, bd6_s, bd7_s, bd8_s, bd9_s, bd10_s, bd11_s, bd12_s, nI_add, pk_mul, pk_subs, nI_m1s, ix_nIs, nI_clamps, nI_les, nI_lts, nI_eqs, bz_0, bz_1, nI_zero, eq_self, if_true, if_false, if_neg hh, ha, e2]
theorem remove_s (hF : 20000000 ≤ Fu) (hW : WF A) (h : RV A se le he sa fa ge ns nf sp bo fi) {K : Nat} (hK : K < A.ns) : ∃ le' he' sa' fa' ge', f_X2_remove Fu le he sa fa ge ns (nI K) = some (le', he', sa', fa', ge', nI (A.ns - 1)) ∧ RV (removeA A K) se le' he' sa' fa' ge' (nI (A.ns - 1)) nf sp bo fi := by
  have hn := hW.n
  have hw := hW.w
  obtain ⟨z1, z2, z3⟩ := hW.sz hK
  have e1 := h.rsa (show K ≤ A.ns by omega)
  have e2 := h.rsa (show K + 1 ≤ A.ns by omega)
  have e3 := words_r (Fu := Fu) hW h
  have c1 := cpok_s (n0 := 150) (n1 := 150) (a := A.st (K + 1)) (b := A.st K) (c := A.wn - A.st (K + 1)) (by omega) (by omega) (by omega) (by omega)
  have c2 := cpok_s (n0 := 12) (n1 := 12) (a := K + 1) (b := K) (c := A.ns - 1 - K) (by omega) (by omega) (by omega) (by omega)
  have r0 : rmSt sa (A.sz K) K K = sa := by
    funext j
    unfold rmSt
    rw [if_neg (by omega)]
  have el : ∀ k, f_X2_remove_L101 Fu k sa (nI A.ns) (nI K) (nI (A.st (K + 1))) Fu (nI K) sa = k (rmSt sa (A.sz K) K A.ns) := fun k => by
    have := remove_L (sa := sa) Fu k (K := K) (a := A.st K) (b := A.st (K + 1)) (n := A.sz K) (m := A.ns) (by omega) e1 z2.symm (by omega) Fu K (Nat.le_refl _) (by omega) (by omega)
    rw [r0] at this
    exact this
  refine ⟨cpA le le (nI (A.st (K + 1))) (nI (A.st K)) (nI (A.wn - A.st (K + 1))), cpA he he (nI (A.st (K + 1))) (nI (A.st K)) (nI (A.wn - A.st (K + 1))), rmSt sa (A.sz K) K A.ns, cpA fa fa (nI (K + 1)) (nI K) (nI (A.ns - 1 - K)), cpA ge ge (nI (K + 1)) (nI K) (nI (A.ns - 1 - K)), ?_, ?_⟩
  · have hns := h.rns
    rw [hns] at e3
    rw [hns]
    unfold f_X2_remove
    simp (disch := omega) only [gd_true, nm_eq, jn_eq, bd1_s, bd2_s, bd3_s, bd4_s, bd5_s, bd6_s, bd7_s, bd8_s, bd9_s, bd10_s, bd11_s, bd12_s, nI_add, pk_mul, pk_subs, nI_m1s, ix_nIs, nI_clamps, nI_les, nI_lts, nI_eqs, bz_0, bz_1, nI_zero, eq_self, if_true, if_false, e1, e2, e3, c1, c2, el]
  · refine ⟨h.1, fun p hp => ?_, fun p hp => ?_, fun k (hk : k ≤ A.ns - 1) => ?_, fun k (hk : k < A.ns - 1) => ?_, fun k (hk : k < A.ns - 1) => ?_, rfl, h.rnf, h.rsp, h.rbo, h.rfi⟩
    · rw [rm_wn hW hK] at hp
      rw [cpA_pt (by omega) (by omega) (by omega), rm_le]
      by_cases c : p < A.st K
      · rw [if_neg (by omega), if_pos c]; exact h.rle (by omega)
      · rw [if_pos (by omega), if_neg c, show A.st (K + 1) + (p - A.st K) = p + A.sz K by omega]; exact h.rle (by omega)
    · rw [rm_wn hW hK] at hp
      rw [cpA_pt (by omega) (by omega) (by omega), rm_he]
      by_cases c : p < A.st K
      · rw [if_neg (by omega), if_pos c]; exact h.rhe (by omega)
      · rw [if_pos (by omega), if_neg c, show A.st (K + 1) + (p - A.st K) = p + A.sz K by omega]; exact h.rhe (by omega)
    · rw [rm_st]
      unfold rmSt
      by_cases c : K ≤ k ∧ k < A.ns
      · have q := hW.1.le (show K + 1 ≤ k + 1 by omega) (show k + 1 ≤ A.ns by omega)
        rw [if_pos c, h.rsa (by omega), pk_subs (by omega)]
        by_cases c2 : k ≤ K
        · have e : k = K := by omega
          subst e
          rw [if_pos c2]
          congr 1
          omega
        · rw [if_neg c2]
      · rw [if_neg c]
        by_cases c2 : k ≤ K
        · rw [if_pos c2]; exact h.rsa (by omega)
        · exfalso; omega
    · rw [cpA_pt (by omega) (by omega) (by omega), rm_fa]
      by_cases c : k < K
      · rw [if_neg (by omega), if_pos c]; exact h.rfa (by omega)
      · rw [if_pos (by omega), if_neg c, show K + 1 + (k - K) = k + 1 by omega]; exact h.rfa (by omega)
    · rw [cpA_pt (by omega) (by omega) (by omega), rm_ge]
      by_cases c : k < K
      · rw [if_neg (by omega), if_pos c]; exact h.rge (by omega)
      · rw [if_pos (by omega), if_neg c, show K + 1 + (k - K) = k + 1 by omega]; exact h.rge (by omega)
end RMV
def rwF (s : Ar) (n b i : Nat) : Ar := fun j => if (45 + b ≤ j ∧ j < 45 + i) ∨ (195 + b ≤ j ∧ j < 195 + i) then s (j + n) else s j
theorem rwF_step (s : Ar) {n b i : Nat} (h : b ≤ i) (hi : i + n < 150) : upd (upd (rwF s n b i) (45 + i) (rwF s n b i (45 + i + n))) (195 + i) ((upd (rwF s n b i) (45 + i) (rwF s n b i (45 + i + n))) (195 + i + n)) = rwF s n b (i + 1) := by
  have e1 : rwF s n b i (45 + i + n) = s (45 + i + n) := by unfold rwF; rw [if_neg (by omega)]
  have e2 : rwF s n b i (195 + i + n) = s (195 + i + n) := by unfold rwF; rw [if_neg (by omega)]
  rw [upd_ne (show 195 + i + n ≠ 45 + i by omega), e1, e2]
  funext j
  unfold upd
  by_cases h2 : j = 195 + i
  · subst h2; unfold rwF; rw [if_pos rfl, if_pos (by omega)]
  · rw [if_neg h2]
    by_cases h1 : j = 45 + i
    · subst h1; unfold rwF; rw [if_pos rfl, if_pos (by omega)]
    · rw [if_neg h1]
      unfold rwF
      by_cases hc : (45 + b ≤ j ∧ j < 45 + i) ∨ (195 + b ≤ j ∧ j < 195 + i)
      · rw [if_pos hc, if_pos (by omega)]
      · rw [if_neg hc, if_neg (by omega)]
theorem rwF_0 (s : Ar) (n b : Nat) : rwF s n b b = s := by
  funext j
  unfold rwF
  rw [if_neg (by omega)]
theorem removeWords_L (Fu : Nat) (k : Ar → Option Ar) (s : Ar) {n b m : Nat} (hm : m + n ≤ 150) (h4 : s 4 = nI m) : ∀ (fu i : Nat), b ≤ i → i ≤ m → m - i < fu → f_X4_removeWords_L12 Fu k (nI n) fu (nI i) (rwF s n b i) = k (rwF s n b m) := by
  intro fu
  induction fu with
  | zero => intro i h1 h2 h3; omega
  | succ fu ih =>
    intro i h1 h2 h3
    have e4 : rwF s n b i 4 = nI m := by unfold rwF; rw [if_neg (by omega)]; exact h4
    rw [f_X4_removeWords_L12_s]
    by_cases hh : m ≤ i
    · have e : i = m := by omega
      subst e
      simp (disch := omega) only [gd_true, nm_eq, jn_eq, bd1_s, bd2_s, bd3_s, bd4_s, bd5_s, bd6_s, bd7_s, bd8_s, bd9_s, bd10_s, bd11_s, bd12_s, nI_add, pk_mul, pk_subs, nI_m1s, ix_nIs, nI_clamps, nI_les, nI_lts, nI_eqs, bz_0, bz_1, nI_zero, eq_self, if_true, if_false, e4, if_pos (Nat.le_refl _)]
    · rw [← ih (i + 1) (by omega) (by omega) (by omega), ← rwF_step s h1 (by omega)]
      simp (disch := omega) only [gd_true, nm_eq, jn_eq, bd1_s, bd2_s, bd3_s, bd4_s, bd5_s, bd6_s, bd7_s, bd8_s, bd9_s, bd10_s, bd11_s, bd12_s, nI_add, pk_mul, pk_subs, nI_m1s, ix_nIs, nI_clamps, nI_les, nI_lts, nI_eqs, bz_0, bz_1, nI_zero, eq_self, if_true, if_false, if_neg hh, e4]
theorem removeWords_s {Fu : Nat} (hF : 20000000 ≤ Fu) {s : Ar} {n b m : Nat} (hm : m + n ≤ 150) (hb : b ≤ m) (h4 : s 4 = nI (m + n)) : f_X4_removeWords Fu s (nI b) (nI n) = some (rwF (upd s 4 (nI m)) n b m) := by
  have e := removeWords_L Fu (fun q => some q) (upd s 4 (nI m)) (n := n) (b := b) hm upd_eq Fu b (Nat.le_refl _) hb (by omega)
  rw [rwF_0] at e
  unfold f_X4_removeWords
  rw [jn_eq, h4, pk_subs (by omega), Nat.add_sub_cancel]
  exact e
def rsF (s : Ar) (K i : Nat) : Ar := fun j => if (9 + K ≤ j ∧ j < 9 + i) ∨ (21 + K ≤ j ∧ j < 21 + i) ∨ (33 + K ≤ j ∧ j < 33 + i) then s (j + 1) else s j
theorem rsF_step (s : Ar) {K i : Nat} (h : K ≤ i) (hi : i + 1 < 12) : upd (upd (upd (rsF s K i) (9 + i) (rsF s K i (9 + i + 1))) (21 + i) ((upd (rsF s K i) (9 + i) (rsF s K i (9 + i + 1))) (21 + i + 1))) (33 + i) ((upd (upd (rsF s K i) (9 + i) (rsF s K i (9 + i + 1))) (21 + i) ((upd (rsF s K i) (9 + i) (rsF s K i (9 + i + 1))) (21 + i + 1))) (33 + i + 1)) = rsF s K (i + 1) := by
  have e1 : rsF s K i (9 + i + 1) = s (9 + i + 1) := by unfold rsF; rw [if_neg (by omega)]
  have e2 : rsF s K i (21 + i + 1) = s (21 + i + 1) := by unfold rsF; rw [if_neg (by omega)]
  have e3 : rsF s K i (33 + i + 1) = s (33 + i + 1) := by unfold rsF; rw [if_neg (by omega)]
  rw [upd_ne (show 33 + i + 1 ≠ 21 + i by omega), upd_ne (show 33 + i + 1 ≠ 9 + i by omega), upd_ne (show 21 + i + 1 ≠ 9 + i by omega), e1, e2, e3]
  funext j
  unfold upd
  by_cases h3 : j = 33 + i
  · subst h3; unfold rsF; rw [if_pos rfl, if_pos (by omega)]
  · rw [if_neg h3]
    by_cases h2 : j = 21 + i
    · subst h2; unfold rsF; rw [if_pos rfl, if_pos (by omega)]
    · rw [if_neg h2]
      by_cases h1 : j = 9 + i
      · subst h1; unfold rsF; rw [if_pos rfl, if_pos (by omega)]
      · rw [if_neg h1]
        unfold rsF
        by_cases hc : (9 + K ≤ j ∧ j < 9 + i) ∨ (21 + K ≤ j ∧ j < 21 + i) ∨ (33 + K ≤ j ∧ j < 33 + i)
        · rw [if_pos hc, if_pos (by omega)]
        · rw [if_neg hc, if_neg (by omega)]
theorem rsF_0 (s : Ar) (K : Nat) : rsF s K K = s := by
  funext j
  unfold rsF
  rw [if_neg (by omega)]
theorem removeStory_L (Fu : Nat) (k : Ar → Option Ar) (s : Ar) {K m : Nat} (hm : m < 12) (h3 : s 3 = nI m) : ∀ (fu i : Nat), K ≤ i → i ≤ m → m - i < fu → f_X4_removeStory_L12 Fu k fu (nI i) (rsF s K i) = k (rsF s K m) := by
  intro fu
  induction fu with
  | zero => intro i h1 h2 h3; omega
  | succ fu ih =>
    intro i h1 h2 h5
    have e3 : rsF s K i 3 = nI m := by unfold rsF; rw [if_neg (by omega)]; exact h3
    rw [f_X4_removeStory_L12_s]
    by_cases hh : m ≤ i
    · have e : i = m := by omega
      subst e
      simp (disch := omega) only [gd_true, nm_eq, jn_eq, bd1_s, bd2_s, bd3_s, bd4_s, bd5_s, bd6_s, bd7_s, bd8_s, bd9_s, bd10_s, bd11_s, bd12_s, nI_add, pk_mul, pk_subs, nI_m1s, ix_nIs, nI_clamps, nI_les, nI_lts, nI_eqs, bz_0, bz_1, nI_zero, eq_self, if_true, if_false, e3, if_pos (Nat.le_refl _)]
    · rw [← ih (i + 1) (by omega) (by omega) (by omega), ← rsF_step s h1 (by omega)]
      simp (disch := omega) only [gd_true, nm_eq, jn_eq, bd1_s, bd2_s, bd3_s, bd4_s, bd5_s, bd6_s, bd7_s, bd8_s, bd9_s, bd10_s, bd11_s, bd12_s, nI_add, pk_mul, pk_subs, nI_m1s, ix_nIs, nI_clamps, nI_les, nI_lts, nI_eqs, bz_0, bz_1, nI_zero, eq_self, if_true, if_false, if_neg hh, e3]
theorem removeStory_s {Fu : Nat} (hF : 20000000 ≤ Fu) {s : Ar} {K m : Nat} (hm : m < 12) (hK : K ≤ m) (h3 : s 3 = nI (m + 1)) : f_X4_removeStory Fu s (nI K) = some (rsF (upd s 3 (nI m)) K m) := by
  have e := removeStory_L Fu (fun q => some q) (upd s 3 (nI m)) (K := K) hm upd_eq Fu K (Nat.le_refl _) hK (by omega)
  rw [rsF_0] at e
  unfold f_X4_removeStory
  rw [jn_eq, h3, pk_subs (by omega), Nat.add_sub_cancel]
  exact e
/-- words, then story: what the reference holds afterwards -/
theorem remove4_s {Fu : Nat} (hF : 20000000 ≤ Fu) {A : Sh} {s : Ar} (hW : WF A) (h : RS A s) {K : Nat} (hK : K < A.ns) : ∃ s1 s2, f_X4_removeWords Fu s (nI (A.st K)) (nI (A.sz K)) = some s1 ∧ f_X4_removeStory Fu s1 (nI K) = some s2 ∧ RS (removeA A K) s2 := by
  have hn := hW.n
  have hw := hW.w
  obtain ⟨z1, z2, z3⟩ := hW.sz hK
  have q1 := removeWords_s hF (s := s) (n := A.sz K) (b := A.st K) (m := A.wn - A.sz K) (by omega) (by omega) (by rw [h.rwn]; congr 1; omega)
  have b3 : rwF (upd s 4 (nI (A.wn - A.sz K))) (A.sz K) (A.st K) (A.wn - A.sz K) 3 = nI (A.ns - 1 + 1) := by
    unfold rwF
    rw [if_neg (by omega), upd_ne (by omega), h.rns]
    congr 1
    omega
  have q2 := removeStory_s hF (s := rwF (upd s 4 (nI (A.wn - A.sz K))) (A.sz K) (A.st K) (A.wn - A.sz K)) (K := K) (m := A.ns - 1) (by omega) (by omega) b3
  refine ⟨_, _, q1, q2, ?_⟩
  have lo : ∀ j, j < 9 → j ≠ 3 → rsF (upd (rwF (upd s 4 (nI (A.wn - A.sz K))) (A.sz K) (A.st K) (A.wn - A.sz K)) 3 (nI (A.ns - 1))) K (A.ns - 1) j = upd s 4 (nI (A.wn - A.sz K)) j := fun j h1 h2 => by
    unfold rsF rwF
    rw [if_neg (by omega), upd_ne h2, if_neg (by omega)]
  have st : ∀ j, 9 ≤ j → j < 45 → (upd (rwF (upd s 4 (nI (A.wn - A.sz K))) (A.sz K) (A.st K) (A.wn - A.sz K)) 3 (nI (A.ns - 1))) j = s j := fun j h1 h2 => by
    unfold rwF
    rw [upd_ne (by omega), if_neg (by omega), upd_ne (by omega)]
  have wd : ∀ j, 45 ≤ j → rsF (upd (rwF (upd s 4 (nI (A.wn - A.sz K))) (A.sz K) (A.st K) (A.wn - A.sz K)) 3 (nI (A.ns - 1))) K (A.ns - 1) j = (if (45 + A.st K ≤ j ∧ j < 45 + (A.wn - A.sz K)) ∨ (195 + A.st K ≤ j ∧ j < 195 + (A.wn - A.sz K)) then s (j + A.sz K) else s j) := fun j h1 => by
    unfold rsF rwF
    rw [if_neg (by omega), upd_ne (by omega)]
    by_cases hc : (45 + A.st K ≤ j ∧ j < 45 + (A.wn - A.sz K)) ∨ (195 + A.st K ≤ j ∧ j < 195 + (A.wn - A.sz K))
    · rw [if_pos hc, if_pos hc, upd_ne (by omega)]
    · rw [if_neg hc, if_neg hc, upd_ne (by omega)]
  refine ⟨fun i hi => ?_, ?_, ?_, ?_, ?_, ?_, ?_, fun k (hk : k < A.ns - 1) => ?_, fun k (hk : k < A.ns - 1) => ?_, fun k (hk : k < A.ns - 1) => ?_, fun p hp => ?_, fun p hp => ?_⟩
  · rw [lo i (by omega) (by omega), upd_ne (by omega)]; exact h.rse hi
  · unfold rsF; rw [if_neg (by omega), upd_eq]; rfl
  · rw [lo 4 (by omega) (by omega), upd_eq, rm_wn hW hK]
  · rw [lo 5 (by omega) (by omega), upd_ne (by omega)]; exact h.rnf
  · rw [lo 6 (by omega) (by omega), upd_ne (by omega)]; exact h.rsp
  · rw [lo 7 (by omega) (by omega), upd_ne (by omega)]; exact h.rbo
  · rw [lo 8 (by omega) (by omega), upd_ne (by omega)]; exact h.rfi
  · rw [rm_st, rm_st]
    unfold rsF
    by_cases c : k < K
    · rw [if_neg (by omega), st _ (by omega) (by omega), if_pos (by omega), if_pos (by omega)]; exact h.rlo (by omega)
    · have q := hW.1.le (show K + 1 ≤ k + 1 by omega) (show k + 1 ≤ A.ns by omega)
      rw [if_pos (by omega), st _ (by omega) (by omega), if_neg (show ¬ k + 1 ≤ K by omega), show 9 + k + 1 = 9 + (k + 1) by omega, h.rlo (by omega)]
      congr 1
      by_cases c2 : k = K
      · subst c2; rw [if_pos (Nat.le_refl _)]; omega
      · rw [if_neg (by omega)]; omega
  · rw [rm_fa]
    unfold rsF
    by_cases c : k < K
    · rw [if_neg (by omega), st _ (by omega) (by omega), if_pos c]; exact h.rfa (by omega)
    · rw [if_pos (by omega), st _ (by omega) (by omega), if_neg c, show 21 + k + 1 = 21 + (k + 1) by omega]; exact h.rfa (by omega)
  · rw [rm_ge]
    unfold rsF
    by_cases c : k < K
    · rw [if_neg (by omega), st _ (by omega) (by omega), if_pos c]; exact h.rge (by omega)
    · rw [if_pos (by omega), st _ (by omega) (by omega), if_neg c, show 33 + k + 1 = 33 + (k + 1) by omega]; exact h.rge (by omega)
  · rw [rm_wn hW hK] at hp
    rw [wd _ (by omega), rm_le]
    by_cases c : p < A.st K
    · rw [if_neg (by omega), if_pos c]; exact h.rle (by omega)
    · rw [if_pos (by omega), if_neg c, Nat.add_assoc]; exact h.rle (by omega)
  · rw [rm_wn hW hK] at hp
    rw [wd _ (by omega), rm_he]
    by_cases c : p < A.st K
    · rw [if_neg (by omega), if_pos c]; exact h.rhe (by omega)
    · rw [if_pos (by omega), if_neg c, Nat.add_assoc]; exact h.rhe (by omega)
section BU
variable {Fu M : Nat} {A : Sh} {se le he sa fa ge : Ar} {ns nf sp bo fi : Int32} {s : Ar} {hs : Nat → Sh} {o z : Nat} {hv : Nat → SV} {be : Ar}
theorem sim_burn (hF : 20000000 ≤ Fu) (hW : WF A) (hM : A.sp ≤ M) (h : RV A se le he sa fa ge ns nf sp bo fi) (g : RS A s) (hH : HR M hs o z hv be) (p : Int32) :
    ∃ r B hs' o' z' hv' be' le' he' sa' fa' ge' ns' s', WF B ∧ B.sp ≤ M ∧ RV B se le' he' sa' fa' ge' ns' nf sp bo fi ∧ RS B s' ∧ HR M hs' o' z' hv' be' ∧
      f_X3_burn Fu se le he sa fa ge ns nf sp bo fi hv (nI o) (nI z) p = some (r, le', he', sa', fa', ge', ns', hv', nI o', nI z') ∧ f_X4_burn Fu s be (nI z) p = some (r, s', be', nI z') := by
  have hn := hW.n
  have a1 := hasStory_s Fu p (show A.ns < 1000000 by omega)
  have a2 := isStory_s Fu p g.rns (show A.ns < 1000000 by omega)
  rw [← h.rns] at a1
  unfold f_X3_burn f_X4_burn
  rw [a1, a2, bd1_s, bd1_s]
  by_cases hq : isS A.ns p = true
  · rw [if_pos hq, if_neg one_ne, if_neg one_ne]
    obtain ⟨k, hk, rfl⟩ := isS_t hq (by omega)
    obtain ⟨hs', o', z', hv', be', q1, q2, q3⟩ := rec_sim hF hW hM h g hH
    have e1 : f_X2_sizeOf Fu sa (nI k) = some (nI (A.sz k)) := sizeOf_s Fu hW.1 (fun j hj => h.rsa hj) hk
    have e2 : s (9 + k) = nI (A.sz k) := g.rlo hk
    have e3 := first_r hF hW g (show k ≤ A.ns by omega)
    obtain ⟨le', he', sa', fa', ge', r1, r2⟩ := remove_s hF hW h hk
    obtain ⟨s1, s2, v1, v2, v3⟩ := remove4_s hF hW g hk
    refine ⟨nI (A.sz k), removeA A k, hs', o', z', hv', be', le', he', sa', fa', ge', nI (A.ns - 1), s2, hW.remove hk, hM, r2, v3, q1, ?_, ?_⟩
    · rw [q2, bd3_s, e1, bd1_s, r1, bd6_s]
    · rw [q3, bd2_s, nI_add, ix_nIs (by omega) (by omega), gd_true, nI_clamps (by omega), e2, nm_eq, e3, bd1_s, v1, bd1_s, v2, bd1_s]
  · rw [if_neg hq, if_pos zero_eq, if_pos zero_eq]
    exact ⟨-1, A, hs, o, z, hv, be, le, he, sa, fa, ge, ns, s, hW, hM, h, g, hH, rfl, rfl⟩
end BU
end
section
/-! PURE: words put at a story's end, both sides; fuse -/
def insA (B : Sh) (t n : Nat) (fl fh : FN) (g : Int32) : Sh := Sh.mk B.se B.ns (fun k => if k ≤ t then B.st k else B.st k + n) (fun p => if p < B.st (t + 1) then B.le p else if p < B.st (t + 1) + n then fl (p - B.st (t + 1)) else B.le (p - n)) (fun p => if p < B.st (t + 1) then B.he p else if p < B.st (t + 1) + n then fh (p - B.st (t + 1)) else B.he (p - n)) B.fa (fun k => if k = t then g else B.ge k) B.nf B.sp B.bo B.fi
section INS
variable {B : Sh} {t n : Nat} {fl fh : FN} {g : Int32}
theorem in_st {k : Nat} : (insA B t n fl fh g).st k = if k ≤ t then B.st k else B.st k + n := rfl
theorem in_le {p : Nat} : (insA B t n fl fh g).le p = if p < B.st (t + 1) then B.le p else if p < B.st (t + 1) + n then fl (p - B.st (t + 1)) else B.le (p - n) := rfl
theorem in_he {p : Nat} : (insA B t n fl fh g).he p = if p < B.st (t + 1) then B.he p else if p < B.st (t + 1) + n then fh (p - B.st (t + 1)) else B.he (p - n) := rfl
theorem in_ge {k : Nat} : (insA B t n fl fh g).ge k = if k = t then g else B.ge k := rfl
theorem in_wn (ht : t < B.ns) : (insA B t n fl fh g).wn = B.wn + n := by
  show (insA B t n fl fh g).st B.ns = B.st B.ns + n
  rw [in_st, if_neg (by omega)]
theorem WF.ins (hW : WF B) (ht : t < B.ns) (hn : B.wn + n ≤ 150) (hf : ∀ j, j < n → fl j < 26 ∧ fh j ≤ 999) : WF (insA B t n fl fh g) := by
  have q2 : B.st (t + 1) ≤ B.wn := hW.1.le (show t + 1 ≤ B.ns by omega) (Nat.le_refl _)
  refine ⟨⟨hW.1.1, ?_, fun k (hk : k < B.ns) => ?_, ?_⟩, hW.2.1, fun p hp => ?_⟩
  · rw [in_st, if_pos (Nat.zero_le _)]; exact hW.1.2.1
  · have q := hW.1.2.2.1 k hk
    rw [in_st, in_st]
    by_cases c : k + 1 ≤ t
    · rw [if_pos (by omega), if_pos c]; exact q
    · by_cases c2 : k ≤ t
      · rw [if_pos c2, if_neg c]; omega
      · rw [if_neg c2, if_neg c]; omega
  · have : (insA B t n fl fh g).wn ≤ 150 := by rw [in_wn ht]; exact hn
    exact this
  · rw [in_wn ht] at hp
    rw [in_le, in_he]
    by_cases c : p < B.st (t + 1)
    · rw [if_pos c, if_pos c]; exact hW.2.2 p (by omega)
    · rw [if_neg c, if_neg c]
      by_cases c2 : p < B.st (t + 1) + n
      · rw [if_pos c2, if_pos c2]; exact hf _ (by omega)
      · rw [if_neg c2, if_neg c2]; exact hW.2.2 _ (by omega)
end INS
def apSt (sa : Ar) (n a i : Nat) : Ar := fun k => if a ≤ k ∧ k < i then sa k + nI n else sa k
theorem apSt_step (sa : Ar) {n a i : Nat} (h : a ≤ i) : upd (apSt sa n a i) i (apSt sa n a i i + nI n) = apSt sa n a (i + 1) := by
  have e : apSt sa n a i i = sa i := by unfold apSt; rw [if_neg (by omega)]
  rw [e]
  funext j
  unfold upd
  by_cases h1 : j = i
  · subst h1; unfold apSt; rw [if_pos rfl, if_pos (by omega)]
  · unfold apSt
    by_cases h2 : a ≤ j ∧ j < i
    · rw [if_neg h1, if_pos h2, if_pos (by omega)]
    · rw [if_neg h1, if_neg h2, if_neg (by omega)]
theorem append_L (Fu : Nat) (k : Ar → Option (Ar × Ar × Ar)) (sa : Ar) {a n m : Nat} (hm : m ≤ 12) : ∀ (fu i : Nat), a ≤ i → i ≤ m + 1 → m + 1 - i < fu → f_X2_append_L113 Fu k (nI m) (nI n) fu (nI i) (apSt sa n a i) = k (apSt sa n a (m + 1)) := by
  intro fu
  induction fu with
  | zero => intro i h1 h2 h3; omega
  | succ fu ih =>
    intro i h1 h2 h3
    rw [f_X2_append_L113_s]
    by_cases hh : m < i
    · have e : i = m + 1 := by omega
      subst e
      simp (disch := omega) only [gd_true, nm_eq, jn_eq, bd1_s, bd2_s, bd3_s, bd4_s, bd5_s, bd6_s, bd7_s, bd8_s, bd9_s, bd10_s, bd11_s, bd12_s, nI_add, pk_mul, pk_subs, nI_m1s, ix_nIs, nI_clamps, nI_les, nI_lts, nI_eqs, bz_0, bz_1, nI_zero, eq_self, if_true, if_false, if_pos (Nat.lt_succ_self _)]
    · rw [← ih (i + 1) (by omega) (by omega) (by omega), ← apSt_step sa h1]
      simp (disch := omega) only [gd_true, nm_eq, jn_eq, bd1_s, bd2_s, bd3_s, bd4_s, bd5_s, bd6_s, bd7_s, bd8_s, bd9_s, bd10_s, bd11_s, bd12_s, nI_add, pk_mul, pk_subs, nI_m1s, ix_nIs, nI_clamps, nI_les, nI_lts, nI_eqs, bz_0, bz_1, nI_zero, eq_self, if_true, if_false, if_neg hh]
section APP
variable {Fu : Nat} {A B : Sh} {se le he sa fa ge ose ole ohe osa ofa oge : Ar} {ns nf sp bo fi ons onf osp obo ofi : Int32}
theorem append_s (hF : 20000000 ≤ Fu) (hW : WF A) (hB : WF B) (h : RV B se le he sa fa ge ns nf sp bo fi) (o : RV A ose ole ohe osa ofa oge ons onf osp obo ofi) {t P : Nat} (ht : t < B.ns) (hP : P < A.ns) (hs : B.wn + A.sz P ≤ 150) (g : Int32) :
    ∃ le' he' sa', f_X2_append Fu le he sa ns ole ohe osa (nI t) (nI P) = some (le', he', sa') ∧ RV (insA B t (A.sz P) (fun j => A.le (A.st P + j)) (fun j => A.he (A.st P + j)) g) se le' he' sa' fa (upd ge t g) ns nf sp bo fi := by
  have hn := hB.n
  have hna := hW.n
  have hwa := hW.w
  obtain ⟨z1, z2, z3⟩ := hW.sz hP
  have q2 : B.st (t + 1) ≤ B.wn := hB.1.le (show t + 1 ≤ B.ns by omega) (Nat.le_refl _)
  have e1 := h.rsa (show t + 1 ≤ B.ns by omega)
  have e2 := o.rsa (show P ≤ A.ns by omega)
  have e3 := words_r (Fu := Fu) hB h
  have e4 : f_X2_sizeOf Fu osa (nI P) = some (nI (A.sz P)) := sizeOf_s Fu hW.1 (fun j hj => o.rsa hj) hP
  have c1 := cpok_s (n0 := 150) (n1 := 150) (a := B.st (t + 1)) (b := B.st (t + 1) + A.sz P) (c := B.wn - B.st (t + 1)) (by omega) (by omega) (by omega) (by omega)
  have c2 := cpok_s (n0 := 150) (n1 := 150) (a := A.st P) (b := B.st (t + 1)) (c := A.sz P) (by omega) (by omega) (by omega) (by omega)
  have r0 : apSt sa (A.sz P) (t + 1) (t + 1) = sa := by
    funext j
    unfold apSt
    rw [if_neg (by omega)]
  have el : ∀ k, f_X2_append_L113 Fu k (nI B.ns) (nI (A.sz P)) Fu (nI (t + 1)) sa = k (apSt sa (A.sz P) (t + 1) (B.ns + 1)) := fun k => by
    have := append_L Fu k sa (a := t + 1) (n := A.sz P) (m := B.ns) (by omega) Fu (t + 1) (Nat.le_refl _) (by omega) (by omega)
    rw [r0] at this
    exact this
  refine ⟨cpA ole (cpA le le (nI (B.st (t + 1))) (nI (B.st (t + 1) + A.sz P)) (nI (B.wn - B.st (t + 1)))) (nI (A.st P)) (nI (B.st (t + 1))) (nI (A.sz P)), cpA ohe (cpA he he (nI (B.st (t + 1))) (nI (B.st (t + 1) + A.sz P)) (nI (B.wn - B.st (t + 1)))) (nI (A.st P)) (nI (B.st (t + 1))) (nI (A.sz P)), apSt sa (A.sz P) (t + 1) (B.ns + 1), ?_, ?_⟩
  · have hns := h.rns
    rw [hns] at e3
    rw [hns]
    unfold f_X2_append
    simp (disch := omega) only [gd_true, nm_eq, jn_eq, bd1_s, bd2_s, bd3_s, bd4_s, bd5_s, bd6_s, bd7_s, bd8_s, bd9_s, bd10_s, bd11_s, bd12_s, nI_add, pk_mul, pk_subs, nI_m1s, ix_nIs, nI_clamps, nI_les, nI_lts, nI_eqs, bz_0, bz_1, nI_zero, eq_self, if_true, if_false, e1, e2, e3, e4, c1, c2, el]
  · refine ⟨h.1, fun p hp => ?_, fun p hp => ?_, fun k (hk : k ≤ B.ns) => ?_, h.2.2.2.2.1, fun k (hk : k < B.ns) => ?_, h.rns, h.rnf, h.rsp, h.rbo, h.rfi⟩
    · rw [in_wn ht] at hp
      rw [cpA_pt (by omega) (by omega) (by omega), in_le]
      by_cases c : p < B.st (t + 1)
      · rw [if_neg (by omega), if_pos c, cpA_pt (by omega) (by omega) (by omega), if_neg (by omega)]; exact h.rle (by omega)
      · by_cases c2 : p < B.st (t + 1) + A.sz P
        · rw [if_pos (by omega), if_neg c, if_pos c2]; exact o.rle (by omega)
        · rw [if_neg (by omega), if_neg c, if_neg c2, cpA_pt (by omega) (by omega) (by omega), if_pos (by omega), show B.st (t + 1) + (p - (B.st (t + 1) + A.sz P)) = p - A.sz P by omega]; exact h.rle (by omega)
    · rw [in_wn ht] at hp
      rw [cpA_pt (by omega) (by omega) (by omega), in_he]
      by_cases c : p < B.st (t + 1)
      · rw [if_neg (by omega), if_pos c, cpA_pt (by omega) (by omega) (by omega), if_neg (by omega)]; exact h.rhe (by omega)
      · by_cases c2 : p < B.st (t + 1) + A.sz P
        · rw [if_pos (by omega), if_neg c, if_pos c2]; exact o.rhe (by omega)
        · rw [if_neg (by omega), if_neg c, if_neg c2, cpA_pt (by omega) (by omega) (by omega), if_pos (by omega), show B.st (t + 1) + (p - (B.st (t + 1) + A.sz P)) = p - A.sz P by omega]; exact h.rhe (by omega)
    · rw [in_st]
      unfold apSt
      by_cases c : k ≤ t
      · rw [if_neg (by omega), if_pos c]; exact h.rsa hk
      · rw [if_pos (by omega), if_neg c, h.rsa hk, nI_add]
    · rw [in_ge]
      unfold upd
      by_cases c : k = t
      · rw [if_pos c, if_pos c]
      · rw [if_neg c, if_neg c]; exact h.rge hk
end APP
def upF (s : Ar) (n m i : Nat) : Ar := fun j => if (45 + i + n < j ∧ j < 45 + m + n) ∨ (195 + i + n < j ∧ j < 195 + m + n) then s (j - n) else s j
theorem upF_step (s : Ar) {n m i : Nat} (h0 : 0 < i) (h : i < m) (hm : m + n ≤ 150) : upd (upd (upF s n m i) (45 + i + n) (upF s n m i (45 + i))) (195 + i + n) ((upd (upF s n m i) (45 + i + n) (upF s n m i (45 + i))) (195 + i)) = upF s n m (i - 1) := by
  have e1 : upF s n m i (45 + i) = s (45 + i) := by unfold upF; rw [if_neg (by omega)]
  have e2 : upF s n m i (195 + i) = s (195 + i) := by unfold upF; rw [if_neg (by omega)]
  rw [upd_ne (show 195 + i ≠ 45 + i + n by omega), e1, e2]
  funext j
  unfold upd
  by_cases h2 : j = 195 + i + n
  · subst h2; unfold upF; rw [if_pos rfl, if_pos (by omega), Nat.add_sub_cancel]
  · rw [if_neg h2]
    by_cases h1 : j = 45 + i + n
    · subst h1; unfold upF; rw [if_pos rfl, if_pos (by omega), Nat.add_sub_cancel]
    · rw [if_neg h1]
      unfold upF
      by_cases hc : (45 + i + n < j ∧ j < 45 + m + n) ∨ (195 + i + n < j ∧ j < 195 + m + n)
      · rw [if_pos hc, if_pos (by omega)]
      · rw [if_neg hc, if_neg (by omega)]
theorem fuse_L220 (Fu : Nat) (k : Ar → Option (Int32 × Ar × Ar × Int32 × Ar × Ar)) (s : Ar) {n m v : Nat} (hm : m + n ≤ 150) (hv : 0 < v) : ∀ (fu i : Nat), v ≤ i + 1 → i < m → i + 1 - v < fu → f_X4_fuse_L220 Fu k (nI n) (nI v) fu (nI i) (upF s n m i) = k (upF s n m (v - 1)) := by
  intro fu
  induction fu with
  | zero => intro i h1 h2 h3; omega
  | succ fu ih =>
    intro i h1 h2 h3
    rw [f_X4_fuse_L220_s]
    by_cases hh : i < v
    · have e : i = v - 1 := by omega
      rw [if_pos (by rw [nI_lts (by omega) (by omega)]; exact hh), e]
    · rw [← ih (i - 1) (by omega) (by omega) (by omega), ← upF_step s (by omega) h2 hm]
      simp (disch := omega) only [gd_true, nm_eq, jn_eq, bd1_s, bd2_s, bd3_s, bd4_s, bd5_s, bd6_s, bd7_s, bd8_s, bd9_s, bd10_s, bd11_s, bd12_s, nI_add, pk_mul, pk_subs, nI_m1s, ix_nIs, nI_clamps, nI_les, nI_lts, nI_eqs, bz_0, bz_1, nI_zero, eq_self, if_true, if_false, if_neg hh]
def inF (s l h : Ar) (v i : Nat) : Ar := fun j => if 45 + v ≤ j ∧ j < 45 + v + i then l (j - (45 + v)) else if 195 + v ≤ j ∧ j < 195 + v + i then h (j - (195 + v)) else s j
theorem inF_step (s l h : Ar) {v i : Nat} (hm : v + i < 150) : upd (upd (inF s l h v i) (45 + v + i) (l i)) (195 + v + i) (h i) = inF s l h v (i + 1) := by
  funext j
  unfold upd
  by_cases h2 : j = 195 + v + i
  · subst h2; unfold inF; rw [if_pos rfl, if_neg (by omega), if_pos (by omega), show 195 + v + i - (195 + v) = i by omega]
  · rw [if_neg h2]
    by_cases h1 : j = 45 + v + i
    · subst h1; unfold inF; rw [if_pos rfl, if_pos (by omega), show 45 + v + i - (45 + v) = i by omega]
    · rw [if_neg h1]
      unfold inF
      by_cases c1 : 45 + v ≤ j ∧ j < 45 + v + i
      · rw [if_pos c1, if_pos (by omega)]
      · rw [if_neg c1, if_neg (show ¬ (45 + v ≤ j ∧ j < 45 + v + (i + 1)) by omega)]
        by_cases c2 : 195 + v ≤ j ∧ j < 195 + v + i
        · rw [if_pos c2, if_pos (by omega)]
        · rw [if_neg c2, if_neg (by omega)]
theorem fuse_L282 (Fu : Nat) (k : Ar → Option (Int32 × Ar × Ar × Int32 × Ar × Ar)) (s l h : Ar) {n v : Nat} (hm : v + n ≤ 150) : ∀ (fu i : Nat), i ≤ n → n - i < fu → f_X4_fuse_L282 Fu k (nI n) l h (nI v) fu (nI i) (inF s l h v i) = k (inF s l h v n) := by
  intro fu
  induction fu with
  | zero => intro i h1 h3; omega
  | succ fu ih =>
    intro i h1 h3
    rw [f_X4_fuse_L282_s]
    by_cases hh : n ≤ i
    · have e : i = n := by omega
      subst e
      simp (disch := omega) only [gd_true, nm_eq, jn_eq, bd1_s, bd2_s, bd3_s, bd4_s, bd5_s, bd6_s, bd7_s, bd8_s, bd9_s, bd10_s, bd11_s, bd12_s, nI_add, pk_mul, pk_subs, nI_m1s, ix_nIs, nI_clamps, nI_les, nI_lts, nI_eqs, bz_0, bz_1, nI_zero, eq_self, if_true, if_false, if_pos (Nat.le_refl _)]
    · rw [← ih (i + 1) (by omega) (by omega), ← inF_step s l h (by omega)]
      simp (disch := omega) only [gd_true, nm_eq, jn_eq, bd1_s, bd2_s, bd3_s, bd4_s, bd5_s, bd6_s, bd7_s, bd8_s, bd9_s, bd10_s, bd11_s, bd12_s, nI_add, pk_mul, pk_subs, nI_m1s, ix_nIs, nI_clamps, nI_les, nI_lts, nI_eqs, bz_0, bz_1, nI_zero, eq_self, if_true, if_false, if_neg hh]
def exF (s q : Ar) (b i : Nat) : Ar := fun k => if k < i then s (b + k) else q k
theorem exF_step (s q : Ar) (b i : Nat) : upd (exF s q b i) i (s (b + i)) = exF s q b (i + 1) := by
  funext j
  unfold upd exF
  by_cases h : j = i
  · subst h; rw [if_pos rfl, if_pos (by omega)]
  · rw [if_neg h]
    by_cases h2 : j < i
    · rw [if_pos h2, if_pos (by omega)]
    · rw [if_neg h2, if_neg (by omega)]
theorem exF_0 (s q : Ar) (b : Nat) : exF s q b 0 = q := by
  funext j
  unfold exF
  rw [if_neg (by omega)]
theorem fuse_L59 (Fu : Nat) (k : Ar → Ar → Option (Int32 × Ar × Ar × Int32 × Ar × Ar)) (s l h : Ar) {n a P : Nat} (hm : a + n ≤ 150) (e : f_X4_first Fu s (nI P) = some (nI a)) : ∀ (fu i : Nat), i ≤ n → n - i < fu → f_X4_fuse_L59 Fu k s (nI P) (nI n) fu (nI i) (exF s l (45 + a) i) (exF s h (195 + a) i) = k (exF s l (45 + a) n) (exF s h (195 + a) n) := by
  intro fu
  induction fu with
  | zero => intro i h1 h3; omega
  | succ fu ih =>
    intro i h1 h3
    rw [f_X4_fuse_L59_s]
    by_cases hh : n ≤ i
    · have e : i = n := by omega
      subst e
      simp (disch := omega) only [gd_true, nm_eq, jn_eq, bd1_s, bd2_s, bd3_s, bd4_s, bd5_s, bd6_s, bd7_s, bd8_s, bd9_s, bd10_s, bd11_s, bd12_s, nI_add, pk_mul, pk_subs, nI_m1s, ix_nIs, nI_clamps, nI_les, nI_lts, nI_eqs, bz_0, bz_1, nI_zero, eq_self, if_true, if_false, if_pos (Nat.le_refl _)]
    · rw [← ih (i + 1) (by omega) (by omega), ← exF_step s l, ← exF_step s h]
      simp (disch := omega) only [gd_true, nm_eq, jn_eq, bd1_s, bd2_s, bd3_s, bd4_s, bd5_s, bd6_s, bd7_s, bd8_s, bd9_s, bd10_s, bd11_s, bd12_s, nI_add, pk_mul, pk_subs, nI_m1s, ix_nIs, nI_clamps, nI_les, nI_lts, nI_eqs, bz_0, bz_1, nI_zero, eq_self, if_true, if_false, if_neg hh, e]
theorem ins4_s {B : Sh} {s l h : Ar} (hB : WF B) (g : RS B s) {t n : Nat} (ht : t < B.ns) (hn : B.wn + n ≤ 150) {fl fh : FN} (h1 : ∀ j, j < n → l j = nI (fl j)) (h2 : ∀ j, j < n → h j = nI (fh j)) (x : Int32) :
    RS (insA B t n fl fh x) (upd (upd (upd (inF (upF s n B.wn (B.st (t + 1) - 1)) l h (B.st (t + 1)) n) 4 (nI (B.wn + n))) (9 + t) (nI (B.sz t + n))) (33 + t) x) := by
  have hnn := hB.n
  have q2 : B.st (t + 1) ≤ B.wn := hB.1.le (show t + 1 ≤ B.ns by omega) (Nat.le_refl _)
  obtain ⟨z1, z2, z3⟩ := hB.sz ht
  have lo : ∀ j, j < 45 → inF (upF s n B.wn (B.st (t + 1) - 1)) l h (B.st (t + 1)) n j = s j := fun j hj => by
    unfold inF upF
    rw [if_neg (by omega), if_neg (by omega), if_neg (by omega)]
  refine ⟨fun i hi => ?_, ?_, ?_, ?_, ?_, ?_, ?_, fun k (hk : k < B.ns) => ?_, fun k (hk : k < B.ns) => ?_, fun k (hk : k < B.ns) => ?_, fun p hp => ?_, fun p hp => ?_⟩
  · rw [upd_ne (by omega), upd_ne (by omega), upd_ne (by omega), lo _ (by omega)]; exact g.rse hi
  · rw [upd_ne (by omega), upd_ne (by omega), upd_ne (by omega), lo _ (by omega)]; exact g.rns
  · rw [upd_ne (by omega), upd_ne (by omega), upd_eq, in_wn ht]
  · rw [upd_ne (by omega), upd_ne (by omega), upd_ne (by omega), lo _ (by omega)]; exact g.rnf
  · rw [upd_ne (by omega), upd_ne (by omega), upd_ne (by omega), lo _ (by omega)]; exact g.rsp
  · rw [upd_ne (by omega), upd_ne (by omega), upd_ne (by omega), lo _ (by omega)]; exact g.rbo
  · rw [upd_ne (by omega), upd_ne (by omega), upd_ne (by omega), lo _ (by omega)]; exact g.rfi
  · rw [in_st, in_st, upd_ne (by omega)]
    by_cases c : k = t
    · subst c
      rw [upd_eq, if_neg (by omega), if_pos (Nat.le_refl _)]
      congr 1
      omega
    · rw [upd_ne (by omega), upd_ne (by omega), lo _ (by omega), g.rlo hk]
      by_cases c2 : k < t
      · rw [if_pos (by omega), if_pos (by omega)]
      · rw [if_neg (by omega), if_neg (by omega)]
        congr 1
        omega
  · rw [upd_ne (by omega), upd_ne (by omega), upd_ne (by omega), lo _ (by omega)]; exact g.rfa hk
  · rw [in_ge]
    by_cases c : k = t
    · subst c; rw [upd_eq, if_pos rfl]
    · rw [if_neg c, upd_ne (by omega), upd_ne (by omega), upd_ne (by omega), lo _ (by omega)]; exact g.rge hk
  · rw [in_wn ht] at hp
    rw [upd_ne (by omega), upd_ne (by omega), upd_ne (by omega), in_le]
    unfold inF upF
    by_cases c : p < B.st (t + 1)
    · rw [if_neg (by omega), if_neg (by omega), if_neg (by omega), if_pos c]; exact g.rle (by omega)
    · by_cases c2 : p < B.st (t + 1) + n
      · rw [if_pos (by omega), if_neg c, if_pos c2, show 45 + p - (45 + B.st (t + 1)) = p - B.st (t + 1) by omega]; exact h1 _ (by omega)
      · rw [if_neg (by omega), if_neg (by omega), if_pos (by omega), if_neg c, if_neg c2, show 45 + p - n = 45 + (p - n) by omega]; exact g.rle (by omega)
  · rw [in_wn ht] at hp
    rw [upd_ne (by omega), upd_ne (by omega), upd_ne (by omega), in_he]
    unfold inF upF
    by_cases c : p < B.st (t + 1)
    · rw [if_neg (by omega), if_neg (by omega), if_neg (by omega), if_pos c]; exact g.rhe (by omega)
    · by_cases c2 : p < B.st (t + 1) + n
      · rw [if_neg (by omega), if_pos (by omega), if_neg c, if_pos c2, show 195 + p - (195 + B.st (t + 1)) = p - B.st (t + 1) by omega]; exact h2 _ (by omega)
      · rw [if_neg (by omega), if_neg (by omega), if_pos (by omega), if_neg c, if_neg c2, show 195 + p - n = 195 + (p - n) by omega]; exact g.rhe (by omega)
end
section
/-! PURE: fuse -/
theorem upF_0 (s : Ar) {n m : Nat} : upF s n m (m - 1) = s := by
  funext j
  unfold upF
  rw [if_neg (by omega)]
theorem inF_0 (s l h : Ar) (v : Nat) : inF s l h v 0 = s := by
  funext j
  unfold inF
  rw [if_neg (by omega), if_neg (by omega)]
theorem jmax_le (a b : Int32) : nI 1 + jmax a b = (if a ≤ b then b else a) + nI 1 := by
  rw [Int32.add_comm]
  congr 1
  unfold jmax
  by_cases h : a < b
  · rw [if_pos h, if_pos (Int32.le_of_lt h)]
  · rw [if_neg h]
    by_cases h2 : a ≤ b
    · rw [if_pos h2]
      rw [Int32.lt_iff_toInt_lt] at h
      rw [Int32.le_iff_toInt_le] at h2
      exact Int32.toInt_inj.mp (by omega)
    · rw [if_neg h2]
def tgt (a b : Nat) : Nat := if a ≤ b then a else a - 1
theorem tgt_s {a b : Nat} (ha : a < 1000) (hb : b < 1000) : (if nI a ≤ nI b then nI a else nI a - nI 1) = nI (tgt a b) := by
  unfold tgt
  by_cases h : a ≤ b
  · rw [if_pos h, if_pos (by rw [nI_les (by omega) (by omega)]; exact h)]
  · rw [if_neg h, if_neg (by rw [nI_les (by omega) (by omega)]; exact h), pk_subs (by omega)]
def fuseD (A : Sh) (a b : Nat) : Sh := insA (removeA A b) (tgt a b) (A.sz b) (fun j => A.le (A.st b + j)) (fun j => A.he (A.st b + j)) (nI 1 + jmax (A.ge a) (A.ge b))
def fuseE (A : Sh) (a b : Nat) : Sh := warmA (warmA (fuseD A a b) ((removeA A b).st (tgt a b + 1) - 1) (A.se 1)) ((removeA A b).st (tgt a b + 1)) (A.se 1)
section FU
variable {Fu M : Nat} {A : Sh} {se le he sa fa ge : Ar} {ns nf sp bo fi : Int32} {s : Ar} {hs : Nat → Sh} {o z : Nat} {hv : Nat → SV} {be : Ar}
theorem fuse_facts (hW : WF A) {a b : Nat} (ha : a < A.ns) (hb : b < A.ns) (hab : a ≠ b) : WF (removeA A b) ∧ tgt a b < (removeA A b).ns ∧ (removeA A b).wn + A.sz b = A.wn ∧ 0 < A.sz b ∧ WF (fuseD A a b) ∧ (fuseD A a b).wn = A.wn ∧ 0 < (removeA A b).st (tgt a b + 1) ∧ (removeA A b).st (tgt a b + 1) < A.wn := by
  obtain ⟨z1, z2, z3⟩ := hW.sz hb
  have hw := hW.w
  have w1 := hW.remove hb
  have e1 := rm_wn hW hb
  have ht : tgt a b < (removeA A b).ns := by
    rw [rm_ns]
    unfold tgt
    by_cases h : a ≤ b
    · rw [if_pos h]; omega
    · rw [if_neg h]; omega
  obtain ⟨y1, y2, y3⟩ := w1.sz ht
  have e2 : (fuseD A a b).wn = A.wn := by
    unfold fuseD
    rw [in_wn ht]
    omega
  refine ⟨w1, ht, by omega, z1, ?_, e2, by omega, by omega⟩
  unfold fuseD
  exact w1.ins ht (by omega) (fun j hj => hW.2.2 _ (by omega))
theorem fuse_V (hF : 20000000 ≤ Fu) (hW : WF A) (h : RV A se le he sa fa ge ns nf sp bo fi) {ose ole ohe osa ofa oge : Ar} {ons onf osp obo ofi : Int32} (o : RV A ose ole ohe osa ofa oge ons onf osp obo ofi) {a b : Nat} (ha : a < A.ns) (hb : b < A.ns) (hab : a ≠ b) :
    ∃ le1 he1 sa1 fa1 ge1 le2 he2 sa2 he3 he4, f_X2_remove Fu le he sa fa ge ns (nI b) = some (le1, he1, sa1, fa1, ge1, nI (A.ns - 1)) ∧ sa1 (tgt a b + 1) = nI ((removeA A b).st (tgt a b + 1)) ∧ f_X2_append Fu le1 he1 sa1 (nI (A.ns - 1)) ole ohe osa (nI (tgt a b)) (nI b) = some (le2, he2, sa2) ∧ f_X2_warm Fu he2 (nI ((removeA A b).st (tgt a b + 1) - 1)) (nI (A.se 1)) = some he3 ∧ f_X2_warm Fu he3 (nI ((removeA A b).st (tgt a b + 1))) (nI (A.se 1)) = some he4 ∧
      RV (fuseE A a b) se le2 he4 sa2 fa1 (upd ge1 (tgt a b) (nI 1 + jmax (A.ge a) (A.ge b))) (nI (A.ns - 1)) nf sp bo fi := by
  obtain ⟨w1, ht, e1, e2, w2, e3, e4, e5⟩ := fuse_facts hW ha hb hab
  have hw := hW.w
  have hse := hW.2.1.2.2.1
  obtain ⟨le1, he1, sa1, fa1, ge1, r1, r2⟩ := remove_s hF hW h hb
  obtain ⟨le2, he2, sa2, r3, r4⟩ := append_s hF hW w1 r2 o ht hb (by omega) (nI 1 + jmax (A.ge a) (A.ge b))
  have r4' : RV (fuseD A a b) se le2 he2 sa2 fa1 (upd ge1 (tgt a b) (nI 1 + jmax (A.ge a) (A.ge b))) (nI (A.ns - 1)) nf sp bo fi := r4
  obtain ⟨he3, r5, r6⟩ := warm_s (Fu := Fu) w2 r4' (p := (removeA A b).st (tgt a b + 1) - 1) (by omega) (show A.se 1 ≤ 1000 by omega)
  obtain ⟨he4, r7, r8⟩ := warm_s (Fu := Fu) (w2.warm _ _) r6 (p := (removeA A b).st (tgt a b + 1)) (show _ < (fuseD A a b).wn by omega) (show A.se 1 ≤ 1000 by omega)
  exact ⟨le1, he1, sa1, fa1, ge1, le2, he2, sa2, he3, he4, r1, r2.rsa (by omega), r3, r5, r7, r8⟩
theorem sim_fuse (hF : 100000000 ≤ Fu) (hW : WF A) (hM : A.sp ≤ M) (h : RV A se le he sa fa ge ns nf sp bo fi) (g : RS A s) (hH : HR M hs o z hv be) (t ql qh : Ar) (a1 a2 a3 a4 a5 a6 : Ar) (b1 b2 b3 b4 b5 : Int32) (p q : Int32) :
    ∃ r B hs' o' z' hv' be' le' he' sa' fa' ge' t' ns' sp' bo' fi' c1 c2 c3 c4 c5 c6 d1 d2 d3 d4 d5 s' ql' qh', WF B ∧ B.sp ≤ M + 12 ∧ RV B se le' he' sa' fa' ge' ns' nf sp' bo' fi' ∧ RS B s' ∧ HR M hs' o' z' hv' be' ∧
      f_X3_fuse Fu se le he sa fa ge t ns nf sp bo fi a1 a2 a3 a4 a5 a6 b1 b2 b3 b4 b5 hv (nI o) (nI z) p q = some (r, le', he', sa', fa', ge', t', ns', sp', bo', fi', c1, c2, c3, c4, c5, c6, d1, d2, d3, d4, d5, hv', nI o', nI z') ∧ f_X4_fuse Fu s be (nI z) ql qh p q = some (r, s', be', nI z', ql', qh') := by
  have hn := hW.n
  have x1 := hasStory_s Fu p (show A.ns < 1000000 by omega)
  have x2 := isStory_s Fu p g.rns (show A.ns < 1000000 by omega)
  have x3 := hasStory_s Fu q (show A.ns < 1000000 by omega)
  have x4 := isStory_s Fu q g.rns (show A.ns < 1000000 by omega)
  rw [← h.rns] at x1 x3
  unfold f_X3_fuse f_X4_fuse
  rw [x1, x2, bd1_s, bd1_s]
  by_cases hp : isS A.ns p = true
  · rw [if_pos hp, if_neg one_ne, if_neg one_ne, x3, x4, bd1_s, bd1_s]
    by_cases hq : isS A.ns q = true
    · rw [if_pos hq, if_neg one_ne, if_neg one_ne]
      obtain ⟨a, ha, rfl⟩ := isS_t hp (by omega)
      obtain ⟨b, hb, rfl⟩ := isS_t hq (by omega)
      by_cases hab : a = b
      · subst hab
        rw [if_pos rfl, if_pos rfl]
        exact ⟨-2, A, hs, o, z, hv, be, le, he, sa, fa, ge, t, ns, sp, bo, fi, a1, a2, a3, a4, a5, a6, b1, b2, b3, b4, b5, s, ql, qh, hW, by omega, h, g, hH, rfl, rfl⟩
      · have hne : ¬ nI a = nI b := by rw [nI_eqs (by omega) (by omega)]; exact hab
        obtain ⟨t1, y1⟩ := themeOf_s (Fu := Fu) (by omega) hW h t ha
        obtain ⟨t2, y2⟩ := themeOf_s (Fu := Fu) (by omega) hW h t1 hb
        have y3 := theme_s (Fu := Fu) (by omega) hW g ha
        have y4 := theme_s (Fu := Fu) (by omega) hW g hb
        rw [if_neg hne, if_neg hne, y1, bd2_s, y2, bd2_s, y3, bd1_s, y4, bd1_s]
        by_cases hth : nI (thR (taR A a)) = nI (thR (taR A b))
        · rw [if_pos hth, if_pos hth]
          obtain ⟨w1, ht, e1, e2, w2, e3, e4, e5⟩ := fuse_facts hW ha hb hab
          have hw := hW.w
          have hse := hW.2.1.2.2.1
          have hB := w1.n
          obtain ⟨z1, z2, z3⟩ := w1.sz ht
          have k1 := h.rse (show 1 < 3 by omega)
          have k2 := tgt_s (a := a) (b := b) (by omega) (by omega)
          obtain ⟨hs', o', z', hv', be', q1, q2, q3⟩ := rec_sim (by omega : 20000000 ≤ Fu) hW hM h g hH
          obtain ⟨se0, le0, he0, sa0, fa0, ge0, cp, oo⟩ := copyFrom_s (Fu := Fu) hW h a1 a2 a3 a4 a5 a6 b1 b2 b3 b4 b5
          obtain ⟨le1, he1, sa1, fa1, ge1, le2, he2, sa2, he3, he4, r1, r2, r3, r4, r5, r6⟩ := fuse_V (Fu := Fu) (by omega) hW h oo ha hb hab
          have j1 := oo.rge ha
          have j2 := oo.rge hb
          obtain ⟨s1, s2, v1, v2, v3⟩ := remove4_s (Fu := Fu) (by omega) hW g hb
          have f1 := first_r (Fu := Fu) (by omega) hW g (show b ≤ A.ns by omega)
          have f2 := first_r (Fu := Fu) (by omega) w1 v3 (show tgt a b ≤ (removeA A b).ns by omega)
          have f3 : s (9 + b) = nI (A.sz b) := g.rlo hb
          have f4 := g.rge ha
          have f5 := g.rge hb
          have f6 : s2 (9 + tgt a b) = nI ((removeA A b).sz (tgt a b)) := v3.rlo ht
          have f7 := v3.rwn
          have m59 : ∀ k, f_X4_fuse_L59 Fu k s (nI b) (nI (A.sz b)) Fu (nI 0) ql qh = k (exF s ql (45 + A.st b) (A.sz b)) (exF s qh (195 + A.st b) (A.sz b)) := fun k => by
            obtain ⟨u1, u2, u3⟩ := hW.sz hb
            have := fuse_L59 Fu k s ql qh (n := A.sz b) (a := A.st b) (by omega) f1 Fu 0 (Nat.zero_le _) (by omega)
            rw [exF_0, exF_0] at this
            exact this
          have m220 : ∀ k, f_X4_fuse_L220 Fu k (nI (A.sz b)) (nI ((removeA A b).st (tgt a b + 1))) Fu (nI ((removeA A b).wn - 1)) s2 = k (upF s2 (A.sz b) (removeA A b).wn ((removeA A b).st (tgt a b + 1) - 1)) := fun k => by
            have := fuse_L220 Fu k s2 (n := A.sz b) (m := (removeA A b).wn) (v := (removeA A b).st (tgt a b + 1)) (by omega) e4 Fu ((removeA A b).wn - 1) (by omega) (by omega) (by omega)
            rw [upF_0] at this
            exact this
          have m282 : ∀ k, f_X4_fuse_L282 Fu k (nI (A.sz b)) (exF s ql (45 + A.st b) (A.sz b)) (exF s qh (195 + A.st b) (A.sz b)) (nI ((removeA A b).st (tgt a b + 1))) Fu (nI 0) (upF s2 (A.sz b) (removeA A b).wn ((removeA A b).st (tgt a b + 1) - 1)) = k (inF (upF s2 (A.sz b) (removeA A b).wn ((removeA A b).st (tgt a b + 1) - 1)) (exF s ql (45 + A.st b) (A.sz b)) (exF s qh (195 + A.st b) (A.sz b)) ((removeA A b).st (tgt a b + 1)) (A.sz b)) := fun k => by
            have := fuse_L282 Fu k (upF s2 (A.sz b) (removeA A b).wn ((removeA A b).st (tgt a b + 1) - 1)) (exF s ql (45 + A.st b) (A.sz b)) (exF s qh (195 + A.st b) (A.sz b)) (n := A.sz b) (v := (removeA A b).st (tgt a b + 1)) (by omega) Fu 0 (Nat.zero_le _) (by omega)
            rw [inF_0] at this
            exact this
          have iS := ins4_s w1 v3 ht (n := A.sz b) (by omega) (fl := fun j => A.le (A.st b + j)) (fh := fun j => A.he (A.st b + j)) (l := exF s ql (45 + A.st b) (A.sz b)) (h := exF s qh (195 + A.st b) (A.sz b)) (fun j hj => by
            obtain ⟨u1, u2, u3⟩ := hW.sz hb
            unfold exF; rw [if_pos hj, Nat.add_assoc]; exact g.rle (by omega)) (fun j hj => by
            obtain ⟨u1, u2, u3⟩ := hW.sz hb
            unfold exF; rw [if_pos hj, Nat.add_assoc]; exact g.rhe (by omega)) (nI 1 + jmax (A.ge a) (A.ge b))
          have i4 : inF (upF s2 (A.sz b) (removeA A b).wn ((removeA A b).st (tgt a b + 1) - 1)) (exF s ql (45 + A.st b) (A.sz b)) (exF s qh (195 + A.st b) (A.sz b)) ((removeA A b).st (tgt a b + 1)) (A.sz b) 4 = nI (removeA A b).wn := by
            unfold inF upF
            rw [if_neg (by omega), if_neg (by omega), if_neg (by omega)]
            exact f7
          have i9 : inF (upF s2 (A.sz b) (removeA A b).wn ((removeA A b).st (tgt a b + 1) - 1)) (exF s ql (45 + A.st b) (A.sz b)) (exF s qh (195 + A.st b) (A.sz b)) ((removeA A b).st (tgt a b + 1)) (A.sz b) (9 + tgt a b) = nI ((removeA A b).sz (tgt a b)) := by
            unfold inF upF
            rw [if_neg (by omega), if_neg (by omega), if_neg (by omega)]
            exact f6
          generalize inF (upF s2 (A.sz b) (removeA A b).wn ((removeA A b).st (tgt a b + 1) - 1)) (exF s ql (45 + A.st b) (A.sz b)) (exF s qh (195 + A.st b) (A.sz b)) ((removeA A b).st (tgt a b + 1)) (A.sz b) = S at m282 iS i4 i9
          generalize exF s ql (45 + A.st b) (A.sz b) = X at m59 m282
          generalize exF s qh (195 + A.st b) (A.sz b) = Y at m59 m282
          have iS' : RS (fuseD A a b) (upd (upd (upd S 4 (nI ((removeA A b).wn + A.sz b))) (9 + tgt a b) (nI ((removeA A b).sz (tgt a b) + A.sz b))) (33 + tgt a b) (nI 1 + jmax (A.ge a) (A.ge b))) := iS
          obtain ⟨s3, v4, v5⟩ := warm4_s (Fu := Fu) w2 iS' (p := (removeA A b).st (tgt a b + 1) - 1) (by omega) (show A.se 1 ≤ 1000 by omega)
          obtain ⟨s4, v6, v7⟩ := warm4_s (Fu := Fu) (w2.warm _ _) v5 (p := (removeA A b).st (tgt a b + 1)) (show _ < (fuseD A a b).wn by omega) (show A.se 1 ≤ 1000 by omega)
          have l1 := iS'.rse (show 1 < 3 by omega)
          have l1' : (upd (upd (upd S 4 (nI ((removeA A b).wn + A.sz b))) (9 + tgt a b) (nI ((removeA A b).sz (tgt a b) + A.sz b))) (33 + tgt a b) (nI 1 + jmax (A.ge a) (A.ge b))) 1 = nI (A.se 1) := l1
          have l2 := v5.rse (show 1 < 3 by omega)
          have l2' : s3 1 = nI (A.se 1) := l2
          obtain ⟨B, n, he', sa', fa', ge', ns', sp', bo', fi', s', u1, u2, u3, u4, u5, u6, u7⟩ := react_sim hF ((w2.warm _ _).warm _ _) r6 v7
          refine ⟨nI n, B, hs', o', z', hv', be', le2, he', sa', fa', ge', t2, ns', sp', bo', fi', se0, le0, he0, sa0, fa0, ge0, ns, nf, sp, bo, fi, s', X, Y, u3.1, ?_, u4, u5, q1, ?_, ?_⟩
          · have := u3.sp
            have e : (fuseE A a b).sp = A.sp := rfl
            have : B.sp ≤ (fuseE A a b).sp + 12 := this
            omega
          · rw [q2, bd3_s, cp, bd11_s, r1, bd6_s, nm_eq, k2, nI_add, ix_nIs (by omega) (by omega), gd_true, nm_eq, nI_clamps (show tgt a b + 1 < 2147483648 by omega), r2, r3, bd3_s, ix_nIs (by omega) (by omega), gd_true, ix_nIs (by omega) (by omega), gd_true, ix_nIs (by omega) (by omega), gd_true, nm_eq, nI_clamps (by omega), nI_clamps (by omega), nI_clamps (by omega), j1, j2, k1, pk_subs (by omega), r4, bd1_s, r5, bd1_s, u6, bd9_s]
          · have jl := jmax_le (A.ge a) (A.ge b)
            rw [q3, bd2_s, nI_add, ix_nIs (by omega) (by omega), gd_true, nm_eq, nI_clamps (by omega), f3, jn_eq, m59, nI_add, nI_add, ix_nIs (by omega) (by omega), gd_true, ix_nIs (by omega) (by omega), gd_true, jn_eq, nI_clamps (by omega), nI_clamps (by omega), f4, f5, gd_true, gd_true]
            by_cases c : A.ge a ≤ A.ge b
            · rw [if_pos c] at jl
              rw [if_pos c]
              dsimp only
              rw [f1, bd1_s, v1, bd1_s, v2, bd1_s, nm_eq, k2, f2, bd1_s, nI_add, ix_nIs (by omega) (by omega), gd_true, nm_eq, nI_clamps (by omega), f6, nI_add, nI_add, z2, jn_eq, f7, pk_subs (show 1 ≤ (removeA A b).wn by omega), m220, jn_eq, m282, gd_true, gd_true, nm_eq, nI_clamps (by omega), ix_nIs (by omega) (by omega), gd_true, i4, upd_ne (by omega), i9, nI_add, nI_add, ← jl, l1', pk_subs (by omega), v4, bd1_s, l2', v6, bd1_s, u7, bd2_s]
            · rw [if_neg c] at jl
              rw [if_neg c]
              dsimp only
              rw [f1, bd1_s, v1, bd1_s, v2, bd1_s, nm_eq, k2, f2, bd1_s, nI_add, ix_nIs (by omega) (by omega), gd_true, nm_eq, nI_clamps (by omega), f6, nI_add, nI_add, z2, jn_eq, f7, pk_subs (show 1 ≤ (removeA A b).wn by omega), m220, jn_eq, m282, gd_true, gd_true, nm_eq, nI_clamps (by omega), ix_nIs (by omega) (by omega), gd_true, i4, upd_ne (by omega), i9, nI_add, nI_add, ← jl, l1', pk_subs (by omega), v4, bd1_s, l2', v6, bd1_s, u7, bd2_s]
        · rw [if_neg hth, if_neg hth]
          exact ⟨-5, A, hs, o, z, hv, be, le, he, sa, fa, ge, t2, ns, sp, bo, fi, a1, a2, a3, a4, a5, a6, b1, b2, b3, b4, b5, s, ql, qh, hW, by omega, h, g, hH, rfl, rfl⟩
    · rw [if_neg hq, if_pos zero_eq, if_pos zero_eq]
      exact ⟨-1, A, hs, o, z, hv, be, le, he, sa, fa, ge, t, ns, sp, bo, fi, a1, a2, a3, a4, a5, a6, b1, b2, b3, b4, b5, s, ql, qh, hW, by omega, h, g, hH, rfl, rfl⟩
  · rw [if_neg hp, if_pos zero_eq, if_pos zero_eq]
    exact ⟨-1, A, hs, o, z, hv, be, le, he, sa, fa, ge, t, ns, sp, bo, fi, a1, a2, a3, a4, a5, a6, b1, b2, b3, b4, b5, s, ql, qh, hW, by omega, h, g, hH, rfl, rfl⟩
end FU
end
section
/-! PURE: count, side by side -/
section CT
variable {Fu : Nat} {A : Sh} {se le he sa fa ge : Ar} {ns nf sp bo fi : Int32} {s : Ar}
theorem sim_count (hF : 20000000 ≤ Fu) (hW : WF A) (h : RV A se le he sa fa ge ns nf sp bo fi) (g : RS A s) (ln z p : Int32) : ∃ r, f_X3_count Fu ln se he sa fa ge ns sp bo fi z p = some r ∧ f_X4_count Fu s z ln p = some r := by
  unfold f_X3_count f_X4_count
  rw [nm_eq, nm_eq]
  by_cases w0 : p = nI 0
  · rw [if_pos w0, if_pos w0]; exact ⟨_, rfl, by rw [g.rns, h.rns]⟩
  rw [if_neg w0, if_neg w0]
  by_cases w1 : p = nI 1
  · rw [if_pos w1, if_pos w1, words_r hW h, bd1_s]; exact ⟨_, rfl, by rw [g.rwn]⟩
  rw [if_neg w1, if_neg w1]
  by_cases w2 : p = nI 2
  · rw [if_pos w2, if_pos w2, heatOfAll_s hF hW h, allHeat_s hF hW g, bd1_s]; exact ⟨_, rfl, rfl⟩
  rw [if_neg w2, if_neg w2]
  by_cases w3 : p = nI 3
  · rw [if_pos w3, if_pos w3, families_s hF hW h, fam_s hF hW g, bd1_s]; exact ⟨_, rfl, rfl⟩
  rw [if_neg w3, if_neg w3]
  by_cases w4 : p = nI 4
  · subst w4
    rw [if_pos rfl, if_pos rfl, show nI 6 + nI 4 - nI 4 = nI 6 by decide, ix_nIs (by omega) (by omega), gd_true, nI_clamps (by omega)]; exact ⟨_, rfl, by rw [g.rsp, h.rsp]⟩
  rw [if_neg w4, if_neg w4]
  by_cases w5 : p = nI 5
  · subst w5
    rw [if_pos rfl, if_pos rfl, show nI 6 + nI 5 - nI 4 = nI 7 by decide, ix_nIs (by omega) (by omega), gd_true, nI_clamps (by omega)]; exact ⟨_, rfl, by rw [g.rbo, h.rbo]⟩
  rw [if_neg w5, if_neg w5]
  by_cases w6 : p = nI 6
  · subst w6
    rw [if_pos rfl, if_pos rfl, show nI 6 + nI 6 - nI 4 = nI 8 by decide, ix_nIs (by omega) (by omega), gd_true, nI_clamps (by omega)]; exact ⟨_, rfl, by rw [g.rfi, h.rfi]⟩
  rw [if_neg w6, if_neg w6]
  by_cases w7 : p = nI 7
  · rw [if_pos w7, if_pos w7, greatest_s hF hW h, great_s hF hW g, bd1_s]; exact ⟨_, rfl, rfl⟩
  rw [if_neg w7, if_neg w7]
  by_cases w8 : p = nI 8
  · subst w8
    rw [if_pos rfl, if_pos rfl, show nI 0 + nI 8 - nI 8 = nI 0 by decide, ix_nIs (by omega) (by omega), gd_true, nI_clamps (by omega)]; exact ⟨_, rfl, by rw [g.rse (show 0 < 3 by omega), h.rse (show 0 < 3 by omega)]⟩
  rw [if_neg w8, if_neg w8]
  by_cases w9 : p = nI 9
  · subst w9
    rw [if_pos rfl, if_pos rfl, show nI 0 + nI 9 - nI 8 = nI 1 by decide, ix_nIs (by omega) (by omega), gd_true, nI_clamps (by omega)]; exact ⟨_, rfl, by rw [g.rse (show 1 < 3 by omega), h.rse (show 1 < 3 by omega)]⟩
  rw [if_neg w9, if_neg w9]
  by_cases w10 : p = nI 10
  · subst w10
    rw [if_pos rfl, if_pos rfl, show nI 0 + nI 10 - nI 8 = nI 2 by decide, ix_nIs (by omega) (by omega), gd_true, nI_clamps (by omega)]; exact ⟨_, rfl, by rw [g.rse (show 2 < 3 by omega), h.rse (show 2 < 3 by omega)]⟩
  rw [if_neg w10, if_neg w10]
  by_cases w11 : p = nI 11
  · rw [if_pos w11]; exact ⟨_, rfl, rfl⟩
  rw [if_neg w11]
  by_cases w12 : p = nI 12
  · rw [if_pos w12]; exact ⟨_, rfl, rfl⟩
  rw [if_neg w12]
  exact ⟨_, rfl, rfl⟩
end CT
/-- a pair stands at p -/
def pairB (A : Sh) (a b p : Nat) : Bool := decide (A.le p = a) && decide (A.le (p + 1) = b) && decide (p + 1 < A.st (A.so p + 1))
def sbF (A : Sh) (a b : Nat) : Nat → Nat × Nat → Nat × Nat := fun p x => if pairB A a b p = true then (x.1 + 1, if x.1 = 0 then p else x.2) else x
def nonI (c v : Nat) : Int32 := if c = 0 then -6 else nI v
theorem nonI_0 (v : Nat) : nonI 0 v = -6 := rfl
theorem nonI_s (c v : Nat) (h : ¬ c = 0) : nonI c v = nI v := by unfold nonI; rw [if_neg h]
theorem pairB_t {A : Sh} {a b p : Nat} : (pairB A a b p = true) = (A.le p = a ∧ A.le (p + 1) = b ∧ p + 1 < A.st (A.so p + 1)) := by
  unfold pairB
  simp only [Bool.and_eq_true, decide_eq_true_eq, and_assoc]
section SB
variable {Fu : Nat} {A : Sh} {se le he sa fa ge : Ar} {ns nf sp bo fi : Int32} {s : Ar}
theorem sb_L (hF : 20000000 ≤ Fu) (k : Int32 → Int32 → Option Int32) (hW : WF A) (h : RV A se le he sa fa ge ns nf sp bo fi) {a b : Nat} (ha : a < 26) (hb : b < 26) : ∀ (fu i : Nat) (x : Nat × Nat), i ≤ A.wn - 1 → x.1 ≤ i → A.wn - 1 - i < fu →
    f_X3_sideBySide_L36 Fu k le sa ns (nI a) (nI b) fu (nI x.1) (nonI x.1 x.2) (nI i) = k (nI (itF (sbF A a b) i (A.wn - 1 - i) x).1) (nonI (itF (sbF A a b) i (A.wn - 1 - i) x).1 (itF (sbF A a b) i (A.wn - 1 - i) x).2) := by
  have hw := hW.w
  have e1 := words_r (Fu := Fu) hW h
  intro fu
  induction fu with
  | zero => intro i x h1 h2 h3; omega
  | succ fu ih =>
    intro i x h1 h2 h3
    rw [f_X3_sideBySide_L36_s, e1, bd1_s, nI_add]
    by_cases hh : A.wn ≤ i + 1
    · have e : A.wn - 1 - i = 0 := by omega
      rw [if_pos (by rw [nI_les (by omega) (by omega)]; exact hh), e, itF_0]
    · have hso := hW.so (show i < A.wn by omega)
      have e2 := isPair_s hF hW h ha hb hso.1 hso.2.1 hso.2.2 (show i + 1 < A.wn by omega)
      rw [if_neg (by rw [nI_les (by omega) (by omega)]; exact hh), e2, bd1_s, jn_eq, show A.wn - 1 - i = (A.wn - 1 - (i + 1)) + 1 by omega, itF_s]
      have hx : (sbF A a b i x).1 ≤ i + 1 := by
        unfold sbF
        by_cases c : pairB A a b i = true
        · rw [if_pos c]; show x.1 + 1 ≤ i + 1; omega
        · rw [if_neg c]; omega
      rw [← ih (i + 1) (sbF A a b i x) (by omega) hx (by omega)]
      unfold sbF
      by_cases c : A.le i = a ∧ A.le (i + 1) = b ∧ i + 1 < A.st (A.so i + 1)
      · have c2 : pairB A a b i = true := by rw [pairB_t]; exact c
        rw [if_pos c, if_neg one_ne, if_pos c2, nm_eq]
        dsimp only
        rw [nI_add]
        by_cases d : x.1 = 0
        · rw [if_pos (show nI x.1 = 0 by rw [d]; exact zero_eq), if_pos d]
          rw [nonI_s _ i (by omega)]
        · rw [if_neg (show ¬ nI x.1 = 0 by rw [nI_zero, nI_eqs (by omega) (by omega)]; exact d), if_neg d]
          rw [nonI_s _ _ d, nonI_s _ _ (by omega)]
      · have c2 : ¬ pairB A a b i = true := by rw [pairB_t]; exact c
        rw [if_neg c, if_pos zero_eq, if_neg c2]
theorem sb60_L (hF : 20000000 ≤ Fu) (k : Int32 → Int32 → Int32 → Option Int32) (hW : WF A) (g : RS A s) {a b K : Nat} (ha : a < 26) (hb : b < 26) (hK : K < A.ns) : ∀ (fu i : Nat) (x : Nat × Nat), A.st K + i < A.st (K + 1) → x.1 ≤ A.st K + i → A.st (K + 1) - 1 - (A.st K + i) < fu →
    f_X4_sideBySide_L60 Fu k s (nI a) (nI b) (nI K) fu (nI x.1) (nonI x.1 (A.so x.2)) (nonI x.1 (x.2 - A.st (A.so x.2))) (nI i) = k (nI (itF (sbF A a b) (A.st K + i) (A.st (K + 1) - 1 - (A.st K + i)) x).1) (nonI (itF (sbF A a b) (A.st K + i) (A.st (K + 1) - 1 - (A.st K + i)) x).1 (A.so (itF (sbF A a b) (A.st K + i) (A.st (K + 1) - 1 - (A.st K + i)) x).2)) (nonI (itF (sbF A a b) (A.st K + i) (A.st (K + 1) - 1 - (A.st K + i)) x).1 ((itF (sbF A a b) (A.st K + i) (A.st (K + 1) - 1 - (A.st K + i)) x).2 - A.st (A.so (itF (sbF A a b) (A.st K + i) (A.st (K + 1) - 1 - (A.st K + i)) x).2))) := by
  have hw := hW.w
  have hn := hW.n
  have hm2 := hW.1.le (show K + 1 ≤ A.ns by omega) (Nat.le_refl _)
  have hw' : A.st A.ns ≤ 150 := hW.w
  have e1 := first_r hF hW g (show K ≤ A.ns by omega)
  have e2 := g.rlo hK
  intro fu
  induction fu with
  | zero => intro i x h1 h2 h3; omega
  | succ fu ih =>
    intro i x h1 h2 h3
    rw [f_X4_sideBySide_L60_s, nI_add, ix_nIs (by omega) (by omega), gd_true, nI_clamps (by omega), e2, pk_subs (by omega)]
    by_cases hh : A.st (K + 1) - A.st K - 1 ≤ i
    · have e : A.st (K + 1) - 1 - (A.st K + i) = 0 := by omega
      rw [if_pos (by rw [nI_les (by omega) (by omega)]; exact hh), e, itF_0]
    · have hp : A.st K + i < A.wn := by unfold Sh.wn; omega
      have hp2 : A.st K + i + 1 < A.wn := by unfold Sh.wn; omega
      have hso : A.so (A.st K + i) = K := stO_s hW.1 hK (by omega) h1
      have l1 := g.rle hp
      have l2 := g.rle hp2
      have b1 := (hW.2.2 _ hp).1
      have b2 := (hW.2.2 _ hp2).1
      rw [if_neg (by rw [nI_les (by omega) (by omega)]; exact hh), e1, bd1_s, nI_add, nI_add, ix_nIs (by omega) (by omega), gd_true, jn_eq, nI_clamps (by omega), show 45 + A.st K + i = 45 + (A.st K + i) by omega, l1, nI_add, ix_nIs (by omega) (by omega), gd_true, nI_clamps (by omega), show 45 + (A.st K + i) + 1 = 45 + (A.st K + i + 1) by omega, l2, nI_add, show A.st (K + 1) - 1 - (A.st K + i) = (A.st (K + 1) - 1 - (A.st K + (i + 1))) + 1 by omega, itF_s, show A.st K + i + 1 = A.st K + (i + 1) by omega]
      have hx : (sbF A a b (A.st K + i) x).1 ≤ A.st K + (i + 1) := by
        unfold sbF
        by_cases c : pairB A a b (A.st K + i) = true
        · rw [if_pos c]; show x.1 + 1 ≤ _; omega
        · rw [if_neg c]; omega
      rw [← ih (i + 1) (sbF A a b (A.st K + i) x) (by omega) hx (by omega)]
      unfold sbF
      have cn : ∀ u v : Nat, u < 26 → v < 26 → ((nI u = nI v) = (u = v)) := fun u v hu hv => nI_eqs (by omega) (by omega)
      have n1 : A.le (A.st K + i) = a → nI (A.le (A.st K + i)) = nI a := fun z => by rw [z]
      have n2 : A.le (A.st K + (i + 1)) = b → nI (A.le (A.st K + (i + 1))) = nI b := fun z => by rw [z]
      have n3 : ¬ A.le (A.st K + i) = a → ¬ nI (A.le (A.st K + i)) = nI a := fun z y => z ((cn _ _ b1 ha).mp y)
      have n4 : ¬ A.le (A.st K + (i + 1)) = b → ¬ nI (A.le (A.st K + (i + 1))) = nI b := fun z y => z ((cn _ _ b2 hb).mp y)
      by_cases c : pairB A a b (A.st K + i) = true
      · have c2 := c
        rw [pairB_t] at c2
        rw [if_pos (n1 c2.1), if_pos (n2 c2.2.1), if_pos c]
        dsimp only
        rw [nm_eq, nm_eq, nm_eq, if_neg one_ne, if_neg one_ne, if_neg one_ne, nI_add]
        by_cases d : x.1 = 0
        · rw [if_pos (show nI x.1 = 0 by rw [d]; exact zero_eq), if_pos (show nI x.1 = 0 by rw [d]; exact zero_eq), if_pos d]
          rw [nonI_s _ _ (by omega), nonI_s _ _ (by omega), hso, Nat.add_sub_cancel_left]
        · have dn : ¬ nI x.1 = 0 := by rw [nI_zero, nI_eqs (by omega) (by omega)]; exact d
          rw [if_neg dn, if_neg dn, if_neg d]
          rw [nonI_s _ _ d, nonI_s _ _ d, nonI_s _ _ (by omega), nonI_s _ _ (by omega)]
      · rw [if_neg c]
        have c3 : ¬ (A.le (A.st K + i) = a ∧ A.le (A.st K + (i + 1)) = b) := fun z => c (by rw [pairB_t, hso]; exact ⟨z.1, z.2, by omega⟩)
        by_cases d1 : A.le (A.st K + i) = a
        · rw [if_pos (n1 d1), if_neg (n4 (fun z => c3 ⟨d1, z⟩))]
          dsimp only
          rw [nm_eq, nm_eq, nm_eq, if_pos zero_eq, if_pos zero_eq, if_pos zero_eq, nI_add, Nat.add_zero]
        · rw [if_neg (n3 d1)]
          dsimp only
          rw [nm_eq, nm_eq, nm_eq, if_pos zero_eq, if_pos zero_eq, if_pos zero_eq, nI_add, Nat.add_zero]
end SB
end
section
/-! PURE: side by side -/
section SB2
variable {Fu : Nat} {A : Sh} {se le he sa fa ge : Ar} {ns nf sp bo fi : Int32} {s : Ar}
theorem sb_le (A : Sh) (a b n i : Nat) (x : Nat × Nat) (h : x.1 ≤ i) : (itF (sbF A a b) i n x).1 ≤ i + n := by
  refine itF_inv (sbF A a b) (fun j y => y.1 ≤ j) n i x h (fun j y h1 h2 h3 => ?_)
  show (sbF A a b j y).1 ≤ j + 1
  unfold sbF
  by_cases c : pairB A a b j = true
  · rw [if_pos c]; show y.1 + 1 ≤ j + 1; have : y.1 ≤ j := h3; omega
  · rw [if_neg c]; have : y.1 ≤ j := h3; omega
theorem sb_lt (A : Sh) (a b n i : Nat) (x : Nat × Nat) (h : x.1 = 0 ∨ x.2 < i) : (itF (sbF A a b) i n x).1 = 0 ∨ (itF (sbF A a b) i n x).2 < i + n := by
  refine itF_inv (sbF A a b) (fun j y => y.1 = 0 ∨ y.2 < j) n i x h (fun j y h1 h2 h3 => ?_)
  show (sbF A a b j y).1 = 0 ∨ (sbF A a b j y).2 < j + 1
  have h3 : y.1 = 0 ∨ y.2 < j := h3
  unfold sbF
  by_cases c : pairB A a b j = true
  · rw [if_pos c]
    right
    show (if y.1 = 0 then j else y.2) < j + 1
    by_cases d : y.1 = 0
    · rw [if_pos d]; omega
    · rw [if_neg d]; omega
  · rw [if_neg c]; omega
theorem sb_last (hW : WF A) (a b : Nat) {K : Nat} (hK : K < A.ns) (x : Nat × Nat) : sbF A a b (A.st (K + 1) - 1) x = x := by
  have hm := hW.1.2.2.1 K hK
  have hso : A.so (A.st (K + 1) - 1) = K := stO_s hW.1 hK (by omega) (by omega)
  have : ¬ pairB A a b (A.st (K + 1) - 1) = true := by
    rw [pairB_t, hso]
    intro z
    have := z.2.2
    omega
  unfold sbF
  rw [if_neg this]
theorem sb46_L (hF : 20000000 ≤ Fu) (k : Int32 → Int32 → Int32 → Option Int32) (hW : WF A) (g : RS A s) {a b : Nat} (ha : a < 26) (hb : b < 26) : ∀ (fu K : Nat) (x : Nat × Nat), K ≤ A.ns → x = itF (sbF A a b) 0 (A.st K) (0, 0) → A.ns - K < fu →
    f_X4_sideBySide_L46 Fu k s (nI a) (nI b) fu (nI x.1) (nonI x.1 (A.so x.2)) (nonI x.1 (x.2 - A.st (A.so x.2))) (nI K) = k (nI (itF (sbF A a b) 0 A.wn (0, 0)).1) (nonI (itF (sbF A a b) 0 A.wn (0, 0)).1 (A.so (itF (sbF A a b) 0 A.wn (0, 0)).2)) (nonI (itF (sbF A a b) 0 A.wn (0, 0)).1 ((itF (sbF A a b) 0 A.wn (0, 0)).2 - A.st (A.so (itF (sbF A a b) 0 A.wn (0, 0)).2))) := by
  have hn := hW.n
  intro fu
  induction fu with
  | zero => intro K x h1 h2 h3; omega
  | succ fu ih =>
    intro K x h1 h2 h3
    rw [f_X4_sideBySide_L46_s, g.rns]
    by_cases hh : A.ns ≤ K
    · have e : K = A.ns := by omega
      subst e
      rw [if_pos (by rw [nI_les (by omega) (by omega)]; exact hh), h2]
      rfl
    · have hK : K < A.ns := by omega
      have hm := hW.1.2.2.1 K hK
      have hw' := hW.1.b (show K + 1 ≤ A.ns by omega)
      have hx : x.1 ≤ A.st K := by
        rw [h2]
        have := sb_le A a b (A.st K) 0 (0, 0) (Nat.le_refl _)
        omega
      rw [if_neg (by rw [nI_les (by omega) (by omega)]; exact hh), jn_eq]
      have e60 := sb60_L hF (fun v37 v38 v39 => f_X4_sideBySide_L46 Fu k s (nI a) (nI b) fu v37 v38 v39 (nI K + nI 1)) hW g ha hb hK Fu 0 x (by omega) (by omega) (by omega)
      rw [e60, nI_add, Nat.add_zero]
      refine ih (K + 1) _ (by omega) ?_ (by omega)
      have e1 : A.st (K + 1) = A.st K + ((A.st (K + 1) - 1 - A.st K) + 1) := by omega
      have e2 := itF_add (sbF A a b) (A.st K) (A.st (K + 1) - 1 - A.st K + 1) 0 (0, 0)
      rw [← e1, ← h2, Nat.zero_add, itF_end, show A.st K + (A.st (K + 1) - 1 - A.st K) = A.st (K + 1) - 1 by omega, sb_last hW a b hK] at e2
      exact e2.symm
theorem sim_side (hF : 20000000 ≤ Fu) (hW : WF A) (h : RV A se le he sa fa ge ns nf sp bo fi) (g : RS A s) (p q w : Int32) : ∃ r, f_X3_sideBySide Fu le sa ns p q w = some r ∧ f_X4_sideBySide Fu s p q w = some r := by
  have hw := hW.w
  unfold f_X3_sideBySide f_X4_sideBySide f_X3_isLetter
  rw [isWithin_s, in4_s, bd1_s, bz_if, gd_true, within_n (n := 25) (by omega), bd1_s, bd1_s]
  by_cases hp : isS (25 + 1) p = true
  · rw [if_pos hp, if_neg one_ne, if_neg one_ne, isWithin_s, in4_s, bd1_s, bz_if, gd_true, within_n (n := 25) (by omega), bd1_s, bd1_s]
    by_cases hq : isS (25 + 1) q = true
    · rw [if_pos hq, if_neg one_ne, if_neg one_ne, isWithin_s, in4_s, within_n (n := 2) (by omega), bd1_s, bd1_s]
      by_cases hww : isS (2 + 1) w = true
      · rw [if_pos hww, if_neg one_ne, if_neg one_ne]
        obtain ⟨a, ha, rfl⟩ := isS_t hp (by omega)
        obtain ⟨b, hb, rfl⟩ := isS_t hq (by omega)
        obtain ⟨v, hv, rfl⟩ := isS_t hww (by omega)
        have m1 := fun k => sb_L hF k hW h (show a < 26 from ha) (show b < 26 from hb) Fu 0 (0, 0) (Nat.zero_le _) (Nat.le_refl _) (by omega)
        have m2 := fun k => sb46_L hF k hW g (show a < 26 from ha) (show b < 26 from hb) Fu 0 (0, 0) (Nat.zero_le _) (by rw [hW.1.2.1]; rfl) (by have := hW.n; omega)
        have e : itF (sbF A a b) 0 A.wn (0, 0) = itF (sbF A a b) 0 (A.wn - 1 - 0) (0, 0) := by
          by_cases c : A.wn = 0
          · rw [c]
          · have c2 : A.wn = (A.wn - 1 - 0) + 1 := by omega
            have hns : A.ns ≠ 0 := by
              intro z
              have : A.wn = A.st A.ns := rfl
              rw [z, hW.1.2.1] at this
              exact c this
            have e3 := sb_last hW a b (K := A.ns - 1) (by omega) (itF (sbF A a b) 0 (A.wn - 1 - 0) (0, 0))
            rw [show A.ns - 1 + 1 = A.ns by omega] at e3
            have e4 : A.st A.ns - 1 = 0 + (A.wn - 1 - 0) := by
              have : A.wn = A.st A.ns := rfl
              omega
            rw [e4] at e3
            rw [c2, itF_end, show A.wn - 1 - 0 + 1 - 1 - 0 = A.wn - 1 - 0 by omega]
            exact e3
        rw [e] at m2
        have l1 := sb_le A a b (A.wn - 1 - 0) 0 (0, 0) (Nat.le_refl _)
        have l2 := sb_lt A a b (A.wn - 1 - 0) 0 (0, 0) (Or.inl rfl)
        generalize itF (sbF A a b) 0 (A.wn - 1 - 0) (0, 0) = X at m1 m2 l1 l2
        rw [jn_eq, show (-6 : Int32) = nonI (0, 0).1 (0, 0).2 from rfl, show nI 0 = nI ((0, 0) : Nat × Nat).1 from rfl]
        have m1' := m1 (fun v24 v25 => if nI v = 0 then some v24 else if v24 = 0 then some (-6) else jn (fun v33 => some v33) (fun j34 => if nI v = nI 1 then bd1 (f_X2_storyAt Fu sa ns v25) (fun r31 => j34 r31) else bd1 (f_X2_placeOf Fu sa ns v25) (fun r29 => j34 r29)))
        have m2' := m2 (fun v40 v41 v42 => nm (if nI v = 0 then v40 else (if nI v = nI 1 then v41 else v42)) (fun v45 => some v45))
        refine ⟨if v = 0 then nI X.1 else if v = 1 then nonI X.1 (A.so X.2) else nonI X.1 (X.2 - A.st (A.so X.2)), ?_, ?_⟩
        · refine Eq.trans m1' ?_
          by_cases v0 : v = 0
          · subst v0
            rw [if_pos zero_eq, if_pos rfl]
          · have nv0 : ¬ nI v = 0 := by rw [nI_zero, nI_eqs (by omega) (by omega)]; exact v0
            rw [if_neg nv0, if_neg v0]
            by_cases x0 : X.1 = 0
            · rw [x0, if_pos zero_eq, nonI_0, nonI_0, ite_self]
            · have nx0 : ¬ nI X.1 = 0 := by rw [nI_zero, nI_eqs (by omega) (by omega)]; exact x0
              have hX : X.2 < A.wn := by omega
              have hso := hW.so hX
              rw [if_neg nx0, nonI_s _ _ x0, nonI_s _ _ x0, nonI_s _ _ x0, jn_eq, h.rns]
              by_cases v1 : v = 1
              · subst v1
                rw [if_pos rfl, if_pos rfl, storyAt_s hF hW.1 (fun k hk => h.rsa hk) hso.1 hso.2.1 hso.2.2, bd1_s]
              · have nv1 : ¬ nI v = nI 1 := by rw [nI_eqs (by omega) (by omega)]; exact v1
                rw [if_neg nv1, if_neg v1, placeOf_s hF hW.1 (fun k hk => h.rsa hk) hso.1 hso.2.1 hso.2.2, bd1_s]
        · rw [jn_eq]
          refine Eq.trans m2' ?_
          rw [nm_eq]
          by_cases v0 : v = 0
          · subst v0
            rw [if_pos zero_eq, if_pos rfl]
          · have nv0 : ¬ nI v = 0 := by rw [nI_zero, nI_eqs (by omega) (by omega)]; exact v0
            rw [if_neg nv0, if_neg v0]
            by_cases v1 : v = 1
            · subst v1
              rw [if_pos rfl, if_pos rfl]
            · have nv1 : ¬ nI v = nI 1 := by rw [nI_eqs (by omega) (by omega)]; exact v1
              rw [if_neg nv1, if_neg v1]
      · rw [if_neg hww, if_pos zero_eq, if_pos zero_eq]
        exact ⟨-2, rfl, rfl⟩
    · rw [if_neg hq, if_pos zero_eq, if_pos zero_eq]
      exact ⟨-2, rfl, rfl⟩
  · rw [if_neg hp, if_pos zero_eq, if_pos zero_eq]
    exact ⟨-2, rfl, rfl⟩
end SB2
end
section
/-! PURE: what if; ifHeated -/
theorem aside_L (Fu : Nat) (k : Ar → Option Ar) (s a : Ar) : ∀ (fu i : Nat), i ≤ 345 → 345 - i < fu → f_X4_putAside_L2 Fu k s fu (nI i) (va_cpy s a 0 0 i) = k (va_cpy s a 0 0 345) := by
  intro fu
  induction fu with
  | zero => intro i h1 h2; omega
  | succ fu ih =>
    intro i h1 h2
    rw [f_X4_putAside_L2_s]
    by_cases hh : 345 ≤ i
    · have e : i = 345 := by omega
      subst e
      simp (disch := omega) only [gd_true, nm_eq, jn_eq, bd1_s, bd2_s, bd3_s, bd4_s, bd5_s, bd6_s, bd7_s, bd8_s, bd9_s, bd10_s, bd11_s, bd12_s, nI_add, pk_mul, pk_subs, nI_m1s, ix_nIs, nI_clamps, nI_les, nI_lts, nI_eqs, bz_0, bz_1, nI_zero, eq_self, if_true, if_false, if_pos, if_neg]
    · rw [← ih (i + 1) (by omega) (by omega), ← cpy_step, Nat.zero_add]
      simp (disch := omega) only [gd_true, nm_eq, jn_eq, bd1_s, bd2_s, bd3_s, bd4_s, bd5_s, bd6_s, bd7_s, bd8_s, bd9_s, bd10_s, bd11_s, bd12_s, nI_add, pk_mul, pk_subs, nI_m1s, ix_nIs, nI_clamps, nI_les, nI_lts, nI_eqs, bz_0, bz_1, nI_zero, eq_self, if_true, if_false, if_neg hh]
theorem back4_L (Fu : Nat) (k : Ar → Option Ar) (s a : Ar) : ∀ (fu i : Nat), i ≤ 345 → 345 - i < fu → f_X4_putBack_L2 Fu k a fu (nI i) (va_cpy a s 0 0 i) = k (va_cpy a s 0 0 345) := by
  intro fu
  induction fu with
  | zero => intro i h1 h2; omega
  | succ fu ih =>
    intro i h1 h2
    rw [f_X4_putBack_L2_s]
    by_cases hh : 345 ≤ i
    · have e : i = 345 := by omega
      subst e
      simp (disch := omega) only [gd_true, nm_eq, jn_eq, bd1_s, bd2_s, bd3_s, bd4_s, bd5_s, bd6_s, bd7_s, bd8_s, bd9_s, bd10_s, bd11_s, bd12_s, nI_add, pk_mul, pk_subs, nI_m1s, ix_nIs, nI_clamps, nI_les, nI_lts, nI_eqs, bz_0, bz_1, nI_zero, eq_self, if_true, if_false, if_pos, if_neg]
    · rw [← ih (i + 1) (by omega) (by omega), ← cpy_step, Nat.zero_add]
      simp (disch := omega) only [gd_true, nm_eq, jn_eq, bd1_s, bd2_s, bd3_s, bd4_s, bd5_s, bd6_s, bd7_s, bd8_s, bd9_s, bd10_s, bd11_s, bd12_s, nI_add, pk_mul, pk_subs, nI_m1s, ix_nIs, nI_clamps, nI_les, nI_lts, nI_eqs, bz_0, bz_1, nI_zero, eq_self, if_true, if_false, if_neg hh]
theorem aside_s {Fu : Nat} (hF : 20000000 ≤ Fu) (s a : Ar) : f_X4_putAside Fu s a = some (va_cpy s a 0 0 345) := by
  have := aside_L Fu (fun q => some q) s a Fu 0 (by omega) (by omega)
  rw [cpy_0] at this
  unfold f_X4_putAside
  rw [jn_eq]
  exact this
theorem back4_s {Fu : Nat} (hF : 20000000 ≤ Fu) (s a : Ar) : f_X4_putBack Fu s a = some (va_cpy a s 0 0 345) := by
  have := back4_L Fu (fun q => some q) s a Fu 0 (by omega) (by omega)
  rw [cpy_0] at this
  unfold f_X4_putBack
  rw [jn_eq]
  exact this
section TR
variable {Fu M : Nat} {A : Sh} {se le he sa fa ge : Ar} {ns nf sp bo fi : Int32} {s : Ar}
theorem try_sim (hF : 100000000 ≤ Fu) (hW : WF A) (h : RV A se le he sa fa ge ns nf sp bo fi) (g : RS A s) {p b : Nat} (hp : p < A.wn) (hb : b ≤ 1000) (a1 a2 a3 a4 a5 a6 : Ar) (b1 b2 b3 b4 b5 : Int32) (a : Ar) (r1 r2 r3 r4 : Int32) :
    ∃ B n c1 c2 c3 c4 c5 c6 d1 d2 d3 d4 d5 s' a', Runs (warmA A p b) B n ∧ n ≤ 149850 ∧ Keeps (warmA A p b) B ∧ RV B c1 c2 c3 c4 c5 c6 d1 d2 d3 d4 d5 ∧ RS A s' ∧
      f_X3_tryHeating Fu se le he sa fa ge ns nf sp bo fi a1 a2 a3 a4 a5 a6 b1 b2 b3 b4 b5 (nI p) (nI b) = some (nI n, c1, c2, c3, c4, c5, c6, d1, d2, d3, d4, d5) ∧
      f_X4_tryHeat Fu s a r1 r2 r3 r4 (nI p) (nI b) = some (s', a', nI n, nI B.sp - nI A.sp, nI B.ns, heatR B.he 0 B.wn) := by
  obtain ⟨se0, le0, he0, sa0, fa0, ge0, cp, oo⟩ := copyFrom_s (Fu := Fu) hW h a1 a2 a3 a4 a5 a6 b1 b2 b3 b4 b5
  obtain ⟨he1, w1, w2⟩ := warm_s (Fu := Fu) hW oo hp hb
  obtain ⟨s1, v1, v2⟩ := warm4_s (Fu := Fu) hW g hp hb
  obtain ⟨B, n, he', sa', fa', ge', ns', sp', bo', fi', s', u1, u2, u3, u4, u5, u6, u7⟩ := react_sim hF (hW.warm p b) w2 v2
  have e1 := allHeat_s (by omega : 20000000 ≤ Fu) u3.1 u5
  have e2 := aside_s (by omega : 20000000 ≤ Fu) s a
  have e3 := back4_s (by omega : 20000000 ≤ Fu) s' (va_cpy s a 0 0 345)
  have e4 : va_cpy s a 0 0 345 6 = nI A.sp := by
    have := cpy_in (f := s) (g := a) (sp := 0) (dp := 0) (n := 345) (j := 6) (by omega)
    rw [Nat.zero_add] at this
    rw [this]
    exact g.rsp
  refine ⟨B, n, se0, le0, he', sa', fa', ge', ns', nf, sp', bo', fi', va_cpy (va_cpy s a 0 0 345) s' 0 0 345, va_cpy s a 0 0 345, u1, u2, u3, u4, g.congr hW (fun j hj => ?_), ?_, ?_⟩
  · have q1 := cpy_in (f := va_cpy s a 0 0 345) (g := s') (sp := 0) (dp := 0) (n := 345) hj
    have q2 := cpy_in (f := s) (g := a) (sp := 0) (dp := 0) (n := 345) hj
    rw [Nat.zero_add] at q1 q2
    rw [q1, q2]
  · unfold f_X3_tryHeating
    rw [cp, bd11_s, w1, bd1_s, u6, bd9_s]
  · unfold f_X4_tryHeat
    rw [e2, bd1_s, v1, bd1_s, u7, bd2_s, e1, bd1_s, e3, bd1_s, e4, u5.rsp, u5.rns]
theorem sim_if (hF : 100000000 ≤ Fu) (hW : WF A) (h : RV A se le he sa fa ge ns nf sp bo fi) (g : RS A s) (a1 a2 a3 a4 a5 a6 : Ar) (b1 b2 b3 b4 b5 : Int32) (a : Ar) (r1 r2 r3 r4 : Int32) (p q b w : Int32) :
    ∃ r c1 c2 c3 c4 c5 c6 d1 d2 d3 d4 d5 s' a' x1 x2 x3 x4, RS A s' ∧
      f_X3_ifHeated Fu se le he sa fa ge ns nf sp bo fi a1 a2 a3 a4 a5 a6 b1 b2 b3 b4 b5 p q b w = some (r, c1, c2, c3, c4, c5, c6, d1, d2, d3, d4, d5) ∧
      f_X4_ifHeated Fu s a r1 r2 r3 r4 p q b w = some (r, s', a', x1, x2, x3, x4) := by
  have y1 := hasWord_s Fu hW.1 (fun k hk => h.rsa hk) p q
  have y2 := isWord_s Fu hW.1 g.rns (fun k hk => g.rlo hk) p q
  rw [← h.rns] at y1
  unfold f_X3_ifHeated f_X4_ifHeated
  rw [y1, y2, bd1_s, bd1_s]
  by_cases hq : isW A.ns A.st p q = true
  · rw [if_pos hq, if_neg one_ne, if_neg one_ne, isWithin_s, in4_s, bd1_s, bd1_s]
    by_cases hb : nI 1 ≤ b ∧ b ≤ nI 500
    · rw [if_pos hb, if_neg one_ne, if_neg one_ne, isWithin_s, in4_s, within_n (n := 3) (by omega), bd1_s, bd1_s]
      by_cases hww : isS (3 + 1) w = true
      · rw [if_pos hww, if_neg one_ne, if_neg one_ne]
        obtain ⟨k, j, hk, hj, rfl, rfl⟩ := isW_t hq hW.1
        obtain ⟨c, hc1, hc2, rfl⟩ := rng hb (by omega) (by omega)
        obtain ⟨v, hv, rfl⟩ := isS_t hww (by omega)
        have hn := hW.n
        have hm2 := hW.1.le (show k + 1 ≤ A.ns by omega) (Nat.le_refl _)
        have hp : A.st k + j < A.wn := by unfold Sh.wn; omega
        have e1 := h.rsa (show k ≤ A.ns by omega)
        have e2 := first_r (by omega : 20000000 ≤ Fu) hW g (show k ≤ A.ns by omega)
        obtain ⟨B, n, c1, c2, c3, c4, c5, c6, d1, d2, d3, d4, d5, s', a', u1, u2, u3, u4, u5, u6, u7⟩ := try_sim hF hW h g hp (show c ≤ 1000 by omega) a1 a2 a3 a4 a5 a6 b1 b2 b3 b4 b5 a r1 r2 r3 r4
        rw [ix_nIs (by omega) (by omega), gd_true, nI_clamps (by omega), e1, nI_add, u6, bd12_s, nm_eq, e2, bd1_s, nI_add, u7, bd6_s, nm_eq]
        by_cases v0 : v = 0
        · subst v0
          rw [if_pos rfl, if_pos zero_eq]
          exact ⟨_, _, _, _, _, _, _, _, _, _, _, _, _, _, _, _, _, _, u5, rfl, rfl⟩
        · have m0 : ¬ nI v = nI 0 := by rw [nI_eqs (by omega) (by omega)]; exact v0
          have m0' : ¬ nI v = 0 := fun z => m0 (by rw [z]; exact zero_eq.symm)
          rw [if_neg m0, if_neg m0']
          by_cases v1 : v = 1
          · subst v1
            rw [if_pos rfl, if_pos rfl, u4.rsp, h.rsp]
            exact ⟨_, _, _, _, _, _, _, _, _, _, _, _, _, _, _, _, _, _, u5, rfl, rfl⟩
          · have m1 : ¬ nI v = nI 1 := by rw [nI_eqs (by omega) (by omega)]; exact v1
            rw [if_neg m1, if_neg m1]
            by_cases v2 : v = 2
            · subst v2
              rw [if_pos rfl, if_pos rfl, u4.rns]
              exact ⟨_, _, _, _, _, _, _, _, _, _, _, _, _, _, _, _, _, _, u5, rfl, rfl⟩
            · have m2 : ¬ nI v = nI 2 := by rw [nI_eqs (by omega) (by omega)]; exact v2
              rw [if_neg m2, if_neg m2, heatOfAll_s (by omega : 20000000 ≤ Fu) u3.1 u4, bd1_s]
              exact ⟨_, _, _, _, _, _, _, _, _, _, _, _, _, _, _, _, _, _, u5, rfl, rfl⟩
      · rw [if_neg hww, if_pos zero_eq, if_pos zero_eq]
        exact ⟨-2, _, _, _, _, _, _, _, _, _, _, _, s, _, _, _, _, _, g, rfl, rfl⟩
    · rw [if_neg hb, if_pos zero_eq, if_pos zero_eq]
      exact ⟨-2, _, _, _, _, _, _, _, _, _, _, _, s, _, _, _, _, _, g, rfl, rfl⟩
  · rw [if_neg hq, if_pos zero_eq, if_pos zero_eq]
    exact ⟨-1, _, _, _, _, _, _, _, _, _, _, _, s, _, _, _, _, _, g, rfl, rfl⟩
/-- calm: no word is too hot -/
def calmA (A : Sh) : Prop := ∀ q, q < A.wn → cold A q
theorem calm_L (Fu : Nat) (hW : WF A) (h : RV A se le he sa fa ge ns nf sp bo fi) : ∀ (fu i : Nat), i ≤ A.wn → (∀ q, q < i → cold A q) → A.wn - i < fu → ∃ r : Nat, (r = 1 ∧ calmA A ∨ r = 0 ∧ ¬ calmA A) ∧ f_X2_isCalm_L2 Fu se he sa ns fu (nI i) = some (nI r) := by
  have hw := hW.w
  have hse := hW.2.1
  have e1 := words_r (Fu := Fu) hW h
  have e2 := h.rse (show 0 < 3 by omega)
  intro fu
  induction fu with
  | zero => intro i h1 h2 h3; omega
  | succ fu ih =>
    intro i h1 h2 h3
    rw [f_X2_isCalm_L2_s, e1, bd1_s]
    by_cases hh : A.wn ≤ i
    · exact ⟨1, Or.inl ⟨rfl, fun q hq => h2 q (by omega)⟩, by rw [if_pos (by rw [nI_les (by omega) (by omega)]; exact hh)]⟩
    · have e3 := h.rhe (show i < A.wn by omega)
      have b3 := (hW.2.2 i (by omega)).2
      rw [if_neg (by rw [nI_les (by omega) (by omega)]; exact hh), ix_nIs (by omega) (by omega), gd_true, nI_clamps (by omega), e2, e3]
      by_cases c : A.he i < A.se 0
      · rw [if_pos (by rw [nI_lts (by omega) (by omega)]; exact c), nI_add]
        exact ih (i + 1) (by omega) (fun q hq => by
          by_cases e : q = i
          · subst e; exact c
          · exact h2 q (by omega)) (by omega)
      · exact ⟨0, Or.inr ⟨rfl, fun z => c (z i (by omega))⟩, by rw [if_neg (by rw [nI_lts (by omega) (by omega)]; exact c)]⟩
theorem calm_s (hF : 20000000 ≤ Fu) (hW : WF A) (h : RV A se le he sa fa ge ns nf sp bo fi) : ∃ r : Nat, (r = 1 ∧ calmA A ∨ r = 0 ∧ ¬ calmA A) ∧ f_X2_isCalm Fu se he sa ns = some (nI r) := by
  have := hW.w
  exact calm_L Fu hW h Fu 0 (Nat.zero_le _) (fun q hq => by omega) (by omega)
theorem warm_calm (hc : calmA A) {p b : Nat} (hb : A.he p + b < A.se 0) : Runs (warmA A p b) (warmA A p b) 0 := by
  refine Runs.done (fun q hq => ?_)
  show (if q = p then minH (A.he p) b else A.he q) < A.se 0
  by_cases e : q = p
  · rw [if_pos e]; have := (minH_le (A.he p) b).2; omega
  · rw [if_neg e]; exact hc q hq
end TR
end
section
/-! PURE: touchiest -/
def cI (c : Nat) : Int32 := if c = 0 then -1 else nI (c - 1)
theorem cI_0 : cI 0 = -1 := rfl
theorem cI_s (n : Nat) : cI (n + 1) = nI n := by unfold cI; rw [if_neg (by omega), Nat.add_sub_cancel]
theorem cI_le {n c : Nat} (hn : n < 1000000) (hc : c < 1000000) : (nI n ≤ cI c) = (n + 1 ≤ c) := by
  unfold cI
  by_cases h : c = 0
  · rw [if_pos h]
    have : ¬ nI n ≤ -1 := by
      rw [Int32.le_iff_toInt_le, nI_toInt (by omega)]
      have : (-1 : Int32).toInt = -1 := by decide
      omega
    exact propext ⟨fun z => absurd z this, fun z => by omega⟩
  · rw [if_neg h, nI_les (by omega) (by omega)]
    exact propext ⟨fun z => by omega, fun z => by omega⟩
theorem nI_ne6 {n : Nat} (hn : n < 1000000) : ¬ nI n = -6 := by
  intro z
  have e : (nI n).toInt = (-6 : Int32).toInt := by rw [z]
  rw [nI_toInt (by omega)] at e
  have : (-6 : Int32).toInt = -6 := by decide
  omega
section TO
variable {Fu M : Nat} {A : Sh} {se le he sa fa ge : Ar} {ns nf sp bo fi : Int32}
abbrev KT : Type := Int32 → Int32 → Ar → Ar → Ar → Ar → Ar → Ar → Int32 → Int32 → Int32 → Int32 → Int32 → Option (Int32 × Ar × Ar × Ar × Ar × Ar × Ar × Int32 × Int32 × Int32 × Int32 × Int32)
abbrev KR : Type := Int32 → Int32 → Ar → Ar → Int32 → Int32 → Int32 → Int32 → Option (Int32 × Ar × Ar × Int32 × Int32 × Int32 × Int32)
theorem touch_L (Fu : Nat) (hF : 100000000 ≤ Fu) (hW : WF A) (h : RV A se le he sa fa ge ns nf sp bo fi) {b rc : Nat} (hb : b ≤ 500) (hrc : rc = 1 ∧ calmA A ∨ rc = 0 ∧ ¬ calmA A) : ∀ (fu i P c : Nat) (a1 a2 a3 a4 a5 a6 : Ar) (b1 b2 b3 b4 b5 : Int32) (s a : Ar) (r1 r2 r3 r4 : Int32), RS A s → i ≤ A.wn → (i = 0 ∨ c ≠ 0) → (c ≠ 0 → P < A.wn) → c ≤ 149851 → A.wn - i < fu →
    ∃ P' c' a1' a2' a3' a4' a5' a6' b1' b2' b3' b4' b5' s' a' r1' r2' r3' r4', RS A s' ∧ (A.wn = 0 ∨ c' ≠ 0) ∧ (c' ≠ 0 → P' < A.wn) ∧ c' ≤ 149851 ∧
      (∀ k : KT, f_X3_touchiest_L53 Fu k se le he sa fa ge ns nf sp bo fi (nI b) (nI rc) fu (nI P) (cI c) (nI i) a1 a2 a3 a4 a5 a6 b1 b2 b3 b4 b5 = k (nI P') (cI c') a1' a2' a3' a4' a5' a6' b1' b2' b3' b4' b5') ∧
      (∀ k : KR, f_X4_touchiest_L32 Fu k (nI b) fu (nonI c P) (cI c) (nI i) s a r1 r2 r3 r4 = k (nonI c' P') (cI c') s' a' r1' r2' r3' r4') := by
  have hw := hW.w
  have hse := hW.2.1
  have e1 := words_r (Fu := Fu) hW h
  have e2 := h.rse (show 0 < 3 by omega)
  intro fu
  induction fu with
  | zero => intro i P c a1 a2 a3 a4 a5 a6 b1 b2 b3 b4 b5 s a r1 r2 r3 r4 h0 h1 h2 h3 h4 h5; omega
  | succ fu ih =>
    intro i P c a1 a2 a3 a4 a5 a6 b1 b2 b3 b4 b5 s a r1 r2 r3 r4 g h1 h2 h3 h4 h5
    by_cases hh : A.wn ≤ i
    · have l1 : nI A.wn ≤ nI i := by rw [nI_les (by omega) (by omega)]; exact hh
      refine ⟨P, c, a1, a2, a3, a4, a5, a6, b1, b2, b3, b4, b5, s, a, r1, r2, r3, r4, g, by omega, h3, h4, fun k => ?_, fun k => ?_⟩
      · rw [f_X3_touchiest_L53_s, e1, bd1_s, if_pos l1]
      · rw [f_X4_touchiest_L32_s, g.rwn, if_pos l1]
    · have l1 : ¬ nI A.wn ≤ nI i := by rw [nI_les (by omega) (by omega)]; exact hh
      have hp : i < A.wn := by omega
      have e3 := h.rhe hp
      have hi3 := (hW.2.2 i hp).2
      obtain ⟨B, n, c1, c2, c3, c4, c5, c6, d1, d2, d3, d4, d5, s1, a', u1, u2, u3, u4, u5, u6, u7⟩ := try_sim hF hW h g hp (show b ≤ 1000 by omega) a1 a2 a3 a4 a5 a6 b1 b2 b3 b4 b5 a r1 r2 r3 r4
      -- what the reference does
      have ref : ∀ k : KR, f_X4_touchiest_L32 Fu k (nI b) (fu + 1) (nonI c P) (cI c) (nI i) s a r1 r2 r3 r4 = f_X4_touchiest_L32 Fu k (nI b) fu (nonI (if n + 1 ≤ c then c else n + 1) (if n + 1 ≤ c then P else i)) (cI (if n + 1 ≤ c then c else n + 1)) (nI (i + 1)) s1 a' (nI n) (nI B.sp - nI A.sp) (nI B.ns) (heatR B.he 0 B.wn) := fun k => by
        rw [f_X4_touchiest_L32_s, g.rwn, if_neg l1, u7, bd6_s, nm_eq, nm_eq, nI_add]
        by_cases q : n + 1 ≤ c
        · have q1 : nI n ≤ cI c := by rw [cI_le (by omega) (by omega)]; exact q
          rw [if_pos q1, if_pos q1, if_pos q, if_pos q]
        · have q1 : ¬ nI n ≤ cI c := by rw [cI_le (by omega) (by omega)]; exact q
          rw [if_neg q1, if_neg q1, if_neg q, if_neg q, nonI_s _ _ (by omega), cI_s]
      -- what the class does
      have cls : ∃ a1' a2' a3' a4' a5' a6' b1' b2' b3' b4' b5', ∀ k : KT, f_X3_touchiest_L53 Fu k se le he sa fa ge ns nf sp bo fi (nI b) (nI rc) (fu + 1) (nI P) (cI c) (nI i) a1 a2 a3 a4 a5 a6 b1 b2 b3 b4 b5 = f_X3_touchiest_L53 Fu k se le he sa fa ge ns nf sp bo fi (nI b) (nI rc) fu (nI (if n + 1 ≤ c then P else i)) (cI (if n + 1 ≤ c then c else n + 1)) (nI (i + 1)) a1' a2' a3' a4' a5' a6' b1' b2' b3' b4' b5' := by
        have fin : ∀ (k : KT) (x1 x2 x3 x4 x5 x6 : Ar) (y1 y2 y3 y4 y5 : Int32), f_X3_touchiest_L53 Fu k se le he sa fa ge ns nf sp bo fi (nI b) (nI rc) fu (if nI n ≤ cI c then nI P else nI i) (if nI n ≤ cI c then cI c else nI n) (nI i + nI 1) x1 x2 x3 x4 x5 x6 y1 y2 y3 y4 y5 = f_X3_touchiest_L53 Fu k se le he sa fa ge ns nf sp bo fi (nI b) (nI rc) fu (nI (if n + 1 ≤ c then P else i)) (cI (if n + 1 ≤ c then c else n + 1)) (nI (i + 1)) x1 x2 x3 x4 x5 x6 y1 y2 y3 y4 y5 := fun k x1 x2 x3 x4 x5 x6 y1 y2 y3 y4 y5 => by
          rw [nI_add]
          by_cases q : n + 1 ≤ c
          · have q1 : nI n ≤ cI c := by rw [cI_le (by omega) (by omega)]; exact q
            rw [if_pos q1, if_pos q1, if_pos q, if_pos q]
          · have q1 : ¬ nI n ≤ cI c := by rw [cI_le (by omega) (by omega)]; exact q
            rw [if_neg q1, if_neg q1, if_neg q, if_neg q, cI_s]
        by_cases qt : rc = 1 ∧ A.he i + b < A.se 0
        · have hcalm : calmA A := by
            rcases hrc with z | z
            · exact z.2
            · omega
          have nz : n = 0 := (u1.det (warm_calm hcalm qt.2)).2
          refine ⟨a1, a2, a3, a4, a5, a6, b1, b2, b3, b4, b5, fun k => ?_⟩
          rw [← fin, f_X3_touchiest_L53_s, e1, bd1_s, if_neg l1, qt.1, jn_eq, if_neg one_ne, ix_nIs (by omega) (by omega), gd_true, nI_clamps (by omega), e2, e3, nI_add, if_neg (show ¬ nI (A.se 0) ≤ nI (A.he i + b) by rw [nI_les (by omega) (by omega)]; omega), nz]
          rfl
        · refine ⟨c1, c2, c3, c4, c5, c6, d1, d2, d3, d4, d5, fun k => ?_⟩
          rw [← fin, f_X3_touchiest_L53_s, e1, bd1_s, if_neg l1, jn_eq]
          by_cases r0 : rc = 0
          · have r1 : nI rc = 0 := by rw [r0]; exact zero_eq
            rw [if_pos r1]
            dsimp only
            rw [jn_eq, if_pos zero_eq, u6]
            rfl
          · have r1 : rc = 1 := by omega
            have r2 : ¬ A.he i + b < A.se 0 := fun z => qt ⟨r1, z⟩
            have r3 : ¬ nI rc = 0 := by rw [r1]; exact one_ne
            rw [if_neg r3, ix_nIs (by omega) (by omega), gd_true, nI_clamps (by omega), e2, e3, nI_add, if_pos (show nI (A.se 0) ≤ nI (A.he i + b) by rw [nI_les (by omega) (by omega)]; omega)]
            dsimp only
            rw [jn_eq, if_pos zero_eq, u6]
            rfl
      obtain ⟨x1, x2, x3, x4, x5, x6, y1, y2, y3, y4, y5, cls⟩ := cls
      obtain ⟨P', c', a1', a2', a3', a4', a5', a6', b1', b2', b3', b4', b5', s', a'', r1', r2', r3', r4', z1, z2, z3, z4, z5, z6⟩ := ih (i + 1) (if n + 1 ≤ c then P else i) (if n + 1 ≤ c then c else n + 1) x1 x2 x3 x4 x5 x6 y1 y2 y3 y4 y5 s1 a' (nI n) (nI B.sp - nI A.sp) (nI B.ns) (heatR B.he 0 B.wn) u5 (by omega) (by
        right
        by_cases q : n + 1 ≤ c
        · rw [if_pos q]; omega
        · rw [if_neg q]; omega) (fun _ => by
        by_cases q : n + 1 ≤ c
        · rw [if_pos q]; exact h3 (by omega)
        · rw [if_neg q]; exact hp) (by
        by_cases q : n + 1 ≤ c
        · rw [if_pos q]; omega
        · rw [if_neg q]; omega) (by omega)
      exact ⟨P', c', a1', a2', a3', a4', a5', a6', b1', b2', b3', b4', b5', s', a'', r1', r2', r3', r4', z1, z2, z3, z4, fun k => by rw [cls k, z5 k], fun k => by rw [ref k, z6 k]⟩
theorem sim_touch (hF : 100000000 ≤ Fu) (hW : WF A) (h : RV A se le he sa fa ge ns nf sp bo fi) {s : Ar} (g : RS A s) (a1 a2 a3 a4 a5 a6 : Ar) (b1 b2 b3 b4 b5 : Int32) (a : Ar) (r1 r2 r3 r4 : Int32) (b w : Int32) :
    ∃ r c1 c2 c3 c4 c5 c6 d1 d2 d3 d4 d5 s' a' x1 x2 x3 x4, RS A s' ∧
      f_X3_touchiest Fu se le he sa fa ge ns nf sp bo fi a1 a2 a3 a4 a5 a6 b1 b2 b3 b4 b5 b w = some (r, c1, c2, c3, c4, c5, c6, d1, d2, d3, d4, d5) ∧
      f_X4_touchiest Fu s a r1 r2 r3 r4 b w = some (r, s', a', x1, x2, x3, x4) := by
  have hn := hW.n
  have hw := hW.w
  unfold f_X3_touchiest f_X4_touchiest
  rw [isWithin_s, in4_s, bd1_s, bd1_s]
  by_cases hb : nI 1 ≤ b ∧ b ≤ nI 500
  · rw [if_pos hb, if_neg one_ne, if_neg one_ne, isWithin_s, in4_s, within_n (n := 2) (by omega), bd1_s, bd1_s]
    by_cases hww : isS (2 + 1) w = true
    · rw [if_pos hww, if_neg one_ne, if_neg one_ne]
      obtain ⟨c, hc1, hc2, rfl⟩ := rng hb (by omega) (by omega)
      obtain ⟨v, hv, rfl⟩ := isS_t hww (by omega)
      obtain ⟨rc, q1, q2⟩ := calm_s (Fu := Fu) (by omega) hW h
      obtain ⟨P', c', a1', a2', a3', a4', a5', a6', b1', b2', b3', b4', b5', s', a', r1', r2', r3', r4', z1, z2, z3, z4, z5, z6⟩ := touch_L Fu hF hW h hc2 q1 Fu 0 0 0 a1 a2 a3 a4 a5 a6 b1 b2 b3 b4 b5 s a r1 r2 r3 r4 g (Nat.zero_le _) (Or.inl rfl) (fun z => absurd rfl z) (by omega) (by omega)
      rw [nonI_0, cI_0] at z6
      rw [cI_0] at z5
      rw [jn_eq, z6, jn_eq]
      by_cases n0 : A.ns = 0
      · have w0 : A.wn = 0 := by
          show A.st A.ns = 0
          rw [n0]; exact hW.1.2.1
        have c0 : c' = 0 := Classical.byContradiction (fun z => by have := z3 z; omega)
        rw [h.rns, if_pos (by rw [n0]; exact zero_eq), c0, nonI_0, if_pos rfl]
        exact ⟨-6, _, _, _, _, _, _, _, _, _, _, _, s', _, _, _, _, _, z1, rfl, rfl⟩
      · have w0 : 0 < A.wn := by
          have := hW.1.lt (show 0 < A.ns by omega) (Nat.le_refl _)
          have e : A.wn = A.st A.ns := rfl
          omega
        have c0 : c' ≠ 0 := by omega
        have hP := z3 c0
        have hso := hW.so hP
        have m0 : ¬ nI A.ns = 0 := by rw [nI_zero, nI_eqs (by omega) (by omega)]; exact n0
        rw [h.rns] at z5 q2
        rw [h.rns, if_neg m0, q2, bd1_s, jn_eq, z5, nm_eq, nonI_s _ _ c0, if_neg (nI_ne6 (by omega))]
        by_cases v0 : v = 0
        · subst v0
          rw [if_pos rfl, if_pos zero_eq, storyAt_s (Fu := Fu) (by omega) hW.1 (fun k hk => h.rsa hk) hso.1 hso.2.1 hso.2.2, bd1_s, storyOf_s (Fu := Fu) (by omega) hW.1 (fun k hk => z1.rlo hk) hso.1 hso.2.1 hso.2.2, bd1_s]
          exact ⟨_, _, _, _, _, _, _, _, _, _, _, _, s', _, _, _, _, _, z1, rfl, rfl⟩
        · have k0 : ¬ nI v = nI 0 := by rw [nI_eqs (by omega) (by omega)]; exact v0
          have k0' : ¬ nI v = 0 := fun z => k0 (by rw [z]; exact zero_eq.symm)
          rw [if_neg k0, if_neg k0']
          by_cases v1 : v = 1
          · subst v1
            rw [if_pos rfl, if_pos rfl, placeOf_s (Fu := Fu) (by omega) hW.1 (fun k hk => h.rsa hk) hso.1 hso.2.1 hso.2.2, bd1_s, storyOf_s (Fu := Fu) (by omega) hW.1 (fun k hk => z1.rlo hk) hso.1 hso.2.1 hso.2.2, bd1_s, first_r (Fu := Fu) (by omega) hW z1 (show A.so P' ≤ A.ns by omega), bd1_s, pk_subs hso.2.1]
            exact ⟨_, _, _, _, _, _, _, _, _, _, _, _, s', _, _, _, _, _, z1, rfl, rfl⟩
          · have k1 : ¬ nI v = nI 1 := by rw [nI_eqs (by omega) (by omega)]; exact v1
            rw [if_neg k1, if_neg k1]
            exact ⟨_, _, _, _, _, _, _, _, _, _, _, _, s', _, _, _, _, _, z1, rfl, rfl⟩
    · rw [if_neg hww, if_pos zero_eq, if_pos zero_eq]
      exact ⟨-2, _, _, _, _, _, _, _, _, _, _, _, s, _, _, _, _, _, g, rfl, rfl⟩
  · rw [if_neg hb, if_pos zero_eq, if_pos zero_eq]
    exact ⟨-2, _, _, _, _, _, _, _, _, _, _, _, s, _, _, _, _, _, g, rfl, rfl⟩
end TO
end
section
/-! PURE: more heat than the limit asks for brings the same; critical -/
def setP (A : Sh) (p x : Nat) : Sh := A.setHe (fun q => if q = p then x else A.he q)
theorem warm_setP (A : Sh) (p b : Nat) : warmA A p b = setP A p (minH (A.he p) b) := rfl
theorem setP_warm (A : Sh) (p x r b : Nat) : ∃ x', (x ≤ x' ∨ 999 ≤ x') ∧ warmA (setP A p x) r b = setP (warmA A r b) p x' := by
  by_cases h : r = p
  · subst h
    refine ⟨minH x b, ?_, ?_⟩
    · unfold minH
      by_cases c : x + b ≤ 999
      · rw [if_pos c]; left; omega
      · rw [if_neg c]; right; omega
    · show A.setHe (fun q => if q = r then minH (if r = r then x else A.he r) b else (if q = r then x else A.he q)) = A.setHe (fun q => if q = r then minH x b else (if q = r then minH (A.he r) b else A.he q))
      congr 1
      funext q
      by_cases c : q = r
      · rw [if_pos c, if_pos c, if_pos rfl]
      · rw [if_neg c, if_neg c, if_neg c, if_neg c]
  · refine ⟨x, Or.inl (Nat.le_refl _), ?_⟩
    show A.setHe (fun q => if q = r then minH (if r = p then x else A.he r) b else (if q = p then x else A.he q)) = A.setHe (fun q => if q = p then x else (if q = r then minH (A.he r) b else A.he q))
    congr 1
    funext q
    rw [if_neg h]
    by_cases c : q = r
    · subst c
      rw [if_pos rfl, if_neg h, if_pos rfl]
    · rw [if_neg c, if_neg c]
theorem setP_zero (A : Sh) {p q x : Nat} (h : q ≠ p) : zeroA (setP A p x) q = setP (zeroA A q) p x := by
  show A.setHe (fun r => if r = q then 0 else (if r = p then x else A.he r)) = A.setHe (fun r => if r = p then x else (if r = q then 0 else A.he r))
  congr 1
  funext r
  by_cases c : r = q
  · subst c
    rw [if_pos rfl, if_neg h, if_pos rfl]
  · rw [if_neg c, if_neg c]
theorem setP_zero_eq (A : Sh) (p x : Nat) : zeroA (setP A p x) p = zeroA A p := by
  show A.setHe (fun r => if r = p then 0 else (if r = p then x else A.he r)) = A.setHe (fun r => if r = p then 0 else A.he r)
  congr 1
  funext r
  by_cases c : r = p
  · rw [if_pos c, if_pos c]
  · rw [if_neg c, if_neg c, if_neg c]
theorem setP_br (A : Sh) (p x K q : Nat) : brA (setP A p x) K q = setP (brA A K q) p x := by
  unfold brA
  show (if q = A.st K then (setP A p x).setCt A.sp (A.bo + nI 1) A.fi else if A.ns < 12 then (splitA (setP A p x) K q).setCt (A.sp + 1) A.bo A.fi else (setP A p x).setCt A.sp A.bo (A.fi + nI 1)) = _
  by_cases c : q = A.st K
  · rw [if_pos c, if_pos c]; rfl
  · rw [if_neg c, if_neg c]
    by_cases c2 : A.ns < 12
    · rw [if_pos c2, if_pos c2]; rfl
    · rw [if_neg c2, if_neg c2]; rfl
theorem setP_react_eq (A : Sh) (p x : Nat) : reactA (setP A p x) p = reactA A p := by
  unfold reactA
  rw [setP_zero_eq]
  rfl
theorem setP_react (A : Sh) {p q x : Nat} (h : q ≠ p) : ∃ x', (x ≤ x' ∨ 999 ≤ x') ∧ reactA (setP A p x) q = setP (reactA A q) p x' := by
  have e1 : brA (zeroA (setP A p x) q) (A.so q) q = setP (brA (zeroA A q) (A.so q) q) p x := by rw [setP_zero A h, setP_br]
  have e0 : reactA (setP A p x) q = (if q + 1 < A.st (A.so q + 1) then warmA (if A.st (A.so q) < q then warmA (brA (zeroA (setP A p x) q) (A.so q) q) (q - 1) (A.se 1) else brA (zeroA (setP A p x) q) (A.so q) q) (q + 1) (A.se 1) else (if A.st (A.so q) < q then warmA (brA (zeroA (setP A p x) q) (A.so q) q) (q - 1) (A.se 1) else brA (zeroA (setP A p x) q) (A.so q) q)) := rfl
  have e2 : reactA A q = (if q + 1 < A.st (A.so q + 1) then warmA (if A.st (A.so q) < q then warmA (brA (zeroA A q) (A.so q) q) (q - 1) (A.se 1) else brA (zeroA A q) (A.so q) q) (q + 1) (A.se 1) else (if A.st (A.so q) < q then warmA (brA (zeroA A q) (A.so q) q) (q - 1) (A.se 1) else brA (zeroA A q) (A.so q) q)) := rfl
  rw [e0, e2, e1]
  generalize brA (zeroA A q) (A.so q) q = B
  by_cases c1 : A.st (A.so q) < q
  · rw [if_pos c1, if_pos c1]
    obtain ⟨y, hy, ey⟩ := setP_warm B p x (q - 1) (A.se 1)
    rw [ey]
    by_cases c2 : q + 1 < A.st (A.so q + 1)
    · rw [if_pos c2, if_pos c2]
      obtain ⟨z, hz, ez⟩ := setP_warm (warmA B (q - 1) (A.se 1)) p y (q + 1) (A.se 1)
      exact ⟨z, by omega, ez⟩
    · rw [if_neg c2, if_neg c2]
      exact ⟨y, hy, rfl⟩
  · rw [if_neg c1, if_neg c1]
    by_cases c2 : q + 1 < A.st (A.so q + 1)
    · rw [if_pos c2, if_pos c2]
      obtain ⟨z, hz, ez⟩ := setP_warm B p x (q + 1) (A.se 1)
      exact ⟨z, hz, ez⟩
    · rw [if_neg c2, if_neg c2]
      exact ⟨x, Or.inl (Nat.le_refl _), rfl⟩
theorem fhot_le (P : Nat → Bool) {a : Nat} (hP : P a = true) : ∀ (r p : Nat), p ≤ a → a < p + r → fhot P p r ≤ a := by
  intro r
  induction r with
  | zero => intro p h1 h2; omega
  | succ r ih =>
    intro p h1 h2
    show (if P p = true then p else fhot P (p + 1) r) ≤ a
    by_cases c : P p = true
    · rw [if_pos c]; exact h1
    · rw [if_neg c]
      have : p ≠ a := fun e => c (by rw [e]; exact hP)
      exact ih (p + 1) (by omega) (by omega)
theorem setP_fh (A : Sh) {p x y : Nat} (hx : A.se 0 ≤ x) (hy : A.se 0 ≤ y) : (setP A p x).fh = (setP A p y).fh := by
  unfold Sh.fh
  have e : (fun q => decide ((setP A p x).se 0 ≤ (setP A p x).he q)) = (fun q => decide ((setP A p y).se 0 ≤ (setP A p y).he q)) := by
    funext q
    show decide (A.se 0 ≤ (if q = p then x else A.he q)) = decide (A.se 0 ≤ (if q = p then y else A.he q))
    by_cases c : q = p
    · rw [if_pos c, if_pos c, decide_eq_true hx, decide_eq_true hy]
    · rw [if_neg c, if_neg c]
  rw [e]
  rfl
theorem setP_fh_le (A : Sh) {p x : Nat} (hp : p < A.wn) (hx : A.se 0 ≤ x) : (setP A p x).fh ≤ p := by
  unfold Sh.fh
  refine fhot_le _ ?_ _ 0 (Nat.zero_le _) (by rw [Nat.zero_add]; exact hp)
  show decide (A.se 0 ≤ (if p = p then x else A.he p)) = true
  rw [if_pos rfl]
  exact decide_eq_true hx
theorem setP_run : ∀ (f : Nat) (A : Sh) (p x y : Nat) (z : Sh × Nat), WF A → p < A.wn → A.se 0 ≤ x → A.se 0 ≤ y → runA f (setP A p x) = some z → runA f (setP A p y) = some z := by
  intro f
  induction f with
  | zero => intro A p x y z hW hp hx hy h; cases h
  | succ f ih =>
    intro A p x y z hW hp hx hy h
    have hle := setP_fh_le A hp hx
    have hfe := setP_fh A (p := p) hx hy
    have nx : ¬ (setP A p x).fh = (setP A p x).wn := by
      show ¬ (setP A p x).fh = A.wn
      omega
    have ny : ¬ (setP A p y).fh = (setP A p y).wn := by
      show ¬ (setP A p y).fh = A.wn
      omega
    unfold runA at h ⊢
    rw [if_neg nx] at h
    rw [if_neg ny, ← hfe]
    by_cases c : (setP A p x).fh = p
    · rw [c, setP_react_eq] at h
      rw [c, setP_react_eq]
      exact h
    · obtain ⟨x', hx', ex⟩ := setP_react A (p := p) (x := x) c
      obtain ⟨y', hy', ey⟩ := setP_react A (p := p) (x := y) c
      rw [ex] at h
      rw [ey]
      have hq : (setP A p x).fh < A.wn := by omega
      have hse : (reactA A (setP A p x).fh).se = A.se := react_se
      have hb := hW.2.1.2.1
      have hb1 := hW.2.1.1
      cases hr : runA f (setP (reactA A (setP A p x).fh) p x') with
      | none => rw [hr] at h; cases h
      | some w =>
        have := ih (reactA A (setP A p x).fh) p x' y' w (hW.react hq) (by rw [react_wn hW hq]; exact hp) (by rw [hse]; omega) (by rw [hse]; omega) hr
        rw [hr] at h
        rw [this]
        exact h
theorem warm_same {A B : Sh} {n p b c : Nat} (hW : WF A) (hp : p < A.wn) (hb : A.se 0 ≤ A.he p + b) (hc : A.se 0 ≤ A.he p + c) (h : Runs (warmA A p b) B n) : Runs (warmA A p c) B n := by
  obtain ⟨f, hf⟩ := h
  rw [warm_setP] at hf
  have m : ∀ d, A.se 0 ≤ A.he p + d → A.se 0 ≤ minH (A.he p) d := fun d hd => by
    have := hW.2.1.2.1
    unfold minH
    by_cases q : A.he p + d ≤ 999
    · rw [if_pos q]; exact hd
    · rw [if_neg q]; omega
  exact ⟨f, by rw [warm_setP]; exact setP_run f A p _ _ _ hW hp (m b hb) (m c hc) hf⟩
/-- heating by b brings a split -/
def spl (A : Sh) (p b : Nat) : Prop := ∃ B n, Runs (warmA A p b) B n ∧ A.sp < B.sp
def lst (A : Sh) (p lo hi : Nat) (r : Int32) : Prop := (∃ b, lo ≤ b ∧ b ≤ hi ∧ r = nI b ∧ spl A p b ∧ ∀ c, lo ≤ c → c < b → ¬ spl A p c) ∨ (r = -6 ∧ ∀ c, lo ≤ c → c ≤ hi → ¬ spl A p c)
theorem lst_same {A : Sh} {p lo mi : Nat} {r q : Int32} (h1 : 1 ≤ lo) (h2 : lo ≤ mi) (h3 : mi ≤ 500) (f1 : ∀ c, 1 ≤ c → c < lo → ¬ spl A p c) (f2 : ∀ c, mi < c → spl A p c → spl A p mi) (hr : lst A p lo mi r) (hq : lst A p 1 500 q) : r = q := by
  rcases hr with ⟨b, b1, b2, b3, b4, b5⟩ | ⟨b1, b2⟩
  · rcases hq with ⟨c, c1, c2, c3, c4, c5⟩ | ⟨c1, c2⟩
    · have : b = c := by
        rcases Nat.lt_trichotomy b c with t | t | t
        · exact absurd b4 (c5 b (by omega) t)
        · exact t
        · by_cases u : c < lo
          · exact absurd c4 (f1 c c1 u)
          · exact absurd c4 (b5 c (by omega) t)
      rw [b3, c3, this]
    · exact absurd b4 (c2 b (by omega) (by omega))
  · rcases hq with ⟨c, c1, c2, c3, c4, c5⟩ | ⟨c1, c2⟩
    · exfalso
      by_cases u : c < lo
      · exact f1 c c1 u c4
      · by_cases v : c ≤ mi
        · exact b2 c (by omega) v c4
        · exact b2 mi h2 (Nat.le_refl _) (f2 c (by omega) c4)
    · rw [b1, c1]
section CR
variable {Fu : Nat} {A : Sh} {se le he sa fa ge : Ar} {ns nf sp bo fi : Int32}
theorem spl_of {B : Sh} {n p b : Nat} (h : Runs (warmA A p b) B n) (k : Keeps (warmA A p b) B) : (spl A p b ↔ A.sp < B.sp) ∧ A.sp ≤ B.sp ∧ B.sp ≤ A.sp + 12 := by
  have k1 := k.2.2.2.1
  have k2 := k.2.2.2.2.1
  have k3 := k.sp
  have e1 : (warmA A p b).sp = A.sp := rfl
  refine ⟨⟨fun ⟨C, m, x, y⟩ => by rw [(h.det x).1]; exact y, fun x => ⟨B, n, h, x⟩⟩, by omega, by omega⟩
theorem crit_L (Fu : Nat) (hF : 100000000 ≤ Fu) (hW : WF A) (hM : A.sp ≤ 1000000) (h : RV A se le he sa fa ge ns nf sp bo fi) {s : Ar} (g : RS A s) {p hi : Nat} (hp : p < A.wn) (hhi : hi ≤ 500) : ∀ (fu i : Nat) (a1 a2 a3 a4 a5 a6 : Ar) (b1 b2 b3 b4 b5 : Int32), i ≤ hi + 1 → hi + 1 - i < fu →
    ∃ r c1 c2 c3 c4 c5 c6 d1 d2 d3 d4 d5, lst A p i hi r ∧ f_X3_critical_L73 Fu se le he sa fa ge ns nf sp bo fi (nI p) (nI hi) fu (nI i) a1 a2 a3 a4 a5 a6 b1 b2 b3 b4 b5 = some (r, c1, c2, c3, c4, c5, c6, d1, d2, d3, d4, d5) := by
  intro fu
  induction fu with
  | zero => intro i a1 a2 a3 a4 a5 a6 b1 b2 b3 b4 b5 h1 h2; omega
  | succ fu ih =>
    intro i a1 a2 a3 a4 a5 a6 b1 b2 b3 b4 b5 h1 h2
    rw [f_X3_critical_L73_s]
    by_cases hh : hi < i
    · rw [if_pos (by rw [nI_lts (by omega) (by omega)]; exact hh)]
      exact ⟨-6, _, _, _, _, _, _, _, _, _, _, _, Or.inr ⟨rfl, fun c x y => by omega⟩, rfl⟩
    · obtain ⟨B, n, c1, c2, c3, c4, c5, c6, d1, d2, d3, d4, d5, s1, a', u1, u2, u3, u4, u5, u6, u7⟩ := try_sim hF hW h g hp (show i ≤ 1000 by omega) a1 a2 a3 a4 a5 a6 b1 b2 b3 b4 b5 s 0 0 0 0
      obtain ⟨q1, q2, q3⟩ := spl_of u1 u3
      rw [if_neg (by rw [nI_lts (by omega) (by omega)]; exact hh), u6, bd12_s, u4.rsp, h.rsp, nI_add]
      by_cases c : B.sp ≤ A.sp
      · rw [if_pos (by rw [nI_les (by omega) (by omega)]; exact c)]
        have ns1 : ¬ spl A p i := fun z => by have := q1.mp z; omega
        have := ih (i + 1) c1 c2 c3 c4 c5 c6 d1 d2 (nI B.sp) d4 d5 (by omega) (by omega)
        rw [h.rsp] at this
        obtain ⟨r, e1, e2, e3, e4, e5, e6, e7, e8, e9, e10, e11, l, e⟩ := this
        refine ⟨r, e1, e2, e3, e4, e5, e6, e7, e8, e9, e10, e11, ?_, e⟩
        rcases l with ⟨b, l1, l2, l3, l4, l5⟩ | ⟨l1, l2⟩
        · exact Or.inl ⟨b, by omega, l2, l3, l4, fun c x y => by
            by_cases w : c = i
            · subst w; exact ns1
            · exact l5 c (by omega) y⟩
        · exact Or.inr ⟨l1, fun c x y => by
            by_cases w : c = i
            · subst w; exact ns1
            · exact l2 c (by omega) y⟩
      · rw [if_neg (by rw [nI_les (by omega) (by omega)]; exact c)]
        exact ⟨nI i, _, _, _, _, _, _, _, _, _, _, _, Or.inl ⟨i, Nat.le_refl _, by omega, rfl, q1.mpr (by omega), fun c x y => by omega⟩, rfl⟩
theorem crit4_L (Fu : Nat) (hF : 100000000 ≤ Fu) (hW : WF A) (hM : A.sp ≤ 1000000) (h : RV A se le he sa fa ge ns nf sp bo fi) {k j : Nat} (hk : k < A.ns) (hp : A.st k + j < A.wn) : ∀ (fu i : Nat) (s a : Ar) (r1 r2 r3 r4 : Int32), RS A s → i ≤ 501 → 501 - i < fu →
    ∃ r s' a' x1 x2 x3 x4, lst A (A.st k + j) i 500 r ∧ RS A s' ∧ f_X4_critical_L13 Fu (nI k) (nI j) fu (nI i) s a r1 r2 r3 r4 = some (r, s', a', x1, x2, x3, x4) := by
  have hn := hW.n
  have hw := hW.w
  intro fu
  induction fu with
  | zero => intro i s a r1 r2 r3 r4 g h1 h2; omega
  | succ fu ih =>
    intro i s a r1 r2 r3 r4 g h1 h2
    rw [f_X4_critical_L13_s]
    by_cases hh : 500 < i
    · rw [if_pos (by rw [nI_lts (by omega) (by omega)]; exact hh)]
      exact ⟨-6, _, _, _, _, _, _, Or.inr ⟨rfl, fun c x y => by omega⟩, g, rfl⟩
    · have e0 := first_r (by omega : 20000000 ≤ Fu) hW g (show k ≤ A.ns by omega)
      obtain ⟨B, n, c1, c2, c3, c4, c5, c6, d1, d2, d3, d4, d5, s1, a', u1, u2, u3, u4, u5, u6, u7⟩ := try_sim hF hW h g hp (show i ≤ 1000 by omega) se le he sa fa ge ns nf sp bo fi a r1 r2 r3 r4
      obtain ⟨q1, q2, q3⟩ := spl_of u1 u3
      rw [if_neg (by rw [nI_lts (by omega) (by omega)]; exact hh), e0, bd1_s, nI_add, u7, bd6_s, pk_subs q2, nI_add]
      by_cases c : B.sp ≤ A.sp
      · rw [if_pos (show nI (B.sp - A.sp) ≤ 0 by rw [nI_zero, nI_les (by omega) (by omega)]; omega)]
        have ns1 : ¬ spl A (A.st k + j) i := fun z => by have := q1.mp z; omega
        obtain ⟨r, s', a'', x1, x2, x3, x4, l, g', e⟩ := ih (i + 1) s1 a' (nI n) (nI (B.sp - A.sp)) (nI B.ns) (heatR B.he 0 B.wn) u5 (by omega) (by omega)
        refine ⟨r, s', a'', x1, x2, x3, x4, ?_, g', e⟩
        rcases l with ⟨b, l1, l2, l3, l4, l5⟩ | ⟨l1, l2⟩
        · exact Or.inl ⟨b, by omega, l2, l3, l4, fun c x y => by
            by_cases w : c = i
            · subst w; exact ns1
            · exact l5 c (by omega) y⟩
        · exact Or.inr ⟨l1, fun c x y => by
            by_cases w : c = i
            · subst w; exact ns1
            · exact l2 c (by omega) y⟩
      · rw [if_neg (show ¬ nI (B.sp - A.sp) ≤ 0 by rw [nI_zero, nI_les (by omega) (by omega)]; omega)]
        exact ⟨nI i, _, _, _, _, _, _, Or.inl ⟨i, Nat.le_refl _, by omega, rfl, q1.mpr (by omega), fun c x y => by omega⟩, u5, rfl⟩
def eno (A : Sh) (p : Nat) : Nat := if A.se 0 - A.he p = 0 then 1 else A.se 0 - A.he p
theorem eno_s {a b : Nat} (ha : a < 1000000) (hb : b < 1000000) : jmax (nI 1) (nI a - nI b) = nI (if a - b = 0 then 1 else a - b) := by
  unfold jmax
  by_cases h : b ≤ a
  · rw [pk_subs h]
    by_cases h2 : 1 < a - b
    · rw [if_pos (by rw [nI_lts (by omega) (by omega)]; exact h2), if_neg (by omega)]
    · rw [if_neg (by rw [nI_lts (by omega) (by omega)]; exact h2)]
      by_cases h3 : a - b = 0
      · rw [if_pos h3]
      · rw [if_neg h3]; congr 1; omega
  · have h1 : nI a - nI b < 0 := pk_sneg (by omega) (by omega)
    have h4 : ¬ nI 1 < nI a - nI b := fun z => by
      have := Int32.lt_trans z h1
      exact absurd this (by decide)
    rw [if_neg h4, if_pos (by omega)]
theorem sim_crit (hF : 100000000 ≤ Fu) (hW : WF A) (hM : A.sp ≤ 1000000) (h : RV A se le he sa fa ge ns nf sp bo fi) {s : Ar} (g : RS A s) (a1 a2 a3 a4 a5 a6 : Ar) (b1 b2 b3 b4 b5 : Int32) (a : Ar) (r1 r2 r3 r4 : Int32) (p q : Int32) :
    ∃ r c1 c2 c3 c4 c5 c6 d1 d2 d3 d4 d5 s' a' x1 x2 x3 x4, RS A s' ∧
      f_X3_critical Fu se le he sa fa ge ns nf sp bo fi a1 a2 a3 a4 a5 a6 b1 b2 b3 b4 b5 p q = some (r, c1, c2, c3, c4, c5, c6, d1, d2, d3, d4, d5) ∧
      f_X4_critical Fu s a r1 r2 r3 r4 p q = some (r, s', a', x1, x2, x3, x4) := by
  have y1 := hasWord_s Fu hW.1 (fun k hk => h.rsa hk) p q
  have y2 := isWord_s Fu hW.1 g.rns (fun k hk => g.rlo hk) p q
  rw [← h.rns] at y1
  unfold f_X3_critical f_X4_critical
  rw [y1, y2, bd1_s, bd1_s]
  by_cases hq : isW A.ns A.st p q = true
  · rw [if_pos hq, if_neg one_ne, if_neg one_ne]
    obtain ⟨k, j, hk, hj, rfl, rfl⟩ := isW_t hq hW.1
    have hn := hW.n
    have hw := hW.w
    have hse := hW.2.1
    have hm2 := hW.1.le (show k + 1 ≤ A.ns by omega) (Nat.le_refl _)
    have hp : A.st k + j < A.wn := by unfold Sh.wn; omega
    have e1 := h.rsa (show k ≤ A.ns by omega)
    have e2 := h.rhe hp
    have e3 := h.rse (show 0 < 3 by omega)
    have b2' := (hW.2.2 _ hp).2
    obtain ⟨rc, q1, q2⟩ := calm_s (Fu := Fu) (by omega) hW h
    have hen : 1 ≤ eno A (A.st k + j) ∧ eno A (A.st k + j) ≤ 99 ∧ A.se 0 ≤ A.he (A.st k + j) + eno A (A.st k + j) ∧ (∀ c, c < eno A (A.st k + j) → A.he (A.st k + j) + c < A.se 0 ∨ c = 0) := by
      unfold eno
      by_cases c : A.se 0 - A.he (A.st k + j) = 0
      · rw [if_pos c]
        exact ⟨by omega, by omega, by omega, fun c hc => Or.inr (by omega)⟩
      · rw [if_neg c]
        exact ⟨by omega, by omega, by omega, fun c hc => Or.inl (by omega)⟩
    have e4 : jmax (nI 1) (nI (A.se 0) - nI (A.he (A.st k + j))) = nI (eno A (A.st k + j)) := eno_s (by omega) (by omega)
    have e5 : (if nI rc = 0 then nI 1 else nI (eno A (A.st k + j))) = nI (if rc = 0 then 1 else eno A (A.st k + j)) := by
      by_cases c : rc = 0
      · rw [c, if_pos zero_eq, if_pos rfl]
      · rw [if_neg (by rw [nI_zero, nI_eqs (by omega) (by omega)]; exact c), if_neg c]
    have hlo : 1 ≤ (if rc = 0 then 1 else eno A (A.st k + j)) ∧ (if rc = 0 then 1 else eno A (A.st k + j)) ≤ eno A (A.st k + j) := by
      by_cases c : rc = 0
      · rw [if_pos c]; omega
      · rw [if_neg c]; omega
    obtain ⟨r, c1, c2, c3, c4, c5, c6, d1, d2, d3, d4, d5, l1, l2⟩ := crit_L Fu hF hW hM h g hp (hi := eno A (A.st k + j)) (by omega) Fu (if rc = 0 then 1 else eno A (A.st k + j)) a1 a2 a3 a4 a5 a6 b1 b2 b3 b4 b5 (by omega) (by omega)
    obtain ⟨r', s', a', x1, x2, x3, x4, l3, l4, l5⟩ := crit4_L Fu hF hW hM h hk hp Fu 1 s a r1 r2 r3 r4 g (by omega) (by omega)
    have hr : r = r' := by
      refine lst_same hlo.1 hlo.2 (by omega) (fun c hc1 hc => ?_) (fun c hc z => ?_) l1 l3
      · by_cases c0 : rc = 0
        · rw [if_pos c0] at hc
          omega
        · rw [if_neg c0] at hc
          have hcalm : calmA A := by
            rcases q1 with z | z
            · exact z.2
            · omega
          have hlt : A.he (A.st k + j) + c < A.se 0 := by
            rcases hen.2.2.2 c hc with z | z
            · exact z
            · rw [z]; exact hcalm _ hp
          intro ⟨B, n, u1, u2⟩
          have := u1.det (warm_calm hcalm hlt)
          rw [this.1] at u2
          exact absurd u2 (Nat.lt_irrefl _)
      · obtain ⟨B, n, u1, u2⟩ := z
        exact ⟨B, n, warm_same hW hp (by omega) hen.2.2.1 u1, u2⟩
    subst hr
    refine ⟨r, c1, c2, c3, c4, c5, c6, d1, d2, d3, d4, d5, s', a', x1, x2, x3, x4, l4, ?_, l5⟩
    rw [ix_nIs (by omega) (by omega), gd_true, nm_eq, nI_clamps (by omega), e1, nI_add, ix_nIs (by omega) (by omega), gd_true, nm_eq, nI_clamps (by omega), e2, e3, e4, q2, bd1_s, nm_eq, e5]
    exact l2
  · rw [if_neg hq, if_pos zero_eq, if_pos zero_eq]
    exact ⟨-1, _, _, _, _, _, _, _, _, _, _, _, s, _, _, _, _, _, g, rfl, rfl⟩
end CR
end
section
/-! PURE: coolestPair -/
abbrev T3 : Type := Int32 × Int32 × Int32
def cpF (TH : Nat → Nat) (HT : Nat → Int32) (i : Nat) : Nat → T3 → T3 := fun j t => if TH i = TH j ∧ (t.1 = -6 ∨ ¬ t.2.2 ≤ HT i + HT j) then (nI i, nI j, HT i + HT j) else t
def coF (TH : Nat → Nat) (HT : Nat → Int32) (n : Nat) : Nat → T3 → T3 := fun i t => itF (cpF TH HT i) (i + 1) (n - (i + 1)) t
def thA (A : Sh) (k : Nat) : Nat := thR (taR A k)
def htA (A : Sh) (k : Nat) : Int32 := heatR A.he (A.st k) (A.st (k + 1) - A.st k)
section CO
variable {Fu : Nat} {A : Sh} {se le he sa fa ge : Ar} {ns nf sp bo fi : Int32} {s : Ar}
theorem cool89_L (Fu : Nat) (k : Int32 → Int32 → Int32 → Option (Int32 × Ar × Ar × Ar)) {n i : Nat} {t1 t2 : Ar} (hn : n ≤ 12) (hi : i < n) (TH : Nat → Nat) (HT : Nat → Int32) (hT : ∀ c, TH c < 26) (h1 : ∀ c, c < n → t1 c = nI (TH c)) (h2 : ∀ c, c < n → t2 c = HT c) : ∀ (fu j : Nat) (t : T3), j ≤ n → n - j < fu → f_X3_coolestPair_L89 Fu k (nI n) t1 t2 (nI i) fu t.1 t.2.1 t.2.2 (nI j) = k (itF (cpF TH HT i) j (n - j) t).1 (itF (cpF TH HT i) j (n - j) t).2.1 (itF (cpF TH HT i) j (n - j) t).2.2 := by
  intro fu
  induction fu with
  | zero => intro j t a b; omega
  | succ fu ih =>
    intro j t a b
    rw [f_X3_coolestPair_L89_s]
    by_cases hh : n ≤ j
    · rw [if_pos (by rw [nI_les (by omega) (by omega)]; exact hh), show n - j = 0 by omega, itF_0]
    · rw [if_neg (by rw [nI_les (by omega) (by omega)]; exact hh), ix_nIs (by omega) (by omega), gd_true, ix_nIs (by omega) (by omega), gd_true, nm_eq, gd_true, gd_true, nI_clamps (by omega), nI_clamps (by omega), h1 i hi, h1 j (by omega), h2 i hi, h2 j (by omega), nm_eq, nm_eq, nm_eq, nI_add, show n - j = (n - (j + 1)) + 1 by omega, itF_s, ← ih (j + 1) _ (by omega) (by omega)]
      unfold cpF
      have hi26 := hT i
      have hj26 := hT j
      by_cases c1 : TH i = TH j
      · have d1 : nI (TH i) = nI (TH j) := by rw [c1]
        rw [if_pos d1, if_pos d1, if_pos d1]
        by_cases c2 : t.1 = -6
        · rw [if_pos c2, if_pos c2, if_pos c2, if_pos ⟨c1, Or.inl c2⟩]
        · rw [if_neg c2, if_neg c2, if_neg c2]
          by_cases c3 : t.2.2 ≤ HT i + HT j
          · rw [if_pos c3, if_pos c3, if_pos c3, if_neg (fun z => z.2.elim c2 (fun y => y c3))]
          · rw [if_neg c3, if_neg c3, if_neg c3, if_pos ⟨c1, Or.inr c3⟩]
      · have d1 : ¬ nI (TH i) = nI (TH j) := by rw [nI_eqs (by omega) (by omega)]; exact c1
        rw [if_neg d1, if_neg d1, if_neg d1, if_neg (fun z => c1 z.1)]
theorem cool71_L (Fu : Nat) (hF : 20000000 ≤ Fu) (k : Int32 → Int32 → Option (Int32 × Ar × Ar × Ar)) {n : Nat} {t1 t2 : Ar} (hn : n ≤ 12) (TH : Nat → Nat) (HT : Nat → Int32) (hT : ∀ c, TH c < 26) (h1 : ∀ c, c < n → t1 c = nI (TH c)) (h2 : ∀ c, c < n → t2 c = HT c) : ∀ (fu i : Nat) (t : T3), i ≤ n → n - i < fu → f_X3_coolestPair_L71 Fu k (nI n) t1 t2 fu t.1 t.2.1 t.2.2 (nI i) = k (itF (coF TH HT n) i (n - i) t).1 (itF (coF TH HT n) i (n - i) t).2.1 := by
  intro fu
  induction fu with
  | zero => intro i t a b; omega
  | succ fu ih =>
    intro i t a b
    rw [f_X3_coolestPair_L71_s]
    by_cases hh : n ≤ i
    · rw [if_pos (by rw [nI_les (by omega) (by omega)]; exact hh), show n - i = 0 by omega, itF_0]
    · rw [if_neg (by rw [nI_les (by omega) (by omega)]; exact hh), jn_eq, nI_add, cool89_L Fu _ hn (by omega) TH HT hT h1 h2 Fu (i + 1) t (by omega) (by omega), show n - i = (n - (i + 1)) + 1 by omega, itF_s, ← ih (i + 1) _ (by omega) (by omega)]
      rfl
theorem cool14_L (Fu : Nat) (hF : 20000000 ≤ Fu) (hW : WF A) (h : RV A se le he sa fa ge ns nf sp bo fi) : ∀ (fu i : Nat) (t1 t2 tl : Ar), i ≤ A.ns → (∀ c, c < i → t1 c = nI (thA A c)) → (∀ c, c < i → t2 c = htA A c) → A.ns - i < fu → ∃ t1' t2' tl', (∀ c, c < A.ns → t1' c = nI (thA A c)) ∧ (∀ c, c < A.ns → t2' c = htA A c) ∧ ∀ k : Ar → Ar → Ar → Option (Int32 × Ar × Ar × Ar), f_X3_coolestPair_L14 Fu k le he sa ns fu (nI i) t1 t2 tl = k t1' t2' tl' := by
  have hn := hW.n
  intro fu
  induction fu with
  | zero => intro i t1 t2 tl a b c d; omega
  | succ fu ih =>
    intro i t1 t2 tl a b c d
    by_cases hh : A.ns ≤ i
    · refine ⟨t1, t2, tl, fun j hj => b j (by omega), fun j hj => c j (by omega), fun k => ?_⟩
      rw [f_X3_coolestPair_L14_s, h.rns, if_pos (by rw [nI_les (by omega) (by omega)]; exact hh)]
    · have hi : i < A.ns := by omega
      obtain ⟨tl', e1⟩ := themeOf_s (Fu := Fu) hF hW h tl hi
      have e2 := heatOf_s hF hW h hi
      obtain ⟨t1', t2', tl'', z1, z2, z3⟩ := ih (i + 1) (upd t1 i (nI (thA A i))) (upd t2 i (htA A i)) tl' (by omega) (fun j hj => by
        by_cases q : j = i
        · subst q; rw [upd_eq]
        · rw [upd_ne q]; exact b j (by omega)) (fun j hj => by
        by_cases q : j = i
        · subst q; rw [upd_eq]
        · rw [upd_ne q]; exact c j (by omega)) (by omega)
      refine ⟨t1', t2', tl'', z1, z2, fun k => ?_⟩
      rw [← z3 k, f_X3_coolestPair_L14_s]
      rw [h.rns] 
      rw [if_neg (by rw [nI_les (by omega) (by omega)]; exact hh), e1, bd2_s, ix_nIs (by omega) (by omega), gd_true, e2, bd1_s, gd_true, nI_clamps (by omega), nI_add]
      rfl
theorem cool41_L (Fu : Nat) (hF : 20000000 ≤ Fu) (k : Int32 → Int32 → Int32 → Option Int32) (hW : WF A) (g : RS A s) {i : Nat} (hi : i < A.ns) : ∀ (fu j : Nat) (t : T3), j ≤ A.ns → A.ns - j < fu → f_X4_coolestPair_L41 Fu k s (nI i) fu t.1 t.2.1 t.2.2 (nI j) = k (itF (cpF (thA A) (htA A) i) j (A.ns - j) t).1 (itF (cpF (thA A) (htA A) i) j (A.ns - j) t).2.1 (itF (cpF (thA A) (htA A) i) j (A.ns - j) t).2.2 := by
  have hn := hW.n
  intro fu
  induction fu with
  | zero => intro j t a b; omega
  | succ fu ih =>
    intro j t a b
    rw [f_X4_coolestPair_L41_s, g.rns]
    by_cases hh : A.ns ≤ j
    · rw [if_pos (by rw [nI_les (by omega) (by omega)]; exact hh), show A.ns - j = 0 by omega, itF_0]
    · have hj : j < A.ns := by omega
      have e1 : f_X4_heatOf Fu s (nI i) = some (htA A i) := heatOf4_s hF hW g hi
      have e2 : f_X4_heatOf Fu s (nI j) = some (htA A j) := heatOf4_s hF hW g hj
      have e3 : f_X4_theme Fu s (nI i) = some (nI (thA A i)) := theme_s hF hW g hi
      have e4 : f_X4_theme Fu s (nI j) = some (nI (thA A j)) := theme_s hF hW g hj
      have hi26 : thA A i < 26 := thR_lt _
      have hj26 : thA A j < 26 := thR_lt _
      rw [if_neg (by rw [nI_les (by omega) (by omega)]; exact hh), e1, bd1_s, e2, bd1_s, e3, bd1_s, e4, bd1_s, nm_eq, nm_eq, nm_eq, nm_eq, nI_add, show A.ns - j = (A.ns - (j + 1)) + 1 by omega, itF_s, ← ih (j + 1) _ (by omega) (by omega)]
      unfold cpF
      by_cases c1 : thA A i = thA A j
      · have d1 : nI (thA A i) = nI (thA A j) := by rw [c1]
        rw [if_pos d1]
        by_cases c2 : t.1 = -6
        · rw [if_pos c2, if_neg one_ne, if_neg one_ne, if_neg one_ne, if_pos ⟨c1, Or.inl c2⟩]
        · rw [if_neg c2]
          by_cases c3 : t.2.2 ≤ htA A i + htA A j
          · rw [if_pos c3, if_pos zero_eq, if_pos zero_eq, if_pos zero_eq, if_neg (fun z => z.2.elim c2 (fun y => y c3))]
          · rw [if_neg c3, if_neg one_ne, if_neg one_ne, if_neg one_ne, if_pos ⟨c1, Or.inr c3⟩]
      · have d1 : ¬ nI (thA A i) = nI (thA A j) := by rw [nI_eqs (by omega) (by omega)]; exact c1
        rw [if_neg d1, if_pos zero_eq, if_pos zero_eq, if_pos zero_eq, if_neg (fun z => c1 z.1)]
theorem cool24_L (Fu : Nat) (hF : 20000000 ≤ Fu) (k : Int32 → Int32 → Option Int32) (hW : WF A) (g : RS A s) : ∀ (fu i : Nat) (t : T3), i ≤ A.ns → A.ns - i < fu → f_X4_coolestPair_L24 Fu k s fu t.1 t.2.1 t.2.2 (nI i) = k (itF (coF (thA A) (htA A) A.ns) i (A.ns - i) t).1 (itF (coF (thA A) (htA A) A.ns) i (A.ns - i) t).2.1 := by
  have hn := hW.n
  intro fu
  induction fu with
  | zero => intro i t a b; omega
  | succ fu ih =>
    intro i t a b
    rw [f_X4_coolestPair_L24_s, g.rns]
    by_cases hh : A.ns ≤ i
    · rw [if_pos (by rw [nI_les (by omega) (by omega)]; exact hh), show A.ns - i = 0 by omega, itF_0]
    · rw [if_neg (by rw [nI_les (by omega) (by omega)]; exact hh), jn_eq, nI_add, cool41_L Fu hF _ hW g (by omega) Fu (i + 1) t (by omega) (by omega), show A.ns - i = (A.ns - (i + 1)) + 1 by omega, itF_s, ← ih (i + 1) _ (by omega) (by omega)]
      rfl
theorem sim_cool (hF : 20000000 ≤ Fu) (hW : WF A) (h : RV A se le he sa fa ge ns nf sp bo fi) (g : RS A s) (t1 t2 tl : Ar) (p : Int32) : ∃ r t1' t2' tl', f_X3_coolestPair Fu t1 t2 le he sa tl ns p = some (r, t1', t2', tl') ∧ f_X4_coolestPair Fu s p = some r := by
  have hn := hW.n
  unfold f_X3_coolestPair f_X4_coolestPair
  rw [isWithin_s, in4_s, bd1_s, bd1_s]
  by_cases hp : nI 0 ≤ p ∧ p ≤ nI 1
  · rw [if_pos hp, if_neg one_ne, if_neg one_ne]
    obtain ⟨t1', t2', tl', z1, z2, z3⟩ := cool14_L Fu hF hW h Fu 0 t1 t2 tl (Nat.zero_le _) (fun c hc => absurd hc (Nat.not_lt_zero _)) (fun c hc => absurd hc (Nat.not_lt_zero _)) (by omega)
    have m1 := fun k => cool71_L Fu hF k hn (thA A) (htA A) (fun c => thR_lt _) z1 z2 Fu 0 (-6, -6, nI 0) (Nat.zero_le _) (by omega)
    have m2 := fun k => cool24_L Fu hF k hW g Fu 0 (-6, -6, nI 0) (Nat.zero_le _) (by omega)
    rw [jn_eq, z3, jn_eq, h.rns, m1, nm_eq, jn_eq, m2, nm_eq]
    exact ⟨_, _, _, _, rfl, rfl⟩
  · rw [if_neg hp, if_pos zero_eq, if_pos zero_eq]
    exact ⟨-2, _, _, _, rfl, rfl⟩
end CO
end
section
/-! PURE: what two stories have in common -/
def Qr (a b : FN) : Nat → Nat → Nat
  | 0, _ => 0
  | i + 1, j => if a i = b j then (if j = 0 then 0 else Qr a b i (j - 1)) + 1 else 0
theorem Qr_s (a b : FN) (i j : Nat) : Qr a b (i + 1) j = if a i = b j then (if j = 0 then 0 else Qr a b i (j - 1)) + 1 else 0 := rfl
theorem Qr_C (a b : FN) : ∀ (i j : Nat), Qr a b i j ≤ i ∧ Qr a b i j ≤ j + 1 ∧ ∀ t, t < Qr a b i j → a (i - Qr a b i j + t) = b (j + 1 - Qr a b i j + t) := by
  intro i
  induction i with
  | zero => intro j; exact ⟨Nat.le_refl _, Nat.zero_le _, fun t h => absurd h (Nat.not_lt_zero _)⟩
  | succ i ih =>
    intro j
    rw [Qr_s]
    by_cases h : a i = b j
    · rw [if_pos h]
      by_cases h0 : j = 0
      · subst h0
        rw [if_pos rfl]
        refine ⟨by omega, by omega, fun t ht => ?_⟩
        have : t = 0 := by omega
        subst this
        exact h
      · rw [if_neg h0]
        obtain ⟨q1, q2, q3⟩ := ih (j - 1)
        refine ⟨by omega, by omega, fun t ht => ?_⟩
        by_cases c : t < Qr a b i (j - 1)
        · have := q3 t c
          rw [show i + 1 - (Qr a b i (j - 1) + 1) + t = i - Qr a b i (j - 1) + t by omega, show j + 1 - (Qr a b i (j - 1) + 1) + t = j - 1 + 1 - Qr a b i (j - 1) + t by omega]
          exact this
        · rw [show i + 1 - (Qr a b i (j - 1) + 1) + t = i by omega, show j + 1 - (Qr a b i (j - 1) + 1) + t = j by omega]
          exact h
    · rw [if_neg h]
      exact ⟨Nat.zero_le _, Nat.zero_le _, fun t ht => absurd ht (Nat.not_lt_zero _)⟩
theorem C_Qr (a b : FN) : ∀ (l i j : Nat), (∀ t, t ≤ l → a (i + t) = b (j + t)) → l + 1 ≤ Qr a b (i + l + 1) (j + l) := by
  intro l
  induction l with
  | zero =>
    intro i j h
    have h0 := h 0 (Nat.le_refl _)
    simp only [Nat.add_zero] at h0 ⊢
    rw [Qr_s, if_pos h0]
    omega
  | succ l ih =>
    intro i j h
    have := ih i j (fun t ht => h t (by omega))
    rw [Qr_s, if_pos (h (l + 1) (Nat.le_refl _)), if_neg (by omega), show j + (l + 1) - 1 = j + l by omega]
    have e : i + (l + 1) = i + l + 1 := by omega
    rw [e]
    omega
theorem jmaxn {a b : Nat} (ha : a < 1000000) (hb : b < 1000000) : jmax (nI a) (nI b) = nI (if a < b then b else a) := by
  unfold jmax
  by_cases h : a < b
  · rw [if_pos h, if_pos (by rw [nI_lts (by omega) (by omega)]; exact h)]
  · rw [if_neg h, if_neg (by rw [nI_lts (by omega) (by omega)]; exact h)]
theorem cI_m1 (r : Nat) (hr : r < 1000000) : nI r + (-1) = cI r := by
  unfold cI
  by_cases h : r = 0
  · subst h; rw [if_pos rfl]; decide
  · rw [if_neg h, nI_m1s (by omega)]
section CM
variable {Fu : Nat} {A : Sh} {se le he sa fa ge : Ar} {ns nf sp bo fi : Int32} {s : Ar} {K J : Nat}
theorem com88_L (Fu : Nat) (k : Int32 → Ar → Option (Int32 × Ar)) (hW : WF A) (h : RV A se le he sa fa ge ns nf sp bo fi) (hK : K < A.ns) (hJ : J < A.ns) {i : Nat} (hi : i < A.sz K) : ∀ (fu r acc : Nat) (q : Ar), r ≤ A.sz J → acc ≤ 150 → (∀ j, j < A.sz J → q j = nI (if r ≤ j then Qr (fun x => A.le (A.st K + x)) (fun x => A.le (A.st J + x)) (i + 1) j else Qr (fun x => A.le (A.st K + x)) (fun x => A.le (A.st J + x)) i j)) → r < fu →
    ∃ acc' q', acc ≤ acc' ∧ acc' ≤ 150 ∧ (∀ j, j < r → Qr (fun x => A.le (A.st K + x)) (fun x => A.le (A.st J + x)) (i + 1) j ≤ acc') ∧ (acc' = acc ∨ ∃ j, j < r ∧ acc' = Qr (fun x => A.le (A.st K + x)) (fun x => A.le (A.st J + x)) (i + 1) j) ∧ (∀ j, j < A.sz J → q' j = nI (Qr (fun x => A.le (A.st K + x)) (fun x => A.le (A.st J + x)) (i + 1) j)) ∧
      f_X3_common_L88 Fu k le sa (nI J) (nI (A.st K + i)) fu (nI acc) (cI r) q = k (nI acc') q' := by
  have hn := hW.n
  have hw := hW.w
  obtain ⟨z1, z2, z3⟩ := hW.sz hK
  obtain ⟨y1, y2, y3⟩ := hW.sz hJ
  have eJ := h.rsa (show J ≤ A.ns by omega)
  have ea := h.rle (show A.st K + i < A.wn by omega)
  have ba := (hW.2.2 (A.st K + i) (by omega)).1
  intro fu
  induction fu with
  | zero => intro r acc q h1 h2 h3 h4; omega
  | succ fu ih =>
    intro r acc q h1 h2 h3 h4
    rw [f_X3_common_L88_s]
    by_cases hr : r = 0
    · subst hr
      rw [cI_0, if_pos (by decide)]
      exact ⟨acc, q, Nat.le_refl _, h2, fun j hj => by omega, Or.inl rfl, fun j hj => by rw [h3 j hj, if_pos (Nat.zero_le _)], rfl⟩
    · obtain ⟨j, rfl⟩ : ∃ j, r = j + 1 := ⟨r - 1, by omega⟩
      have eb := h.rle (show A.st J + j < A.wn by omega)
      have bb := (hW.2.2 (A.st J + j) (by omega)).1
      have hQ := Qr_C (fun x => A.le (A.st K + x)) (fun x => A.le (A.st J + x)) (i + 1) j
      have key : Qr (fun x => A.le (A.st K + x)) (fun x => A.le (A.st J + x)) (i + 1) j = if A.le (A.st K + i) = A.le (A.st J + j) then (if j = 0 then 0 else Qr (fun x => A.le (A.st K + x)) (fun x => A.le (A.st J + x)) i (j - 1)) + 1 else 0 := rfl
      have eq1 : (if nI (A.le (A.st K + i)) = nI (A.le (A.st J + j)) then nI 1 else nI 0) = nI (if A.le (A.st K + i) = A.le (A.st J + j) then 1 else 0) := by
        by_cases c : A.le (A.st K + i) = A.le (A.st J + j)
        · rw [if_pos c, c, if_pos rfl]
        · rw [if_neg c, if_neg (by rw [nI_eqs (by omega) (by omega)]; exact c)]
      obtain ⟨acc', q', g1, g2, g3, g4, g5, g6⟩ := ih j (if acc < Qr (fun x => A.le (A.st K + x)) (fun x => A.le (A.st J + x)) (i + 1) j then Qr (fun x => A.le (A.st K + x)) (fun x => A.le (A.st J + x)) (i + 1) j else acc) (upd q j (nI (Qr (fun x => A.le (A.st K + x)) (fun x => A.le (A.st J + x)) (i + 1) j))) (by omega) (by
        by_cases c : acc < Qr (fun x => A.le (A.st K + x)) (fun x => A.le (A.st J + x)) (i + 1) j
        · rw [if_pos c]; omega
        · rw [if_neg c]; exact h2) (fun c hc => by
        by_cases d : c = j
        · subst d; rw [upd_eq, if_pos (Nat.le_refl _)]
        · rw [upd_ne d, h3 c hc]
          by_cases e : j + 1 ≤ c
          · rw [if_pos e, if_pos (by omega)]
          · rw [if_neg e, if_neg (by omega)]) (by omega)
      have bnd : acc ≤ (if acc < Qr (fun x => A.le (A.st K + x)) (fun x => A.le (A.st J + x)) (i + 1) j then Qr (fun x => A.le (A.st K + x)) (fun x => A.le (A.st J + x)) (i + 1) j else acc) ∧ Qr (fun x => A.le (A.st K + x)) (fun x => A.le (A.st J + x)) (i + 1) j ≤ (if acc < Qr (fun x => A.le (A.st K + x)) (fun x => A.le (A.st J + x)) (i + 1) j then Qr (fun x => A.le (A.st K + x)) (fun x => A.le (A.st J + x)) (i + 1) j else acc) := by
        by_cases c : acc < Qr (fun x => A.le (A.st K + x)) (fun x => A.le (A.st J + x)) (i + 1) j
        · rw [if_pos c]; omega
        · rw [if_neg c]; omega
      refine ⟨acc', q', by omega, g2, fun c hc => ?_, ?_, g5, ?_⟩
      · by_cases d : c = j
        · subst d; omega
        · exact g3 c (by omega)
      · rcases g4 with g4 | ⟨c, hc, g4⟩
        · by_cases c : acc < Qr (fun x => A.le (A.st K + x)) (fun x => A.le (A.st J + x)) (i + 1) j
          · rw [if_pos c] at g4
            exact Or.inr ⟨j, by omega, g4⟩
          · rw [if_neg c] at g4
            exact Or.inl g4
        · exact Or.inr ⟨c, by omega, g4⟩
      · rw [← g6, cI_s, if_neg (show ¬ nI j < 0 from nI_pos (by omega)), ix_nIs (by omega) (by omega), gd_true, nI_clamps (show J < 2147483648 by omega), eJ, nI_add, ix_nIs (by omega) (by omega), gd_true, nm_eq, nI_clamps (by omega), nI_clamps (by omega), ea, eb, eq1, jn_eq]
        have fin : ∀ v : Nat, v = (if j = 0 then 0 else Qr (fun x => A.le (A.st K + x)) (fun x => A.le (A.st J + x)) i (j - 1)) → (nm (if nI (if A.le (A.st K + i) = A.le (A.st J + j) then 1 else 0) = 0 then nI 0 else nI v + nI 1) fun v29 => gd (ix (nI j) 150) (gd (ix (nI j) 150) (nm (jmax (nI acc) ((upd q (nI j).toNatClampNeg v29) (nI j).toNatClampNeg)) (fun v32 => f_X3_common_L88 Fu k le sa (nI J) (nI (A.st K + i)) fu v32 (nI j + (-1)) (upd q (nI j).toNatClampNeg v29))))) = f_X3_common_L88 Fu k le sa (nI J) (nI (A.st K + i)) fu (nI (if acc < Qr (fun x => A.le (A.st K + x)) (fun x => A.le (A.st J + x)) (i + 1) j then Qr (fun x => A.le (A.st K + x)) (fun x => A.le (A.st J + x)) (i + 1) j else acc)) (cI j) (upd q j (nI (Qr (fun x => A.le (A.st K + x)) (fun x => A.le (A.st J + x)) (i + 1) j))) := fun v hv => by
          have e9 : (if nI (if A.le (A.st K + i) = A.le (A.st J + j) then 1 else 0) = 0 then nI 0 else nI v + nI 1) = nI (Qr (fun x => A.le (A.st K + x)) (fun x => A.le (A.st J + x)) (i + 1) j) := by
            rw [key, nI_add, hv]
            by_cases c : A.le (A.st K + i) = A.le (A.st J + j)
            · rw [if_pos c, if_neg one_ne, if_pos c]
            · rw [if_neg c, if_pos zero_eq, if_neg c]
          rw [e9, nm_eq, ix_nIs (by omega) (by omega), gd_true, gd_true, nI_clamps (by omega), upd_eq, jmaxn (by omega) (by omega), nm_eq, cI_m1 j (by omega)]
        by_cases j0 : j = 0
        · subst j0
          rw [if_pos (show nI 0 ≤ 0 by decide)]
          exact fin 0 rfl
        · rw [if_neg (show ¬ nI j ≤ 0 by rw [nI_zero, nI_les (by omega) (by omega)]; omega), pk_subs (by omega), ix_nIs (by omega) (by omega), gd_true, nI_clamps (show j - 1 < 2147483648 by omega), h3 (j - 1) (by omega), if_neg (show ¬ j + 1 ≤ j - 1 by omega)]
          exact fin _ (by rw [if_neg j0])
theorem com66_L (Fu : Nat) (hF : 20000000 ≤ Fu) (k : Int32 → Ar → Option (Int32 × Ar)) (hW : WF A) (h : RV A se le he sa fa ge ns nf sp bo fi) (hK : K < A.ns) (hJ : J < A.ns) : ∀ (fu i acc : Nat) (q : Ar), i ≤ A.sz K → acc ≤ 150 → (∀ j, j < A.sz J → q j = nI (Qr (fun x => A.le (A.st K + x)) (fun x => A.le (A.st J + x)) i j)) → A.sz K - i < fu →
    ∃ acc' q', acc ≤ acc' ∧ (∀ c j, i ≤ c → c < A.sz K → j < A.sz J → Qr (fun x => A.le (A.st K + x)) (fun x => A.le (A.st J + x)) (c + 1) j ≤ acc') ∧ (acc' = acc ∨ ∃ c j, c < A.sz K ∧ j < A.sz J ∧ acc' = Qr (fun x => A.le (A.st K + x)) (fun x => A.le (A.st J + x)) (c + 1) j) ∧
      f_X3_common_L66 Fu k le sa (nI K) (nI J) (nI (A.sz J)) fu (nI acc) (nI (A.st K + i)) q = k (nI acc') q' := by
  have hn := hW.n
  have hw := hW.w
  obtain ⟨z1, z2, z3⟩ := hW.sz hK
  obtain ⟨y1, y2, y3⟩ := hW.sz hJ
  have eK := h.rsa (show K + 1 ≤ A.ns by omega)
  intro fu
  induction fu with
  | zero => intro i acc q h1 h2 h3 h4; omega
  | succ fu ih =>
    intro i acc q h1 h2 h3 h4
    rw [f_X3_common_L66_s, nI_add, ix_nIs (by omega) (by omega), gd_true, nI_clamps (by omega), eK]
    by_cases hh : A.st (K + 1) ≤ A.st K + i
    · rw [if_pos (by rw [nI_les (by omega) (by omega)]; exact hh)]
      exact ⟨acc, q, Nat.le_refl _, fun c j a b => by omega, Or.inl rfl, rfl⟩
    · rw [if_neg (by rw [nI_les (by omega) (by omega)]; exact hh), jn_eq]
      obtain ⟨a1, q1, g1, g2, g3, g4, g5, g6⟩ := com88_L Fu (fun v33 q34 => f_X3_common_L66 Fu k le sa (nI K) (nI J) (nI (A.sz J)) fu v33 (nI (A.st K + i) + nI 1) q34) hW h hK hJ (show i < A.sz K by omega) Fu (A.sz J) acc q (Nat.le_refl _) h2 (fun j hj => by rw [h3 j hj, if_neg (by omega)]) (by omega)
      obtain ⟨a2, q2, i1, i2, i3, i4⟩ := ih (i + 1) a1 q1 (by omega) g2 g5 (by omega)
      refine ⟨a2, q2, by omega, fun c j hc hc2 hj => ?_, ?_, ?_⟩
      · by_cases d : c = i
        · subst d
          have := g3 j hj
          omega
        · exact i2 c j (by omega) hc2 hj
      · rcases i3 with i3 | i3
        · rcases g4 with g4 | ⟨j, hj, g4⟩
          · exact Or.inl (by omega)
          · exact Or.inr ⟨i, j, by omega, hj, by omega⟩
        · exact Or.inr i3
      · have er : nI (A.sz J) - nI 1 = cI (A.sz J) := by
          rw [pk_subs (by omega)]
          unfold cI
          rw [if_neg (by omega)]
        rw [er, g6, nI_add]
        exact i4
/-- a common row of length l -/
def Cm (A : Sh) (K J i j l : Nat) : Prop := i + l ≤ A.sz K ∧ j + l ≤ A.sz J ∧ ∀ t, t < l → A.le (A.st K + (i + t)) = A.le (A.st J + (j + t))
theorem com77_L (Fu : Nat) (k : Int32 → Option Int32) (hW : WF A) (g : RS A s) (hK : K < A.ns) (hJ : J < A.ns) {i j : Nat} : ∀ (fu l : Nat), Cm A K J i j l → 151 - l < fu → ∃ e, e ≤ 150 ∧ Cm A K J i j e ∧ (∀ m, Cm A K J i j m → m ≤ e) ∧ f_X4_common_L77 Fu k s (nI K) (nI J) (nI (A.st K)) (nI (A.st J)) (nI i) (nI j) fu (nI l) = k (nI e) := by
  have hn := hW.n
  have hw := hW.w
  obtain ⟨z1, z2, z3⟩ := hW.sz hK
  obtain ⟨y1, y2, y3⟩ := hW.sz hJ
  have eK : s (9 + K) = nI (A.sz K) := g.rlo hK
  have eJ : s (9 + J) = nI (A.sz J) := g.rlo hJ
  intro fu
  induction fu with
  | zero => intro l h1 h2; omega
  | succ fu ih =>
    intro l h1 h2
    have h1a := h1.1
    have h1b := h1.2.1
    rw [f_X4_common_L77_s, nI_add, ix_nIs (by omega) (by omega), gd_true, nI_clamps (by omega), eK, nI_add]
    by_cases c1 : A.sz K ≤ i + l
    · rw [if_pos (by rw [nI_les (by omega) (by omega)]; exact c1)]
      exact ⟨l, by omega, h1, fun m hm => by have := hm.1; omega, rfl⟩
    · rw [if_neg (by rw [nI_les (by omega) (by omega)]; exact c1), nI_add, ix_nIs (by omega) (by omega), gd_true, nI_clamps (by omega), eJ, nI_add]
      by_cases c2 : A.sz J ≤ j + l
      · rw [if_pos (by rw [nI_les (by omega) (by omega)]; exact c2)]
        exact ⟨l, by omega, h1, fun m hm => by have := hm.2.1; omega, rfl⟩
      · have ea := g.rle (show A.st K + (i + l) < A.wn by omega)
        have eb := g.rle (show A.st J + (j + l) < A.wn by omega)
        have ba := (hW.2.2 (A.st K + (i + l)) (by omega)).1
        have bb := (hW.2.2 (A.st J + (j + l)) (by omega)).1
        have e1 : nI 45 + nI (A.st K) + nI i + nI l = nI (45 + (A.st K + (i + l))) := by
          rw [nI_add, nI_add, nI_add]; congr 1; omega
        have e2 : nI 45 + nI (A.st J) + nI j + nI l = nI (45 + (A.st J + (j + l))) := by
          rw [nI_add, nI_add, nI_add]; congr 1; omega
        rw [if_neg (by rw [nI_les (by omega) (by omega)]; exact c2), e1, e2, ix_nIs (by omega) (by omega), gd_true, ix_nIs (by omega) (by omega), gd_true, nI_clamps (by omega), nI_clamps (by omega), ea, eb]
        by_cases c3 : A.le (A.st K + (i + l)) = A.le (A.st J + (j + l))
        · rw [if_pos (by rw [c3]), nI_add]
          refine ih (l + 1) ⟨by omega, by omega, fun t ht => ?_⟩ (by omega)
          by_cases d : t = l
          · subst d; exact c3
          · exact h1.2.2 t (by omega)
        · rw [if_neg (by rw [nI_eqs (by omega) (by omega)]; exact c3)]
          refine ⟨l, by omega, h1, fun m hm => ?_, rfl⟩
          by_cases d : m ≤ l
          · exact d
          · exact absurd (hm.2.2 l (by omega)) c3
theorem com60_L (Fu : Nat) (hF : 20000000 ≤ Fu) (k : Int32 → Option Int32) (hW : WF A) (g : RS A s) (hK : K < A.ns) (hJ : J < A.ns) {i : Nat} (hi : i ≤ A.sz K) : ∀ (fu j acc : Nat), j ≤ A.sz J → acc ≤ 150 → A.sz J - j < fu → ∃ acc', acc ≤ acc' ∧ acc' ≤ 150 ∧ (∀ c m, j ≤ c → c < A.sz J → Cm A K J i c m → m ≤ acc') ∧ (acc' = acc ∨ ∃ c, Cm A K J i c acc') ∧ f_X4_common_L60 Fu k s (nI K) (nI J) (nI (A.st K)) (nI (A.st J)) (nI i) fu (nI acc) (nI j) = k (nI acc') := by
  have hn := hW.n
  have hw := hW.w
  obtain ⟨z1, z2, z3⟩ := hW.sz hK
  obtain ⟨y1, y2, y3⟩ := hW.sz hJ
  have eJ : s (9 + J) = nI (A.sz J) := g.rlo hJ
  intro fu
  induction fu with
  | zero => intro j acc h1 h2 h3; omega
  | succ fu ih =>
    intro j acc h1 h2 h3
    rw [f_X4_common_L60_s, nI_add, ix_nIs (by omega) (by omega), gd_true, nI_clamps (by omega), eJ]
    by_cases hh : A.sz J ≤ j
    · rw [if_pos (by rw [nI_les (by omega) (by omega)]; exact hh)]
      exact ⟨acc, Nat.le_refl _, h2, fun c m a b => by omega, Or.inl rfl, rfl⟩
    · rw [if_neg (by rw [nI_les (by omega) (by omega)]; exact hh), jn_eq]
      obtain ⟨e, e1, e2, e3, e4⟩ := com77_L Fu (fun v27 => nm (if v27 ≤ nI acc then nI acc else v27) (fun v29 => f_X4_common_L60 Fu k s (nI K) (nI J) (nI (A.st K)) (nI (A.st J)) (nI i) fu v29 (nI j + nI 1))) hW g hK hJ (i := i) (j := j) Fu 0 ⟨by omega, by omega, fun t ht => absurd ht (Nat.not_lt_zero _)⟩ (by omega)
      rw [e4, nm_eq, nI_add]
      have em : (if nI e ≤ nI acc then nI acc else nI e) = nI (if e ≤ acc then acc else e) := by
        by_cases c : e ≤ acc
        · rw [if_pos c, if_pos (by rw [nI_les (by omega) (by omega)]; exact c)]
        · rw [if_neg c, if_neg (by rw [nI_les (by omega) (by omega)]; exact c)]
      rw [em]
      have eb : acc ≤ (if e ≤ acc then acc else e) ∧ e ≤ (if e ≤ acc then acc else e) ∧ (if e ≤ acc then acc else e) ≤ 150 ∧ ((if e ≤ acc then acc else e) = acc ∨ (if e ≤ acc then acc else e) = e) := by
        by_cases c : e ≤ acc
        · rw [if_pos c]; omega
        · rw [if_neg c]; omega
      obtain ⟨a, f1, f2, f3, f4, f5⟩ := ih (j + 1) (if e ≤ acc then acc else e) (by omega) eb.2.2.1 (by omega)
      refine ⟨a, by omega, f2, fun c m hc hc2 hm => ?_, ?_, f5⟩
      · by_cases d : c = j
        · subst d
          have := e3 m hm
          omega
        · exact f3 c m (by omega) hc2 hm
      · rcases f4 with f4 | f4
        · rcases eb.2.2.2 with q | q
          · exact Or.inl (by omega)
          · exact Or.inr ⟨j, by rw [f4, q]; exact e2⟩
        · exact Or.inr f4
theorem com43_L (Fu : Nat) (hF : 20000000 ≤ Fu) (k : Int32 → Option Int32) (hW : WF A) (g : RS A s) (hK : K < A.ns) (hJ : J < A.ns) : ∀ (fu i acc : Nat), i ≤ A.sz K → acc ≤ 150 → A.sz K - i < fu → ∃ acc', acc ≤ acc' ∧ (∀ d c m, i ≤ d → d < A.sz K → c < A.sz J → Cm A K J d c m → m ≤ acc') ∧ (acc' = acc ∨ ∃ d c, Cm A K J d c acc') ∧ f_X4_common_L43 Fu k s (nI K) (nI J) (nI (A.st K)) (nI (A.st J)) fu (nI acc) (nI i) = k (nI acc') := by
  have hn := hW.n
  have hw := hW.w
  obtain ⟨z1, z2, z3⟩ := hW.sz hK
  obtain ⟨y1, y2, y3⟩ := hW.sz hJ
  have eK : s (9 + K) = nI (A.sz K) := g.rlo hK
  intro fu
  induction fu with
  | zero => intro i acc h1 h2 h3; omega
  | succ fu ih =>
    intro i acc h1 h2 h3
    rw [f_X4_common_L43_s, nI_add, ix_nIs (by omega) (by omega), gd_true, nI_clamps (by omega), eK]
    by_cases hh : A.sz K ≤ i
    · rw [if_pos (by rw [nI_les (by omega) (by omega)]; exact hh)]
      exact ⟨acc, Nat.le_refl _, fun d c m a b => by omega, Or.inl rfl, rfl⟩
    · rw [if_neg (by rw [nI_les (by omega) (by omega)]; exact hh), jn_eq]
      obtain ⟨a1, e1, e2, e3, e4, e5⟩ := com60_L Fu hF (fun v30 => f_X4_common_L43 Fu k s (nI K) (nI J) (nI (A.st K)) (nI (A.st J)) fu v30 (nI i + nI 1)) hW g hK hJ (i := i) (by omega) Fu 0 acc (Nat.zero_le _) h2 (by omega)
      obtain ⟨a2, f1, f2, f3, f4⟩ := ih (i + 1) a1 (by omega) e2 (by omega)
      rw [e5, nI_add]
      refine ⟨a2, by omega, fun d c m hd hd2 hc hm => ?_, ?_, f4⟩
      · by_cases q : d = i
        · subst q
          have := e3 c m (Nat.zero_le _) hc hm
          omega
        · exact f2 d c m (by omega) hd2 hc hm
      · rcases f3 with f3 | f3
        · rcases e4 with e4 | ⟨c, e4⟩
          · exact Or.inl (by omega)
          · exact Or.inr ⟨i, c, by rw [f3]; exact e4⟩
        · exact Or.inr f3
theorem sim_common (hF : 20000000 ≤ Fu) (hW : WF A) (h : RV A se le he sa fa ge ns nf sp bo fi) (g : RS A s) (q0 : Ar) (p q : Int32) : ∃ r q', f_X3_common Fu q0 le sa ns p q = some (r, q') ∧ f_X4_common Fu s p q = some r := by
  have hn := hW.n
  have x1 := hasStory_s Fu p (show A.ns < 1000000 by omega)
  have x2 := isStory_s Fu p g.rns (show A.ns < 1000000 by omega)
  have x3 := hasStory_s Fu q (show A.ns < 1000000 by omega)
  have x4 := isStory_s Fu q g.rns (show A.ns < 1000000 by omega)
  rw [← h.rns] at x1 x3
  unfold f_X3_common f_X4_common
  rw [x1, x2, bd1_s, bd1_s]
  by_cases hp : isS A.ns p = true
  · rw [if_pos hp, if_neg one_ne, if_neg one_ne, x3, x4, bd1_s, bd1_s]
    by_cases hq : isS A.ns q = true
    · rw [if_pos hq, if_neg one_ne, if_neg one_ne]
      obtain ⟨K, hK, rfl⟩ := isS_t hp (by omega)
      obtain ⟨J, hJ, rfl⟩ := isS_t hq (by omega)
      obtain ⟨z1, z2, z3⟩ := hW.sz hK
      obtain ⟨y1, y2, y3⟩ := hW.sz hJ
      have e1 : f_X2_sizeOf Fu sa (nI J) = some (nI (A.sz J)) := sizeOf_s Fu hW.1 (fun j hj => h.rsa hj) hJ
      have e2 := h.rsa (show K ≤ A.ns by omega)
      have e3 := first_r hF hW g (show K ≤ A.ns by omega)
      have e4 := first_r hF hW g (show J ≤ A.ns by omega)
      have hw := hW.w
      obtain ⟨X, q', c1, c2, c3, c4⟩ := com66_L Fu hF (fun v35 q36 => some (v35, q36)) hW h hK hJ Fu 0 0 (fun _ => nI 0) (Nat.zero_le _) (by omega) (fun j hj => rfl) (by omega)
      obtain ⟨Y, d1, d2, d3, d4⟩ := com43_L Fu hF (fun v31 => some v31) hW g hK hJ Fu 0 0 (Nat.zero_le _) (by omega) (by omega)
      have hXY : X = Y := by
        refine Nat.le_antisymm ?_ ?_
        · rcases c3 with c3 | ⟨c, j, hc, hj, c3⟩
          · omega
          · have hQ := Qr_C (fun x => A.le (A.st K + x)) (fun x => A.le (A.st J + x)) (c + 1) j
            rw [← c3] at hQ
            by_cases x0 : X = 0
            · omega
            · refine d2 (c + 1 - X) (j + 1 - X) X (Nat.zero_le _) (by omega) (by omega) ⟨by omega, by omega, fun t ht => hQ.2.2 t ht⟩
        · rcases d3 with d3 | ⟨d, c, d3⟩
          · omega
          · by_cases y0 : Y = 0
            · omega
            · have hQ := C_Qr (fun x => A.le (A.st K + x)) (fun x => A.le (A.st J + x)) (Y - 1) d c (fun t ht => d3.2.2 t (by omega))
              have b1 := d3.1
              have b2 := d3.2.1
              have := c2 (d + (Y - 1)) (c + (Y - 1)) (Nat.zero_le _) (by omega) (by omega)
              omega
      subst hXY
      rw [Nat.add_zero] at c4
      rw [ix_nIs (by omega) (by omega), gd_true, e1, bd1_s, ix_nIs (by omega) (by omega), gd_true, nI_clamps (by omega), e2, jn_eq, c4, e3, bd1_s, e4, bd1_s, jn_eq, d4]
      exact ⟨_, _, rfl, rfl⟩
    · rw [if_neg hq, if_pos zero_eq, if_pos zero_eq]
      exact ⟨-1, _, rfl, rfl⟩
  · rw [if_neg hp, if_pos zero_eq, if_pos zero_eq]
    exact ⟨-1, _, rfl, rfl⟩
end CM
end
section
/-! PURE: the pad; put, wipe -/
def Lp (p : Int64) (t : Nat) : Int64 := lushr p (nI 8 * nI t)
def Dp (p : Int64) (t : Nat) : Int32 := ((Lp p t) &&& (lN 255)).toInt32
theorem lu_n (x : Int64) (y : Int32) (k : Nat) (hk : k < 64) (hy : y.toInt64.toUInt64 &&& Int64.toUInt64 63 = UInt64.ofNat k) : (lushr x y).toUInt64.toNat = x.toUInt64.toNat >>> k := by
  show (x.toUInt64 >>> (y.toInt64.toUInt64 &&& Int64.toUInt64 63)).toNat = _
  rw [hy, UInt64.toNat_shiftRight]
  congr 1
  show (BitVec.ofNat 64 k).toNat % 64 = k
  rw [BitVec.toNat_ofNat]
  omega
theorem i64_ext {x y : Int64} (h : x.toUInt64.toNat = y.toUInt64.toNat) : x = y := by
  cases x
  cases y
  congr 1
  exact UInt64.toNat_inj.mp h
theorem sh_t (t : Nat) (ht : t < 8) : (nI 8 * nI t).toInt64.toUInt64 &&& Int64.toUInt64 63 = UInt64.ofNat (8 * t) := by
  rcases (show t = 0 ∨ t = 1 ∨ t = 2 ∨ t = 3 ∨ t = 4 ∨ t = 5 ∨ t = 6 ∨ t = 7 by omega) with rfl | rfl | rfl | rfl | rfl | rfl | rfl | rfl <;> decide
theorem Lp_n (p : Int64) (t : Nat) (ht : t < 8) : (Lp p t).toUInt64.toNat = p.toUInt64.toNat >>> (8 * t) := lu_n p _ (8 * t) (by omega) (sh_t t ht)
theorem Lp_0 (p : Int64) : Lp p 0 = p := i64_ext (by rw [Lp_n p 0 (by omega)]; rfl)
theorem Lp_s (p : Int64) (t : Nat) (ht : t + 1 < 8) : lushr (Lp p t) (nI 8) = Lp p (t + 1) := i64_ext (by
  rw [Lp_n p (t + 1) ht, lu_n (Lp p t) (nI 8) 8 (by omega) (by decide), Lp_n p t (by omega), ← Nat.shiftRight_add, show 8 * (t + 1) = 8 * t + 8 by omega])
theorem lcmp_0 {x : Int64} (h : lg_cmp x (lN 0) = 0) : x = lN 0 := by
  unfold lg_cmp at h
  by_cases c : x > lN 0
  · rw [if_pos c] at h; exact absurd h (by decide)
  · rw [if_neg c] at h
    by_cases d : x = lN 0
    · exact d
    · rw [if_neg d] at h; exact absurd h (by decide)
theorem Lp_end (p : Int64) (t : Nat) (ht : t + 1 < 8) (h : lg_cmp (Lp p t) (lN 0) = 0) : lg_cmp (Lp p (t + 1)) (lN 0) = 0 := by
  have e := lcmp_0 h
  rw [← Lp_s p t ht, e]
  decide
def okc (p : Int64) (t : Nat) : Prop := nI 33 ≤ Dp p t ∧ Dp p t ≤ nI 126
section PU
variable {Fu : Nat}
theorem put_w (k : Int32 → Int32 → Option (Int32 × Ar × Int32)) (p : Int64) : ∀ (fu t a : Nat), 8 - t < fu → t ≤ 8 → ∃ c, f_X4_put_L8 Fu k p fu (nI a) (nI 1) (nI t) = k (nI c) (nI 1) := by
  intro fu
  induction fu with
  | zero => intro t a h; omega
  | succ fu ih =>
    intro t a h ht
    rw [f_X4_put_L8_s]
    by_cases hh : 8 ≤ t
    · rw [if_pos (by rw [nI_les (by omega) (by omega)]; exact hh)]
      exact ⟨a, rfl⟩
    · rw [if_neg (by rw [nI_les (by omega) (by omega)]; exact hh), nm_eq, nm_eq, jn_eq, if_neg one_ne]
      dsimp only
      rw [nm_eq, nI_add]
      generalize (if nI t ≤ 0 then nI 0 else if lg_cmp (lushr p (nI 8 * nI t)) (lN 0) = 0 then nI 1 else nI 0) = v
      by_cases c : v = 0
      · rw [if_pos c, nI_add]; exact ih (t + 1) (a + 1) (by omega) (by omega)
      · rw [if_neg c, nI_add]; exact ih (t + 1) (a + 0) (by omega) (by omega)
theorem put_e (k : Int32 → Int32 → Option (Int32 × Ar × Int32)) (p : Int64) : ∀ (fu t a : Nat), 8 - t < fu → t ≤ 8 → 0 < t → (t < 8 → lg_cmp (Lp p t) (lN 0) = 0) → f_X4_put_L8 Fu k p fu (nI a) (nI 0) (nI t) = k (nI a) (nI 0) := by
  intro fu
  induction fu with
  | zero => intro t a h; omega
  | succ fu ih =>
    intro t a h ht h0 he
    rw [f_X4_put_L8_s]
    by_cases hh : 8 ≤ t
    · rw [if_pos (by rw [nI_les (by omega) (by omega)]; exact hh)]
    · have he' : lg_cmp (lushr p (nI 8 * nI t)) (lN 0) = 0 := he (by omega)
      rw [if_neg (by rw [nI_les (by omega) (by omega)]; exact hh), nm_eq, nm_eq, jn_eq, if_pos zero_eq, if_neg (show ¬ nI t ≤ 0 by rw [nI_zero, nI_les (by omega) (by omega)]; omega), if_pos he', if_neg one_ne, if_neg one_ne]
      dsimp only
      rw [nm_eq, nI_add, nI_add]
      exact ih (t + 1) (a + 0) (by omega) (by omega) (by omega) (fun q => Lp_end p t q (he (by omega)))
theorem put_L (k : Int32 → Int32 → Option (Int32 × Ar × Int32)) (p : Int64) : ∀ (fu t : Nat) (x : Int64), 8 - t < fu → t ≤ 8 → (t < 8 → x = Lp p t) → (∀ c, c < t → okc p c) →
    (∃ c, f_X1_charactersIn_L5 Fu fu x (nI t) = some (nI 0) ∧ f_X4_put_L8 Fu k p fu (nI t) (nI 0) (nI t) = k (nI c) (nI 1)) ∨ (∃ c, 0 < c ∧ c ≤ 8 ∧ (∀ d, d < c → okc p d) ∧ f_X1_charactersIn_L5 Fu fu x (nI t) = some (nI c) ∧ f_X4_put_L8 Fu k p fu (nI t) (nI 0) (nI t) = k (nI c) (nI 0)) := by
  intro fu
  induction fu with
  | zero => intro t x h; omega
  | succ fu ih =>
    intro t x h ht hx hc
    rw [f_X1_charactersIn_L5_s]
    by_cases hh : 8 ≤ t
    · have e : t = 8 := by omega
      subst e
      right
      refine ⟨8, by omega, by omega, hc, ?_, ?_⟩
      · rw [if_pos (by decide)]
      · rw [f_X4_put_L8_s, if_pos (by decide)]
    · have hx' := hx (by omega)
      subst hx'
      rw [if_neg (by rw [nI_les (by omega) (by omega)]; exact hh)]
      by_cases he : lg_cmp (Lp p t) (lN 0) = 0
      · rw [if_pos he]
        by_cases t0 : t = 0
        · subst t0
          left
          have e := lcmp_0 he
          rw [Lp_0] at e
          subst e
          have ev : (if nI 0 ≤ 0 then nI 0 else if lg_cmp (lushr (lN 0) (nI 8 * nI 0)) (lN 0) = 0 then nI 1 else nI 0) = nI 0 := if_pos (by decide)
          have ed : (if nI 33 ≤ ((lushr (lN 0) (nI 8 * nI 0)) &&& (lN 255)).toInt32 ∧ ((lushr (lN 0) (nI 8 * nI 0)) &&& (lN 255)).toInt32 ≤ nI 126 then nI 1 else nI 0) = nI 0 := if_neg (by decide)
          rw [f_X4_put_L8_s, if_neg (show ¬ nI 8 ≤ nI 0 by decide), nm_eq, nm_eq, ev, jn_eq, if_pos zero_eq, if_pos zero_eq, in4_s, ed, bd1_s, if_pos zero_eq]
          dsimp only
          rw [nm_eq, if_pos zero_eq, nI_add]
          obtain ⟨c, q⟩ := put_w (Fu := Fu) k (lN 0) fu (0 + 1) (0 + 1) (by omega) (by omega)
          exact ⟨c, rfl, q⟩
        · right
          exact ⟨t, by omega, by omega, hc, rfl, put_e k p (fu + 1) t t (by omega) ht (by omega) (fun _ => he)⟩
      · rw [if_neg he, isWithin_s, bd1_s]
        have eD : ((Lp p t) &&& (lN 255)).toInt32 = Dp p t := rfl
        have eD2 : ((lushr p (nI 8 * nI t)) &&& (lN 255)).toInt32 = Dp p t := rfl
        rw [eD]
        have ref : f_X4_put_L8 Fu k p (fu + 1) (nI t) (nI 0) (nI t) = f_X4_put_L8 Fu k p fu (nI (t + 1)) (if nI 33 ≤ Dp p t ∧ Dp p t ≤ nI 126 then nI 0 else nI 1) (nI (t + 1)) := by
          have ev : (if nI t ≤ 0 then nI 0 else if lg_cmp (lushr p (nI 8 * nI t)) (lN 0) = 0 then nI 1 else nI 0) = nI 0 := by
            by_cases q : nI t ≤ 0
            · rw [if_pos q]
            · have : ¬ lg_cmp (lushr p (nI 8 * nI t)) (lN 0) = 0 := he
              rw [if_neg q, if_neg this]
          rw [f_X4_put_L8_s, if_neg (by rw [nI_les (by omega) (by omega)]; exact hh), eD2, nm_eq, nm_eq, ev, jn_eq, if_pos zero_eq, if_pos zero_eq, in4_s, bd1_s]
          by_cases c : nI 33 ≤ Dp p t ∧ Dp p t ≤ nI 126
          · rw [if_pos c, if_neg one_ne]
            dsimp only
            rw [nm_eq, if_pos zero_eq, nI_add, if_pos c]
          · rw [if_neg c, if_pos zero_eq]
            dsimp only
            rw [nm_eq, if_pos zero_eq, nI_add, if_neg c]
        rw [ref]
        by_cases c : nI 33 ≤ Dp p t ∧ Dp p t ≤ nI 126
        · rw [if_pos c, if_neg one_ne, if_pos c, nI_add]
          exact ih (t + 1) _ (by omega) (by omega) (fun q => Lp_s p t q) (fun d hd => by
            by_cases e : d = t
            · subst e; exact c
            · exact hc d (by omega))
        · rw [if_neg c, if_pos zero_eq, if_neg c]
          left
          obtain ⟨d, q⟩ := put_w (Fu := Fu) k p fu (t + 1) (t + 1) (by omega) (by omega)
          exact ⟨d, rfl, q⟩
/-- the pad on both sides -/
def PR (n : Nat) (cs pd : Ar) : Prop := n ≤ 60 ∧ ∀ j, j < n → ∃ c, 33 ≤ c ∧ c ≤ 126 ∧ cs j = nI c ∧ pd j = nI c
theorem i2c_s {c : Nat} (h : c < 65536) : i2c (nI c) = nI c := by
  apply Int32.toInt_inj.mp
  have e1 : (nI c).toUInt32.toNat = c := by
    show (nI c).toBitVec.toNat = c
    show (BitVec.ofNat 32 c).toNat = c
    rw [BitVec.toNat_ofNat, Nat.mod_eq_of_lt (by omega)]
  have e2 : ((nI c).toUInt32 % 65536) = (nI c).toUInt32 := by
    apply UInt32.toNat_inj.mp
    rw [UInt32.toNat_mod, e1]
    exact Nat.mod_eq_of_lt h
  show (((nI c).toUInt32 % 65536).toInt32).toInt = _
  rw [e2]
  rfl
theorem okc_n {p : Int64} {t : Nat} (h : okc p t) : ∃ c, 33 ≤ c ∧ c ≤ 126 ∧ Dp p t = nI c := rng h (by omega) (by omega)
theorem add_L (k : Ar → Int32 → Option (Ar × Int32)) (p : Int64) {n : Nat} : ∀ (fu r l : Nat) (cs : Ar), r < fu → l + r ≤ 60 → r ≤ 8 → (∀ d, d < r → okc p d) → ∃ cs', (∀ j, j < l → cs' j = cs j) ∧ (∀ d, d < r → cs' (l + r - 1 - d) = Dp p d) ∧ f_X1_add_L5 Fu k p fu (cI r) cs (nI l) = k cs' (nI (l + r)) := by
  intro fu
  induction fu with
  | zero => intro r l cs h; omega
  | succ fu ih =>
    intro r l cs h hl hr ho
    rw [f_X1_add_L5_s]
    by_cases r0 : r = 0
    · subst r0
      rw [cI_0, if_pos (by decide)]
      exact ⟨cs, fun j hj => rfl, fun d hd => absurd hd (Nat.not_lt_zero _), rfl⟩
    · obtain ⟨m, rfl⟩ : ∃ m, r = m + 1 := ⟨r - 1, by omega⟩
      obtain ⟨c, c1, c2, c3⟩ := okc_n (ho m (by omega))
      have eD2 : ((lushr p (nI 8 * nI m)) &&& (lN 255)).toInt32 = Dp p m := rfl
      obtain ⟨cs', q1, q2, q3⟩ := ih m (l + 1) (upd cs l (nI c)) (by omega) (by omega) (by omega) (fun d hd => ho d (by omega))
      refine ⟨cs', fun j hj => ?_, fun d hd => ?_, ?_⟩
      · rw [q1 j (by omega), upd_ne (by omega)]
      · by_cases e : d = m
        · subst e
          rw [show l + (d + 1) - 1 - d = l by omega, q1 l (by omega), upd_eq, c3]
        · have := q2 d (by omega)
          rw [show l + (m + 1) - 1 - d = l + 1 + m - 1 - d by omega]
          exact this
      · rw [cI_s, if_neg (show ¬ nI m < 0 from nI_pos (by omega)), ix_nIs (by omega) (by omega), gd_true, nm_eq, eD2, c3, i2c_s (by omega), nI_clamps (by omega), cI_m1 m (by omega), nI_add, q3]
        congr 2
        omega
theorem put126_L (k : Ar → Option (Int32 × Ar × Int32)) (p : Int64) {n c : Nat} (hn : n + c ≤ 60) (hc : c ≤ 8) : ∀ (fu t : Nat) (pd : Ar), t ≤ c → c - t < fu → ∃ pd', (∀ j, j < n → pd' j = pd j) ∧ (∀ d, t ≤ d → d < c → pd' (n + c - 1 - d) = Dp p d) ∧ (∀ j, n + c ≤ j + t → pd' j = pd j) ∧ f_X4_put_L126 Fu k (nI n) p (nI c) fu (nI t) pd = k pd' := by
  intro fu
  induction fu with
  | zero => intro t pd h1 h2; omega
  | succ fu ih =>
    intro t pd h1 h2
    rw [f_X4_put_L126_s]
    by_cases hh : c ≤ t
    · rw [if_pos (by rw [nI_les (by omega) (by omega)]; exact hh)]
      exact ⟨pd, fun j hj => rfl, fun d a b => by omega, fun j hj => rfl, rfl⟩
    · have eD2 : ((lushr p (nI 8 * nI t)) &&& (lN 255)).toInt32 = Dp p t := rfl
      obtain ⟨pd', q1, q2, q3, q4⟩ := ih (t + 1) (upd pd (n + c - 1 - t) (Dp p t)) (by omega) (by omega)
      refine ⟨pd', fun j hj => ?_, fun d a b => ?_, fun j hj => ?_, ?_⟩
      · rw [q1 j hj, upd_ne (by omega)]
      · by_cases e : d = t
        · subst e
          rw [q3 _ (by omega), upd_eq]
        · exact q2 d (by omega) b
      · rw [q3 j (by omega), upd_ne (by omega)]
      · rw [if_neg (by rw [nI_les (by omega) (by omega)]; exact hh), nI_add, pk_subs (by omega), pk_subs (by omega), ix_nIs (by omega) (by omega), gd_true, nm_eq, eD2, nI_clamps (by omega), nI_add, q4]
theorem sim_put (hF : 20000000 ≤ Fu) {n : Nat} {cs pd : Ar} (hP : PR n cs pd) (p : Int64) : ∃ r n' cs' pd', PR n' cs' pd' ∧ f_X3_put Fu cs (nI n) p = some (r, cs', nI n') ∧ f_X4_put Fu pd (nI n) p = some (r, pd', nI n') := by
  have hn := hP.1
  unfold f_X3_put f_X4_put f_X1_charactersIn
  rw [jn_eq]
  rcases put_L (Fu := Fu) (fun v18 v19 => if v19 = 0 then if nI n + v18 ≤ nI 60 then jn (fun q27 => some (nI n + v18, q27, nI n + v18)) (fun k126 => f_X4_put_L126 Fu k126 (nI n) p v18 Fu (nI 0) pd) else some (-4, pd, nI n) else some (-2, pd, nI n)) p Fu 0 p (by omega) (by omega) (fun _ => (Lp_0 p).symm) (fun c hc => absurd hc (Nat.not_lt_zero _)) with ⟨c, q1, q2⟩ | ⟨c, c1, c2, c3, q1, q2⟩
  · rw [q1, bd1_s, if_pos zero_eq]
    refine ⟨-2, n, cs, pd, hP, rfl, ?_⟩
    refine Eq.trans q2 ?_
    rw [if_neg one_ne]
  · rw [q1, bd1_s, if_neg (show ¬ nI c = 0 by rw [nI_zero, nI_eqs (by omega) (by omega)]; omega), nI_add]
    by_cases hc : n + c ≤ 60
    · rw [if_pos (by rw [nI_les (by omega) (by omega)]; exact hc)]
      obtain ⟨cs', a1, a2, a3⟩ := add_L (Fu := Fu) (fun q7 q8 => some (q7, q8)) p (n := n) Fu c n cs (by omega) hc c2 c3
      obtain ⟨pd', b1, b2, b3, b4⟩ := put126_L (Fu := Fu) (fun q27 => some (nI (n + c), q27, nI (n + c))) p (n := n) (c := c) hc c2 Fu 0 pd (Nat.zero_le _) (by omega)
      refine ⟨nI (n + c), n + c, cs', pd', ⟨hc, fun j hj => ?_⟩, ?_, ?_⟩
      · by_cases e : j < n
        · obtain ⟨x, x1, x2, x3, x4⟩ := hP.2 j e
          exact ⟨x, x1, x2, by rw [a1 j e]; exact x3, by rw [b1 j e]; exact x4⟩
        · obtain ⟨x, x1, x2, x3⟩ := okc_n (c3 (n + c - 1 - j) (by omega))
          have y1 := a2 (n + c - 1 - j) (by omega)
          have y2 := b2 (n + c - 1 - j) (Nat.zero_le _) (by omega)
          rw [show n + c - 1 - (n + c - 1 - j) = j by omega] at y1 y2
          exact ⟨x, x1, x2, by rw [y1, x3], by rw [y2, x3]⟩
      · have ec : nI c - nI 1 = cI c := by
          rw [pk_subs (by omega)]
          unfold cI
          rw [if_neg (by omega)]
        unfold f_X1_add
        rw [jn_eq, ec, a3, bd2_s]
      · refine Eq.trans q2 ?_
        rw [if_pos zero_eq, nI_add, if_pos (by rw [nI_les (by omega) (by omega)]; exact hc), jn_eq]
        exact b4
    · rw [if_neg (by rw [nI_les (by omega) (by omega)]; exact hc)]
      refine ⟨-4, n, cs, pd, hP, rfl, ?_⟩
      refine Eq.trans q2 ?_
      rw [if_pos zero_eq, nI_add, if_neg (by rw [nI_les (by omega) (by omega)]; exact hc)]
theorem PR.wipe (cs pd : Ar) : PR 0 cs pd := ⟨Nat.zero_le _, fun j hj => absurd hj (Nat.not_lt_zero _)⟩
end PU
end
section
/-! PURE: the text on the pad, both sides -/
abbrev isL (c : Nat) : Prop := 97 ≤ c ∧ c ≤ 122
def upN (f : FN) (a x : Nat) : FN := fun q => if q = a then x else f q
theorem upN_eq {f : FN} {a x : Nat} : upN f a x a = x := if_pos rfl
theorem upN_ne {f : FN} {a b x : Nat} (h : b ≠ a) : upN f a x b = f b := if_neg h
def nxt (q c : Nat) : Nat := if isL c then 1 else if q = 0 then 4 else if c = 47 then 0 else if q = 1 ∧ 49 ≤ c ∧ c ≤ 57 then 2 else if q = 2 ∧ 48 ≤ c ∧ c ≤ 57 then 3 else 4
def ps (ch : FN) : Nat → Nat
  | 0 => 0
  | i + 1 => nxt (ps ch i) (ch i)
theorem ps_s (ch : FN) (i : Nat) : ps ch (i + 1) = nxt (ps ch i) (ch i) := rfl
theorem nxt_le (q c : Nat) : nxt q c ≤ 4 := by
  unfold nxt
  (repeat' split) <;> omega
theorem ps_le (ch : FN) (i : Nat) : ps ch i ≤ 4 := by
  cases i with
  | zero => exact Nat.zero_le _
  | succ i => exact nxt_le _ _
def gdp (ch : FN) (i : Nat) : Prop := ∀ j, j ≤ i → ps ch j ≠ 4
theorem gdp_s {ch : FN} {i : Nat} (h : gdp ch i) (h2 : ps ch (i + 1) ≠ 4) : gdp ch (i + 1) := fun j hj => by
  by_cases e : j = i + 1
  · rw [e]; exact h2
  · exact h j (by omega)
/-- the fault -/
def FS (ch : FN) (n : Nat) (r : Int32) : Prop := (∃ i, i < n ∧ gdp ch i ∧ ps ch (i + 1) = 4 ∧ r = nI i) ∨ (gdp ch n ∧ ps ch n = 0 ∧ r = nI n) ∨ (gdp ch n ∧ ps ch n ≠ 0 ∧ r = -6)
theorem FS.det {ch : FN} {n : Nat} {r q : Int32} (h1 : FS ch n r) (h2 : FS ch n q) : r = q := by
  rcases h1 with ⟨i, a1, a2, a3, a4⟩ | ⟨a1, a2, a3⟩ | ⟨a1, a2, a3⟩
  · rcases h2 with ⟨j, b1, b2, b3, b4⟩ | ⟨b1, b2, b3⟩ | ⟨b1, b2, b3⟩
    · have : i = j := by
        rcases Nat.lt_trichotomy i j with t | t | t
        · exact absurd a3 (b2 (i + 1) t)
        · exact t
        · exact absurd b3 (a2 (j + 1) t)
      rw [a4, b4, this]
    · exact absurd a3 (b1 (i + 1) a1)
    · exact absurd a3 (b1 (i + 1) a1)
  · rcases h2 with ⟨j, b1, b2, b3, b4⟩ | ⟨b1, b2, b3⟩ | ⟨b1, b2, b3⟩
    · exact absurd b3 (a1 (j + 1) b1)
    · rw [a3, b3]
    · exact absurd a2 b2
  · rcases h2 with ⟨j, b1, b2, b3, b4⟩ | ⟨b1, b2, b3⟩ | ⟨b1, b2, b3⟩
    · exact absurd b3 (a1 (j + 1) b1)
    · exact absurd b2 a2
    · rw [a3, b3]
/-- what has been told up to a place: words, stories, letters, heats, stories of words, ends of stories -/
abbrev TT : Type := Nat × Nat × FN × FN × FN × FN
def tst (c : Nat) (T : TT) : TT :=
  if c = 47 then (T.1, T.2.1 + 1, T.2.2.1, T.2.2.2.1, T.2.2.2.2.1, upN T.2.2.2.2.2 (T.2.1 + 1) T.1)
  else if isL c then (T.1 + 1, T.2.1, upN T.2.2.1 T.1 (c - 97), upN T.2.2.2.1 T.1 0, upN T.2.2.2.2.1 T.1 (T.2.1 - 1), upN T.2.2.2.2.2 T.2.1 (T.1 + 1))
  else (T.1, T.2.1, T.2.2.1, upN T.2.2.2.1 (T.1 - 1) (T.2.2.2.1 (T.1 - 1) * 10 + (c - 48)), T.2.2.2.2.1, T.2.2.2.2.2)
def tpl (ch : FN) : Nat → TT
  | 0 => (0, 1, fun _ => 0, fun _ => 0, fun _ => 0, fun _ => 0)
  | i + 1 => tst (ch i) (tpl ch i)
theorem tpl_s (ch : FN) (i : Nat) : tpl ch (i + 1) = tst (ch i) (tpl ch i) := rfl
theorem tpl_le (ch : FN) : ∀ (i : Nat), (tpl ch i).1 ≤ i ∧ 1 ≤ (tpl ch i).2.1 ∧ (tpl ch i).2.1 ≤ i + 1 := by
  intro i
  induction i with
  | zero => exact ⟨Nat.le_refl _, Nat.le_refl _, Nat.le_refl _⟩
  | succ i ih =>
    rw [tpl_s]
    unfold tst
    by_cases c1 : ch i = 47
    · rw [if_pos c1]; dsimp only; omega
    · rw [if_neg c1]
      by_cases c2 : isL (ch i)
      · rw [if_pos c2]; dsimp only; omega
      · rw [if_neg c2]; dsimp only; omega
section PA
variable {Fu n : Nat} {ch : FN} {cs pd : Ar}
theorem isWordL_s (c : Nat) (hc : c < 1000000) : f_X1_isWord Fu (nI c) = some (if isL c then nI 1 else nI 0) := by
  unfold f_X1_isWord
  rw [isWithin_s, bd1_s, bz_if, gd_true]
  have e : (nI 97 ≤ nI c ∧ nI c ≤ nI 122) ↔ isL c := by
    rw [nI_les (by omega) (by omega), nI_les (by omega) (by omega)]
  by_cases h : isL c
  · rw [if_pos h, if_pos (e.mpr h)]
  · rw [if_neg h, if_neg (fun z => h (e.mp z))]
theorem with_nn {a b c : Nat} (ha : a < 1000000) (hb : b < 1000000) (hc : c < 1000000) : (if nI a ≤ nI c ∧ nI c ≤ nI b then nI 1 else nI 0) = nI (if a ≤ c ∧ c ≤ b then 1 else 0) := by
  have e : (nI a ≤ nI c ∧ nI c ≤ nI b) ↔ (a ≤ c ∧ c ≤ b) := by
    rw [nI_les (by omega) (by omega), nI_les (by omega) (by omega)]
  by_cases h : a ≤ c ∧ c ≤ b
  · rw [if_pos h, if_pos (e.mpr h)]
  · rw [if_neg h, if_neg (fun z => h (e.mp z))]
theorem place_s {q c : Nat} (hq : q ≤ 4) (hc : c < 1000000) : f_X1_placeBehind Fu (nI q) (nI c) = some (nI (nxt q c)) := by
  unfold f_X1_placeBehind nxt
  rw [isWordL_s c hc, bd1_s]
  by_cases h1 : isL c
  · rw [if_pos h1, if_neg one_ne, if_pos h1]
  · rw [if_neg h1, if_pos zero_eq, if_neg h1]
    by_cases h2 : q = 0
    · subst h2
      rw [if_pos zero_eq, if_pos rfl]
    · rw [if_neg (show ¬ nI q = 0 by rw [nI_zero, nI_eqs (by omega) (by omega)]; exact h2), if_neg h2]
      by_cases h3 : c = 47
      · subst h3
        rw [if_pos rfl, if_pos rfl]
      · rw [if_neg (show ¬ nI c = nI 47 by rw [nI_eqs (by omega) (by omega)]; exact h3), if_neg h3, isWithin_s, bd1_s, isWithin_s, bd1_s, with_nn (by omega) (by omega) hc, with_nn (by omega) (by omega) hc]
        by_cases h4 : q = 1
        · subst h4
          rw [if_pos rfl, if_neg (show ¬ nI 1 = nI 2 by decide), if_neg (show ¬ ((1 : Nat) = 2 ∧ 48 ≤ c ∧ c ≤ 57) by omega)]
          by_cases h5 : 49 ≤ c ∧ c ≤ 57
          · rw [if_pos h5, if_neg one_ne, if_pos ⟨rfl, h5⟩]
          · rw [if_neg h5, if_pos zero_eq, if_neg (fun z => h5 z.2)]
        · rw [if_neg (show ¬ nI q = nI 1 by rw [nI_eqs (by omega) (by omega)]; exact h4), if_neg (show ¬ (q = 1 ∧ 49 ≤ c ∧ c ≤ 57) from fun z => h4 z.1)]
          by_cases h6 : q = 2
          · subst h6
            rw [if_pos rfl]
            by_cases h7 : 48 ≤ c ∧ c ≤ 57
            · rw [if_pos h7, if_neg one_ne, if_pos ⟨rfl, h7⟩]
            · rw [if_neg h7, if_pos zero_eq, if_neg (fun z => h7 z.2)]
          · rw [if_neg (show ¬ nI q = nI 2 by rw [nI_eqs (by omega) (by omega)]; exact h6), if_neg (show ¬ (q = 2 ∧ 48 ≤ c ∧ c ≤ 57) from fun z => h6 z.1)]
theorem ff_L (hn : n ≤ 60) (hcs : ∀ j, j < n → cs j = nI (ch j)) (hb : ∀ j, j < n → 33 ≤ ch j ∧ ch j ≤ 126) : ∀ (fu i : Nat), i ≤ n → gdp ch i → n - i < fu → ∃ r, FS ch n r ∧ f_X1_firstFault_L4 Fu cs (nI n) fu (nI (ps ch i)) (nI i) = some r := by
  intro fu
  induction fu with
  | zero => intro i h1 h2 h3; omega
  | succ fu ih =>
    intro i h1 h2 h3
    have hle := ps_le ch i
    have hle2 := ps_le ch (i + 1)
    rw [f_X1_firstFault_L4_s]
    by_cases hh : n ≤ i
    · have e : i = n := by omega
      subst e
      rw [if_pos (by rw [nI_les (by omega) (by omega)]; exact hh), nm_eq]
      by_cases c : ps ch i = 0
      · rw [if_pos (show nI (ps ch i) = 0 by rw [c]; exact zero_eq)]
        exact ⟨nI i, Or.inr (Or.inl ⟨h2, c, rfl⟩), rfl⟩
      · rw [if_neg (show ¬ nI (ps ch i) = 0 by rw [nI_zero, nI_eqs (by omega) (by omega)]; exact c)]
        exact ⟨-6, Or.inr (Or.inr ⟨h2, c, rfl⟩), rfl⟩
    · have b := hb i (by omega)
      rw [if_neg (by rw [nI_les (by omega) (by omega)]; exact hh), ix_nIs (by omega) (by omega), gd_true, nI_clamps (by omega), hcs i (by omega), place_s hle (by omega), bd1_s, ← ps_s]
      by_cases c : ps ch (i + 1) = 4
      · rw [if_pos (by rw [c])]
        exact ⟨nI i, Or.inl ⟨i, by omega, h2, c, rfl⟩, rfl⟩
      · rw [if_neg (by rw [nI_eqs (by omega) (by omega)]; exact c), nI_add]
        exact ih (i + 1) (by omega) (gdp_s h2 c) (by omega)
theorem ff_s (hF : 20000000 ≤ Fu) (hn : n ≤ 60) (hcs : ∀ j, j < n → cs j = nI (ch j)) (hb : ∀ j, j < n → 33 ≤ ch j ∧ ch j ≤ 126) : ∃ r, FS ch n r ∧ f_X1_firstFault Fu cs (nI n) = some r :=
  ff_L hn hcs hb Fu 0 (Nat.zero_le _) (fun j hj => by rw [show j = 0 by omega]; exact (by decide : (0 : Nat) ≠ 4)) (by omega)
theorem sign_y {i lo hi : Nat} (hn : n ≤ 60) (hpd : ∀ j, j < n → pd j = nI (ch j)) (hb : ∀ j, j < n → 33 ≤ ch j ∧ ch j ≤ 126) (hi1 : hi < 1000) (hl : lo < 1000) (h : i < n ∧ lo ≤ ch i ∧ ch i ≤ hi) : f_X4_sign Fu pd (nI n) (nI i) (nI 0) (nI lo) (nI hi) = some (nI (ch i), nI (i + 1), nI 0) := by
  have b := hb i h.1
  unfold f_X4_sign
  rw [jn_eq, if_neg (show ¬ nI n ≤ nI i by rw [nI_les (by omega) (by omega)]; omega), ix_nIs (by omega) (by omega), gd_true, nI_clamps (by omega), hpd i h.1]
  dsimp only
  rw [jn_eq, if_pos zero_eq, in4_s, with_nn (by omega) (by omega) (by omega), if_pos h.2, bd1_s, if_neg one_ne]
  dsimp only
  rw [bz_0, gd_true, nm_eq, if_pos zero_eq, nI_add]
theorem sign_n {i lo hi : Nat} (hn : n ≤ 60) (hpd : ∀ j, j < n → pd j = nI (ch j)) (hb : ∀ j, j < n → 33 ≤ ch j ∧ ch j ≤ 126) (hi1 : hi < 1000) (hl : 0 < lo ∧ lo < 1000) (hi60 : i ≤ 60) (h : ¬ (i < n ∧ lo ≤ ch i ∧ ch i ≤ hi)) : ∃ v, f_X4_sign Fu pd (nI n) (nI i) (nI 0) (nI lo) (nI hi) = some (v, nI i, nI 1) := by
  unfold f_X4_sign
  rw [jn_eq]
  by_cases c : n ≤ i
  · rw [if_pos (show nI n ≤ nI i by rw [nI_les (by omega) (by omega)]; exact c)]
    dsimp only
    rw [jn_eq, if_pos zero_eq, in4_s, with_nn (by omega) (by omega) (by omega), if_neg (show ¬ (lo ≤ 0 ∧ 0 ≤ hi) by omega), bd1_s, if_pos zero_eq]
    dsimp only
    rw [bz_1, gd_true, nm_eq, if_neg one_ne, nI_add]
    exact ⟨_, rfl⟩
  · have b := hb i (by omega)
    rw [if_neg (show ¬ nI n ≤ nI i by rw [nI_les (by omega) (by omega)]; exact c), ix_nIs (by omega) (by omega), gd_true, nI_clamps (by omega), hpd i (by omega)]
    dsimp only
    rw [jn_eq, if_pos zero_eq, in4_s, with_nn (by omega) (by omega) (by omega), if_neg (show ¬ (lo ≤ ch i ∧ ch i ≤ hi) by omega), bd1_s, if_pos zero_eq]
    dsimp only
    rw [bz_1, gd_true, nm_eq, if_neg one_ne, nI_add]
    exact ⟨_, rfl⟩
theorem isNext_s {i lo hi : Nat} (hn : n ≤ 60) (hpd : ∀ j, j < n → pd j = nI (ch j)) (hb : ∀ j, j < n → 33 ≤ ch j ∧ ch j ≤ 126) (hi1 : hi < 1000) (hl : lo < 1000) (hi60 : i ≤ 60) : f_X4_isNext Fu pd (nI n) (nI i) (nI 0) (nI lo) (nI hi) = some (nI (if i < n ∧ lo ≤ ch i ∧ ch i ≤ hi then 1 else 0)) := by
  unfold f_X4_isNext
  rw [jn_eq, if_pos zero_eq]
  by_cases c : n ≤ i
  · rw [if_pos (show nI n ≤ nI i by rw [nI_les (by omega) (by omega)]; exact c)]
    dsimp only
    rw [bz_0, gd_true, if_neg (show ¬ (i < n ∧ lo ≤ ch i ∧ ch i ≤ hi) by omega)]
  · have b := hb i (by omega)
    rw [if_neg (show ¬ nI n ≤ nI i by rw [nI_les (by omega) (by omega)]; exact c), ix_nIs (by omega) (by omega), gd_true, nI_clamps (by omega), hpd i (by omega), in4_s, with_nn (by omega) (by omega) (by omega), bd1_s]
    by_cases d : lo ≤ ch i ∧ ch i ≤ hi
    · rw [if_pos d, if_neg one_ne]
      dsimp only
      rw [bz_1, gd_true, if_pos ⟨by omega, d⟩]
    · rw [if_neg d, if_pos zero_eq]
      dsimp only
      rw [bz_0, gd_true, if_neg (fun z => d z.2)]
theorem isNext_w {pl lo hi : Int32} : f_X4_isNext Fu pd (nI n) pl (nI 1) lo hi = some (nI 0) := by
  unfold f_X4_isNext
  rw [jn_eq, if_neg one_ne]
  dsimp only
  rw [bz_0, gd_true]
end PA
end
section
/-! PURE: the reference reads the pad -/
def AG (T : TT) (a1 a2 a3 : Ar) : Prop := ∀ w, w < T.1 → a1 w = nI (T.2.2.1 w) ∧ a2 w = nI (T.2.2.2.1 w) ∧ a3 w = nI (T.2.2.2.2.1 w)
def WD (ch : FN) (n i : Nat) : Prop := (i = n ∧ ps ch i = 0) ∨ (i < n ∧ (isL (ch i) ∨ ps ch (i + 1) = 4))
theorem nxt_L {q c : Nat} (h : isL c) : nxt q c = 1 := by unfold nxt; rw [if_pos h]
theorem nxt_sl {q : Nat} (h : q ≠ 0) : nxt q 47 = 0 := by unfold nxt; rw [if_neg (by omega), if_neg h, if_pos rfl]
theorem nxt_d1 {c : Nat} (h : 49 ≤ c ∧ c ≤ 57) : nxt 1 c = 2 := by unfold nxt; rw [if_neg (by omega), if_neg (by omega), if_neg (by omega), if_pos ⟨rfl, h⟩]
theorem nxt_d2 {c : Nat} (h : 48 ≤ c ∧ c ≤ 57) : nxt 2 c = 3 := by unfold nxt; rw [if_neg (by omega), if_neg (by omega), if_neg (by omega), if_neg (by omega), if_pos ⟨rfl, h⟩]
theorem nxt_0 {c : Nat} (h : ¬ isL c) : nxt 0 c = 4 := by unfold nxt; rw [if_neg h, if_pos rfl]
theorem nxt_1 {c : Nat} (h : ¬ isL c) (h2 : c ≠ 47) (h3 : ¬ (49 ≤ c ∧ c ≤ 57)) : nxt 1 c = 4 := by unfold nxt; rw [if_neg h, if_neg (by omega), if_neg h2, if_neg (fun z => h3 z.2), if_neg (by omega)]
theorem nxt_2 {c : Nat} (h : ¬ isL c) (h2 : c ≠ 47) (h3 : ¬ (48 ≤ c ∧ c ≤ 57)) : nxt 2 c = 4 := by unfold nxt; rw [if_neg h, if_neg (by omega), if_neg h2, if_neg (by omega), if_neg (fun z => h3 z.2)]
theorem nxt_3 {c : Nat} (h : ¬ isL c) (h2 : c ≠ 47) : nxt 3 c = 4 := by unfold nxt; rw [if_neg h, if_neg (by omega), if_neg h2, if_neg (by omega), if_neg (by omega)]
theorem tst_L {c : Nat} (h : isL c) (T : TT) : tst c T = (T.1 + 1, T.2.1, upN T.2.2.1 T.1 (c - 97), upN T.2.2.2.1 T.1 0, upN T.2.2.2.2.1 T.1 (T.2.1 - 1), upN T.2.2.2.2.2 T.2.1 (T.1 + 1)) := by
  unfold tst
  rw [if_neg (by omega), if_pos h]
theorem tst_d {c : Nat} (h : 48 ≤ c ∧ c ≤ 57) (T : TT) : tst c T = (T.1, T.2.1, T.2.2.1, upN T.2.2.2.1 (T.1 - 1) (T.2.2.2.1 (T.1 - 1) * 10 + (c - 48)), T.2.2.2.2.1, T.2.2.2.2.2) := by
  unfold tst
  rw [if_neg (by omega), if_neg (by omega)]
theorem tst_sl (T : TT) : tst 47 T = (T.1, T.2.1 + 1, T.2.2.1, T.2.2.2.1, T.2.2.2.2.1, upN T.2.2.2.2.2 (T.2.1 + 1) T.1) := by
  unfold tst
  rw [if_pos rfl]
abbrev KP : Type := Int32 → Int32 → Ar → Ar → Ar → Int32 → Int32 → Option (Int32 × Int32 × Ar × Ar × Ar × Int32 × Int32)
section RP
variable {Fu n : Nat} {ch : FN} {cs pd : Ar}
theorem rp_L (hn : n ≤ 60) (hpd : ∀ j, j < n → pd j = nI (ch j)) (hb : ∀ j, j < n → 33 ≤ ch j ∧ ch j ≤ 126) : ∀ (fu i : Nat) (a1 a2 a3 : Ar), i ≤ n → gdp ch i → WD ch n i → AG (tpl ch i) a1 a2 a3 → n - i + 2 ≤ fu →
    ∃ pl wr b1 b2 b3 tw tn, ((wr = nI 1 ∧ ¬ pl = -6 ∧ FS ch n pl) ∨ (wr = nI 0 ∧ gdp ch n ∧ ps ch n ≠ 0 ∧ AG (tpl ch n) b1 b2 b3 ∧ tw = nI (tpl ch n).1 ∧ tn = nI (tpl ch n).2.1)) ∧
      ∀ k : KP, f_X4_readPad_L22 Fu k pd (nI n) fu (nI 1) (nI i) (nI 0) a1 a2 a3 (nI (tpl ch i).1) (nI (tpl ch i).2.1) = k pl wr b1 b2 b3 tw tn := by
  intro fu
  induction fu with
  | zero => intro i a1 a2 a3 h1 h2 h3 h4 h5; omega
  | succ fu ih =>
    intro i a1 a2 a3 h1 h2 h3 h4 h5
    obtain ⟨t1, t2, t3⟩ := tpl_le ch i
    obtain ⟨f1, rfl⟩ : ∃ f1, fu = f1 + 1 := ⟨fu - 1, by omega⟩
    have stop : ∀ (k : KP) (pl wr : Int32) (b1 b2 b3 : Ar) (tw tn : Int32), f_X4_readPad_L22 Fu k pd (nI n) (f1 + 1) (nI 0) pl wr b1 b2 b3 tw tn = k pl wr b1 b2 b3 tw tn := fun k pl wr b1 b2 b3 tw tn => by
      rw [f_X4_readPad_L22_s, if_pos zero_eq]
    by_cases hL : i < n ∧ 97 ≤ ch i ∧ ch i ≤ 122
    · have sy := sign_y (Fu := Fu) hn hpd hb (lo := 97) (hi := 122) (by omega) (by omega) hL
      have hl : isL (ch i) := hL.2
      have p1 : ps ch (i + 1) = 1 := nxt_L hl
      have g1 : gdp ch (i + 1) := gdp_s h2 (by rw [p1]; omega)
      have T1 : tpl ch (i + 1) = _ := tst_L hl (tpl ch i)
      have bi := hb i hL.1
      -- what follows the word
      have tail : ∀ (j h : Nat), i < j → j ≤ n → gdp ch j → ps ch j ≠ 0 → (j < n → ch j ≠ 47 → isL (ch j) ∨ ps ch (j + 1) = 4) → (tpl ch j).1 = (tpl ch i).1 + 1 → (tpl ch j).2.1 = (tpl ch i).2.1 → AG (tpl ch j) (upd a1 (tpl ch i).1 (nI (ch i) - nI 97)) (upd a2 (tpl ch i).1 (nI h)) (upd a3 (tpl ch i).1 (nI (tpl ch i).2.1 - nI 1)) →
          ∃ pl wr b1 b2 b3 tw tn, ((wr = nI 1 ∧ ¬ pl = -6 ∧ FS ch n pl) ∨ (wr = nI 0 ∧ gdp ch n ∧ ps ch n ≠ 0 ∧ AG (tpl ch n) b1 b2 b3 ∧ tw = nI (tpl ch n).1 ∧ tn = nI (tpl ch n).2.1)) ∧
          ∀ k : KP, (gd (ix (nI (tpl ch i).1) 61) (
            nm ((upd a1 (nI (tpl ch i).1).toNatClampNeg (nI (ch i) - (nI 97)))) (fun (q38 : Ar) =>
            gd (ix (nI (tpl ch i).1) 61) (
            gd (ix (nI (tpl ch i).1) 61) (
            nm ((upd a3 (nI (tpl ch i).1).toNatClampNeg (nI (tpl ch i).2.1 - (nI 1)))) (fun (q41 : Ar) =>
            bd1 (f_X4_isNext Fu pd (nI n) (nI j) (nI 0) (nI 47) (nI 47)) (fun r42 =>
            jn (fun (v52 : Int32) (p53 : Int32) (w54 : Int32) (n55 : Int32) =>
              f_X4_readPad_L22 Fu k pd (nI n) (f1 + 1) v52 p53 w54 q38 (upd a2 (nI (tpl ch i).1).toNatClampNeg (nI h)) q41 (nI (tpl ch i).1 + (nI 1)) n55)
              (fun j56 =>
              if r42 = 0 then
                nm (if nI 0 = 0 then (if nI n ≤ nI j then (nI 0) else nI 1) else nI 0) (fun v47 =>
                j56 v47 (nI j) (nI 0) (nI (tpl ch i).2.1))
              else
                bd3 (f_X4_sign Fu pd (nI n) (nI j) (nI 0) (nI 47) (nI 47)) (fun r48 p49 w50 =>
                j56 (nI 1) p49 w50 (nI (tpl ch i).2.1 + (nI 1))))))))))) = k pl wr b1 b2 b3 tw tn := by
        intro j h j1 j2 j3 j4 j5 j6 j7 j8
        have nx := isNext_s (Fu := Fu) (i := j) (lo := 47) (hi := 47) hn hpd hb (by omega) (by omega) (by omega)
        rw [nx, ix_nIs (by omega) (by omega), nI_clamps (by omega)]
        simp only [gd_true, nm_eq, bd1_s, nI_add]
        rw [← j6, ← j7]
        by_cases c1 : j < n ∧ 47 ≤ ch j ∧ ch j ≤ 47
        · have sl : ch j = 47 := by omega
          have s2 := sign_y (Fu := Fu) hn hpd hb (lo := 47) (hi := 47) (by omega) (by omega) c1
          have q0 : ps ch (j + 1) = 0 := by rw [ps_s, sl]; exact nxt_sl j4
          have TJ : tpl ch (j + 1) = ((tpl ch j).1, (tpl ch j).2.1 + 1, (tpl ch j).2.2.1, (tpl ch j).2.2.2.1, (tpl ch j).2.2.2.2.1, upN (tpl ch j).2.2.2.2.2 ((tpl ch j).2.1 + 1) (tpl ch j).1) := by rw [tpl_s, sl, tst_sl]
          obtain ⟨pl, wr, b1, b2, b3, tw, tn, e1, e2⟩ := ih (j + 1) (upd a1 ((tpl ch j).1 - 1) (nI (ch i) - nI 97)) (upd a2 ((tpl ch j).1 - 1) (nI h)) (upd a3 ((tpl ch j).1 - 1) (nI (tpl ch j).2.1 - nI 1)) (by omega) (gdp_s j3 (by rw [q0]; omega)) (by
            by_cases d : j + 1 = n
            · exact Or.inl ⟨d, q0⟩
            · refine Or.inr ⟨by omega, ?_⟩
              by_cases d2 : isL (ch (j + 1))
              · exact Or.inl d2
              · exact Or.inr (by rw [ps_s, q0]; exact nxt_0 d2)) (by
            rw [TJ]
            intro w hw
            have := j8 w hw
            rw [j6, Nat.add_sub_cancel, j7]
            exact this) (by omega)
          refine ⟨pl, wr, b1, b2, b3, tw, tn, e1, fun k => ?_⟩
          rw [← e2 k, TJ, if_pos c1, jn_eq, if_neg one_ne, s2, bd3_s, j6, Nat.add_sub_cancel, j7]
        · rw [if_neg c1]
          by_cases c2 : n ≤ j
          · have e : j = n := by omega
            subst e
            refine ⟨nI j, nI 0, upd a1 (tpl ch i).1 (nI (ch i) - nI 97), upd a2 (tpl ch i).1 (nI h), upd a3 (tpl ch i).1 (nI (tpl ch i).2.1 - nI 1), nI (tpl ch j).1, nI (tpl ch j).2.1, Or.inr ⟨rfl, j3, j4, j8, rfl, rfl⟩, fun k => ?_⟩
            rw [jn_eq, if_pos zero_eq, if_pos zero_eq, if_pos (show nI j ≤ nI j by rw [nI_les (by omega) (by omega)]; omega)]
            dsimp only
            rw [stop, j7]
          · obtain ⟨pl, wr, b1, b2, b3, tw, tn, e1, e2⟩ := ih j (upd a1 (tpl ch i).1 (nI (ch i) - nI 97)) (upd a2 (tpl ch i).1 (nI h)) (upd a3 (tpl ch i).1 (nI (tpl ch i).2.1 - nI 1)) j2 j3 (Or.inr ⟨by omega, j5 (by omega) (by omega)⟩) j8 (by omega)
            refine ⟨pl, wr, b1, b2, b3, tw, tn, e1, fun k => ?_⟩
            rw [← e2 k, jn_eq, if_pos zero_eq, if_pos zero_eq, if_neg (show ¬ nI n ≤ nI j by rw [nI_les (by omega) (by omega)]; exact c2)]
            dsimp only
            rw [j7]
      have n1 := isNext_s (Fu := Fu) (i := i + 1) (lo := 49) (hi := 57) hn hpd hb (by omega) (by omega) (by omega)
      have k1 : nI (ch i) - nI 97 = nI (ch i - 97) := pk_subs (by omega)
      have k2 : nI (tpl ch i).2.1 - nI 1 = nI ((tpl ch i).2.1 - 1) := pk_subs (by omega)
      have ag : ∀ (T : TT) (h : Nat), T.1 = (tpl ch i).1 + 1 → T.2.2.1 = upN (tpl ch i).2.2.1 (tpl ch i).1 (ch i - 97) → (T.2.2.2.1 (tpl ch i).1 = h ∧ ∀ w, w < (tpl ch i).1 → T.2.2.2.1 w = (tpl ch i).2.2.2.1 w) → T.2.2.2.2.1 = upN (tpl ch i).2.2.2.2.1 (tpl ch i).1 ((tpl ch i).2.1 - 1) → AG T (upd a1 (tpl ch i).1 (nI (ch i) - nI 97)) (upd a2 (tpl ch i).1 (nI h)) (upd a3 (tpl ch i).1 (nI (tpl ch i).2.1 - nI 1)) := by
        intro T h e1 e2 e3 e4 w hw
        rw [e1] at hw
        rw [e2, e4, k1, k2]
        by_cases d : w = (tpl ch i).1
        · rw [d, upd_eq, upd_eq, upd_eq, upN_eq, upN_eq, e3.1]
          exact ⟨rfl, rfl, rfl⟩
        · rw [upd_ne d, upd_ne d, upd_ne d, upN_ne d, upN_ne d, e3.2 w (by omega)]
          exact h4 w (by omega)
      by_cases c1 : i + 1 < n ∧ 49 ≤ ch (i + 1) ∧ ch (i + 1) ≤ 57
      · have s2 := sign_y (Fu := Fu) hn hpd hb (lo := 49) (hi := 57) (by omega) (by omega) c1
        have p2 : ps ch (i + 2) = 2 := by rw [ps_s, p1]; exact nxt_d1 c1.2
        have g2 : gdp ch (i + 2) := gdp_s g1 (by rw [p2]; omega)
        have T2 := (congrArg (tst (ch (i + 1))) T1).trans (tst_d (show 48 ≤ ch (i + 1) ∧ ch (i + 1) ≤ 57 by omega) _)
        rw [← tpl_s] at T2
        have n2 := isNext_s (Fu := Fu) (i := i + 2) (lo := 48) (hi := 57) hn hpd hb (by omega) (by omega) (by omega)
        have kd : nI (ch (i + 1)) - nI 48 = nI (ch (i + 1) - 48) := pk_subs (by omega)
        have kpos : ¬ nI (ch (i + 1) - 48) ≤ 0 := by rw [nI_zero, nI_les (by omega) (by omega)]; omega
        by_cases c2 : i + 2 < n ∧ 48 ≤ ch (i + 2) ∧ ch (i + 2) ≤ 57
        · have s3 := sign_y (Fu := Fu) hn hpd hb (lo := 48) (hi := 57) (by omega) (by omega) c2
          have p3 : ps ch (i + 3) = 3 := by rw [ps_s, p2]; exact nxt_d2 c2.2
          have g3 : gdp ch (i + 3) := gdp_s g2 (by rw [p3]; omega)
          have T3 := (congrArg (tst (ch (i + 2))) T2).trans (tst_d c2.2 _)
          rw [← tpl_s] at T3
          obtain ⟨pl, wr, b1, b2, b3, tw, tn, e1, e2⟩ := tail (i + 3) (10 * (ch (i + 1) - 48) + ch (i + 2) - 48) (by omega) (by omega) g3 (by rw [p3]; omega) (fun q1 q2 => by
            by_cases d : isL (ch (i + 3))
            · exact Or.inl d
            · exact Or.inr (by rw [ps_s, p3]; exact nxt_3 d q2)) (by rw [T3]) (by rw [T3]) (ag _ _ (by rw [T3]) (by rw [T3]) (by
            rw [T3]
            dsimp only
            rw [Nat.add_sub_cancel, upN_eq, upN_eq, upN_eq]
            exact ⟨by omega, fun w hw => by rw [upN_ne (by omega), upN_ne (by omega), upN_ne (by omega)]⟩) (by rw [T3]))
          refine ⟨pl, wr, b1, b2, b3, tw, tn, e1, fun k => ?_⟩
          have kk : nI 10 * nI (ch (i + 1) - 48) + nI (ch (i + 2)) - nI 48 = nI (10 * (ch (i + 1) - 48) + ch (i + 2) - 48) := by
            rw [pk_mul, nI_add, pk_subs (by omega)]
          rw [← e2 k, f_X4_readPad_L22_s, if_neg one_ne, sy, bd3_s, n1, bd1_s, if_pos c1, jn_eq, if_neg one_ne, s2, bd3_s]
          dsimp only
          rw [jn_eq, kd, if_neg kpos, n2, bd1_s, if_pos c2, if_neg one_ne, s3, bd3_s, kk]
        · obtain ⟨pl, wr, b1, b2, b3, tw, tn, e1, e2⟩ := tail (i + 2) (ch (i + 1) - 48) (by omega) (by omega) g2 (by rw [p2]; omega) (fun q1 q2 => by
            by_cases d : isL (ch (i + 2))
            · exact Or.inl d
            · exact Or.inr (by rw [ps_s, p2]; exact nxt_2 d q2 (fun z => c2 ⟨q1, z⟩))) (by rw [T2]) (by rw [T2]) (ag _ _ (by rw [T2]) (by rw [T2]) (by
            rw [T2]
            dsimp only
            rw [Nat.add_sub_cancel, upN_eq, upN_eq]
            exact ⟨by omega, fun w hw => by rw [upN_ne (by omega), upN_ne (by omega)]⟩) (by rw [T2]))
          refine ⟨pl, wr, b1, b2, b3, tw, tn, e1, fun k => ?_⟩
          rw [← e2 k, f_X4_readPad_L22_s, if_neg one_ne, sy, bd3_s, n1, bd1_s, if_pos c1, jn_eq, if_neg one_ne, s2, bd3_s]
          dsimp only
          rw [jn_eq, kd, if_neg kpos, n2, bd1_s, if_neg c2, if_pos zero_eq]
      · obtain ⟨pl, wr, b1, b2, b3, tw, tn, e1, e2⟩ := tail (i + 1) 0 (by omega) (by omega) g1 (by rw [p1]; omega) (fun q1 q2 => by
          by_cases d : isL (ch (i + 1))
          · exact Or.inl d
          · exact Or.inr (by rw [ps_s, p1]; exact nxt_1 d q2 (fun z => c1 ⟨q1, z⟩))) (by rw [T1]) (by rw [T1]) (ag _ _ (by rw [T1]) (by rw [T1]) (by
          rw [T1]
          dsimp only
          rw [upN_eq]
          exact ⟨rfl, fun w hw => by rw [upN_ne (by omega)]⟩) (by rw [T1]))
        refine ⟨pl, wr, b1, b2, b3, tw, tn, e1, fun k => ?_⟩
        rw [← e2 k, f_X4_readPad_L22_s, if_neg one_ne, sy, bd3_s, n1, bd1_s, if_neg c1, jn_eq, if_pos zero_eq]
        dsimp only
        rw [jn_eq, if_pos (show nI 0 ≤ 0 by decide)]
    · obtain ⟨v, sn⟩ := sign_n (Fu := Fu) (i := i) hn hpd hb (lo := 97) (hi := 122) (by omega) (by omega) (by omega) hL
      refine ⟨nI i, nI 1, upd a1 (tpl ch i).1 (v - nI 97), upd a2 (tpl ch i).1 (nI 0), upd a3 (tpl ch i).1 (nI (tpl ch i).2.1 - nI 1), nI ((tpl ch i).1 + 1), nI (tpl ch i).2.1, Or.inl ⟨rfl, nI_ne6 (by omega), ?_⟩, fun k => ?_⟩
      · rcases h3 with ⟨e1, e2⟩ | ⟨e1, e2 | e2⟩
        · subst e1
          exact Or.inr (Or.inl ⟨h2, e2, rfl⟩)
        · exact absurd ⟨e1, e2⟩ hL
        · exact Or.inl ⟨i, e1, h2, e2, rfl⟩
      · rw [f_X4_readPad_L22_s, if_neg one_ne, sn, bd3_s, isNext_w, bd1_s, jn_eq, if_pos zero_eq]
        dsimp only
        rw [jn_eq, if_pos (show nI 0 ≤ 0 by decide)]
        dsimp only
        rw [ix_nIs (by omega) (by omega), gd_true, nm_eq, gd_true, gd_true, nm_eq, isNext_w, bd1_s, jn_eq, if_pos zero_eq, if_neg one_ne, nm_eq]
        dsimp only
        rw [stop, nI_clamps (by omega), nI_add]
end RP
end
section
/-! PURE: fault; how many stories and words the pad tells -/
def chA (cs : Ar) : FN := fun j => (cs j).toNatClampNeg
section FA
variable {Fu n : Nat} {cs pd : Ar}
theorem PR.ch (hP : PR n cs pd) : (∀ j, j < n → cs j = nI (chA cs j)) ∧ (∀ j, j < n → pd j = nI (chA cs j)) ∧ (∀ j, j < n → 33 ≤ chA cs j ∧ chA cs j ≤ 126) := by
  have key : ∀ j, j < n → cs j = nI (chA cs j) ∧ pd j = nI (chA cs j) ∧ 33 ≤ chA cs j ∧ chA cs j ≤ 126 := fun j hj => by
    obtain ⟨c, c1, c2, c3, c4⟩ := hP.2 j hj
    have e : chA cs j = c := by
      show (cs j).toNatClampNeg = c
      rw [c3, nI_clamps (by omega)]
    rw [e]
    exact ⟨c3, c4, c1, c2⟩
  exact ⟨fun j hj => (key j hj).1, fun j hj => (key j hj).2.1, fun j hj => (key j hj).2.2⟩
theorem rp_s (hF : 20000000 ≤ Fu) (hP : PR n cs pd) (p0 w0 : Int32) (a1 a2 a3 : Ar) (x0 y0 : Int32) : ∃ pl wr b1 b2 b3 tw tn, ((wr = nI 1 ∧ ¬ pl = -6 ∧ FS (chA cs) n pl) ∨ (wr = nI 0 ∧ gdp (chA cs) n ∧ ps (chA cs) n ≠ 0 ∧ AG (tpl (chA cs) n) b1 b2 b3 ∧ tw = nI (tpl (chA cs) n).1 ∧ tn = nI (tpl (chA cs) n).2.1)) ∧ f_X4_readPad Fu pd (nI n) p0 w0 a1 a2 a3 x0 y0 = some (pl, wr, b1, b2, b3, tw, tn) := by
  obtain ⟨h1, h2, h3⟩ := hP.ch
  have hn := hP.1
  obtain ⟨pl, wr, b1, b2, b3, tw, tn, e1, e2⟩ := rp_L (Fu := Fu) (n := n) (ch := chA cs) (pd := pd) hn h2 h3 Fu 0 a1 a2 a3 (Nat.zero_le _) (fun j hj => by rw [show j = 0 by omega]; exact (by decide : (0 : Nat) ≠ 4)) (by
    by_cases d : 0 = n
    · exact Or.inl ⟨d, rfl⟩
    · refine Or.inr ⟨by omega, ?_⟩
      by_cases d2 : isL (chA cs 0)
      · exact Or.inl d2
      · exact Or.inr (nxt_0 d2)) (fun w hw => absurd hw (Nat.not_lt_zero _)) (by omega)
  refine ⟨pl, wr, b1, b2, b3, tw, tn, e1, ?_⟩
  unfold f_X4_readPad
  rw [jn_eq]
  exact e2 _
theorem sim_fault (hF : 20000000 ≤ Fu) (hP : PR n cs pd) (p0 w0 : Int32) (a1 a2 a3 : Ar) (x0 y0 : Int32) : ∃ r pl wr b1 b2 b3 tw tn, f_X3_fault Fu cs (nI n) = some r ∧ f_X4_fault Fu pd (nI n) p0 w0 a1 a2 a3 x0 y0 = some (r, pl, wr, b1, b2, b3, tw, tn) := by
  obtain ⟨h1, h2, h3⟩ := hP.ch
  obtain ⟨r, q1, q2⟩ := ff_s hF hP.1 h1 h3
  obtain ⟨pl, wr, b1, b2, b3, tw, tn, e1, e2⟩ := rp_s hF hP p0 w0 a1 a2 a3 x0 y0
  refine ⟨r, pl, wr, b1, b2, b3, tw, tn, ?_, ?_⟩
  · unfold f_X3_fault
    rw [q2, bd1_s]
  · unfold f_X4_fault
    rw [e2, bd7_s, nm_eq]
    rcases e1 with ⟨u1, _, u2⟩ | ⟨u1, u2, u3, u4⟩
    · rw [u1, if_neg one_ne, q1.det u2]
    · rw [u1, if_pos zero_eq, q1.det (Or.inr (Or.inr ⟨u2, u3, rfl⟩))]
theorem tpl_N {c : Nat} (T : TT) : (tst c T).2.1 = T.2.1 + (if c = 47 then 1 else 0) ∧ (tst c T).1 = T.1 + (if c ≠ 47 ∧ isL c then 1 else 0) := by
  unfold tst
  by_cases c1 : c = 47
  · rw [if_pos c1, if_pos c1, if_neg (fun z => z.1 c1)]; exact ⟨rfl, rfl⟩
  · rw [if_neg c1, if_neg c1]
    by_cases c2 : isL c
    · rw [if_pos c2, if_pos ⟨c1, c2⟩]; exact ⟨rfl, rfl⟩
    · rw [if_neg c2, if_neg (fun z => c2 z.2)]; exact ⟨rfl, rfl⟩
theorem stories_L (k : Int32 → Option Int32) (hP : PR n cs pd) : ∀ (fu i : Nat), i ≤ n → n - i < fu → f_X1_storiesIn_L4 Fu k cs (nI n) fu (nI (tpl (chA cs) i).2.1) (nI i) = k (nI (tpl (chA cs) n).2.1) := by
  obtain ⟨h1, h2, h3⟩ := hP.ch
  have hn := hP.1
  intro fu
  induction fu with
  | zero => intro i a b; omega
  | succ fu ih =>
    intro i a b
    rw [f_X1_storiesIn_L4_s]
    by_cases hh : n ≤ i
    · have e : i = n := by omega
      subst e
      rw [if_pos (show nI i ≤ nI i by rw [nI_les (by omega) (by omega)]; omega)]
    · have b1 := h3 i (by omega)
      rw [if_neg (by rw [nI_les (by omega) (by omega)]; exact hh), ix_nIs (by omega) (by omega), gd_true, nI_clamps (by omega), h1 i (by omega), nm_eq, ← ih (i + 1) (by omega) (by omega), tpl_s, (tpl_N _).1, nI_add]
      by_cases c : chA cs i = 47
      · rw [if_pos (show nI (chA cs i) = nI 47 by rw [c]), if_pos c, nI_add]
      · rw [if_neg (show ¬ nI (chA cs i) = nI 47 by rw [nI_eqs (by omega) (by omega)]; exact c), if_neg c, nI_add]
theorem words_L (k : Int32 → Option Int32) (hP : PR n cs pd) : ∀ (fu i : Nat), i ≤ n → n - i < fu → f_X1_wordsIn_L4 Fu k cs (nI n) fu (nI (tpl (chA cs) i).1) (nI i) = k (nI (tpl (chA cs) n).1) := by
  obtain ⟨h1, h2, h3⟩ := hP.ch
  have hn := hP.1
  intro fu
  induction fu with
  | zero => intro i a b; omega
  | succ fu ih =>
    intro i a b
    rw [f_X1_wordsIn_L4_s]
    by_cases hh : n ≤ i
    · have e : i = n := by omega
      subst e
      rw [if_pos (show nI i ≤ nI i by rw [nI_les (by omega) (by omega)]; omega)]
    · have b1 := h3 i (by omega)
      rw [if_neg (by rw [nI_les (by omega) (by omega)]; exact hh), ix_nIs (by omega) (by omega), gd_true, nI_clamps (by omega), h1 i (by omega), isWordL_s _ (by omega), bd1_s, nm_eq, ← ih (i + 1) (by omega) (by omega), tpl_s, (tpl_N _).2, nI_add]
      by_cases c : isL (chA cs i)
      · rw [if_pos c, if_neg one_ne, if_pos ⟨by omega, c⟩, nI_add]
      · rw [if_neg c, if_pos zero_eq, if_neg (fun z => c z.2), nI_add]
theorem stories_s (hF : 20000000 ≤ Fu) (hP : PR n cs pd) : f_X1_storiesIn Fu cs (nI n) = some (nI (tpl (chA cs) n).2.1) := by
  have hn := hP.1
  exact stories_L (fun v => some v) hP Fu 0 (Nat.zero_le _) (by omega)
theorem words4_s (hF : 20000000 ≤ Fu) (hP : PR n cs pd) : f_X1_wordsIn Fu cs (nI n) = some (nI (tpl (chA cs) n).1) := by
  have hn := hP.1
  exact words_L (fun v => some v) hP Fu 0 (Nat.zero_le _) (by omega)
end FA
end
section
/-! PURE: the class writes the pad's stories -/
def tw (T : TT) : Nat := T.1
def tn (T : TT) : Nat := T.2.1
def tl (T : TT) : FN := T.2.2.1
def th (T : TT) : FN := T.2.2.2.1
def ts (T : TT) : FN := T.2.2.2.2.1
def te (T : TT) : FN := T.2.2.2.2.2
/-- what holds of what has been told, in a state -/
def TI (T : TT) (q : Nat) : Prop := te T 0 = 0 ∧ te T (tn T) = tw T ∧ 1 ≤ tn T ∧ (∀ k, k + 1 < tn T → te T k < te T (k + 1)) ∧ te T (tn T - 1) ≤ tw T ∧ (q ≠ 0 → te T (tn T - 1) < tw T) ∧ (∀ w, w < tw T → tl T w < 26 ∧ th T w ≤ 99 ∧ ts T w < tn T ∧ te T (ts T w) ≤ w ∧ w < te T (ts T w + 1)) ∧ (q = 1 → th T (tw T - 1) = 0) ∧ (q = 2 → th T (tw T - 1) ≤ 9)
theorem TI_0 (ch : FN) : TI (tpl ch 0) 0 := ⟨rfl, rfl, Nat.le_refl _, fun k h => by have : (k + 1 < 1) := h; omega, Nat.le_refl _, fun h => absurd rfl h, fun w h => absurd h (Nat.not_lt_zero _), fun h => by omega, fun h => by omega⟩
theorem TI_s {T : TT} {q c : Nat} (h : TI T q) (hc : nxt q c ≠ 4) (hq : q ≤ 4) (hq4 : q ≠ 4) : TI (tst c T) (nxt q c) := by
  obtain ⟨h1, h2, h3, h4, h5, h6, h7, h8, h9⟩ := h
  by_cases c1 : isL c
  · rw [tst_L c1, nxt_L c1]
    have e1 : te T (tn T - 1) ≤ tw T := h5
    refine ⟨?_, ?_, h3, ?_, ?_, fun _ => ?_, ?_, fun _ => ?_, fun h => by omega⟩
    · show upN (te T) (tn T) (tw T + 1) 0 = 0
      rw [upN_ne (by omega)]; exact h1
    · show upN (te T) (tn T) (tw T + 1) (tn T) = tw T + 1
      rw [upN_eq]
    · intro k hk
      have hk : k + 1 < tn T := hk
      show upN (te T) (tn T) (tw T + 1) k < upN (te T) (tn T) (tw T + 1) (k + 1)
      rw [upN_ne (by omega), upN_ne (by omega)]; exact h4 k hk
    · show upN (te T) (tn T) (tw T + 1) (tn T - 1) ≤ tw T + 1
      rw [upN_ne (by omega)]; omega
    · show upN (te T) (tn T) (tw T + 1) (tn T - 1) < tw T + 1
      rw [upN_ne (by omega)]; omega
    · intro w hw
      have hw : w < tw T + 1 := hw
      show upN (tl T) (tw T) (c - 97) w < 26 ∧ upN (th T) (tw T) 0 w ≤ 99 ∧ upN (ts T) (tw T) (tn T - 1) w < tn T ∧ upN (te T) (tn T) (tw T + 1) (upN (ts T) (tw T) (tn T - 1) w) ≤ w ∧ w < upN (te T) (tn T) (tw T + 1) (upN (ts T) (tw T) (tn T - 1) w + 1)
      by_cases d : w = tw T
      · subst d
        rw [upN_eq, upN_eq, upN_eq, upN_ne (by omega), show tn T - 1 + 1 = tn T by omega, upN_eq]
        omega
      · obtain ⟨a1, a2, a3, a4, a5⟩ := h7 w (by omega)
        rw [upN_ne d, upN_ne d, upN_ne d, upN_ne (by omega)]
        refine ⟨a1, a2, a3, a4, ?_⟩
        by_cases d2 : ts T w + 1 = tn T
        · rw [d2, upN_eq]; omega
        · rw [upN_ne d2]; exact a5
    · show upN (th T) (tw T) 0 (tw T + 1 - 1) = 0
      rw [Nat.add_sub_cancel, upN_eq]
  · have q0 : q ≠ 0 := fun z => by subst z; exact hc (nxt_0 c1)
    by_cases c2 : c = 47
    · subst c2
      have lt := h6 q0
      rw [tst_sl, nxt_sl q0]
      refine ⟨?_, ?_, ?_, ?_, ?_, fun h => absurd rfl h, ?_, fun h => by omega, fun h => by omega⟩
      · show upN (te T) (tn T + 1) (tw T) 0 = 0
        rw [upN_ne (by omega)]; exact h1
      · show upN (te T) (tn T + 1) (tw T) (tn T + 1) = tw T
        rw [upN_eq]
      · show 1 ≤ tn T + 1
        omega
      · intro k hk
        have hk : k + 1 < tn T + 1 := hk
        show upN (te T) (tn T + 1) (tw T) k < upN (te T) (tn T + 1) (tw T) (k + 1)
        rw [upN_ne (by omega), upN_ne (by omega)]
        by_cases d : k + 1 = tn T
        · rw [d, h2]
          have : k = tn T - 1 := by omega
          rw [this]; exact lt
        · exact h4 k (by omega)
      · show upN (te T) (tn T + 1) (tw T) (tn T + 1 - 1) ≤ tw T
        rw [upN_ne (by omega), Nat.add_sub_cancel, h2]
        exact Nat.le_refl _
      · intro w hw
        obtain ⟨a1, a2, a3, a4, a5⟩ := h7 w hw
        show tl T w < 26 ∧ th T w ≤ 99 ∧ ts T w < tn T + 1 ∧ upN (te T) (tn T + 1) (tw T) (ts T w) ≤ w ∧ w < upN (te T) (tn T + 1) (tw T) (ts T w + 1)
        rw [upN_ne (by omega), upN_ne (by omega)]
        exact ⟨a1, a2, by omega, a4, a5⟩
    · have key : (q = 1 ∧ 49 ≤ c ∧ c ≤ 57) ∨ (q = 2 ∧ 48 ≤ c ∧ c ≤ 57) := Classical.byContradiction (fun z => hc (by
        unfold nxt
        rw [if_neg c1, if_neg q0, if_neg c2, if_neg (fun y => z (Or.inl y)), if_neg (fun y => z (Or.inr y))]))
      have lt := h6 q0
      have hd : 48 ≤ c ∧ c ≤ 57 := by omega
      rw [tst_d hd]
      have hth : th T (tw T - 1) * 10 + (c - 48) ≤ 99 ∧ (q = 1 → th T (tw T - 1) * 10 + (c - 48) ≤ 9) := by
        rcases key with ⟨k1, k2⟩ | ⟨k1, k2⟩
        · have := h8 k1; omega
        · have := h9 k1; exact ⟨by omega, fun z => by omega⟩
      refine ⟨h1, h2, h3, h4, h5, fun _ => lt, ?_, fun z => ?_, fun z => ?_⟩
      · intro w hw
        obtain ⟨a1, a2, a3, a4, a5⟩ := h7 w hw
        refine ⟨a1, ?_, a3, a4, a5⟩
        show upN (th T) (tw T - 1) (th T (tw T - 1) * 10 + (c - 48)) w ≤ 99
        by_cases d : w = tw T - 1
        · rw [d, upN_eq]; exact hth.1
        · rw [upN_ne d]; exact a2
      · exfalso
        rcases key with ⟨k1, k2⟩ | ⟨k1, k2⟩
        · rw [k1, nxt_d1 k2] at z; omega
        · rw [k1, nxt_d2 k2] at z; omega
      · show upN (th T) (tw T - 1) (th T (tw T - 1) * 10 + (c - 48)) (tw T - 1) ≤ 9
        rw [upN_eq]
        rcases key with ⟨k1, k2⟩ | ⟨k1, k2⟩
        · exact hth.2 k1
        · rw [k1, nxt_d2 k2] at z; omega
theorem TI_i (ch : FN) : ∀ (i : Nat), gdp ch i → TI (tpl ch i) (ps ch i) := by
  intro i
  induction i with
  | zero => intro _; exact TI_0 ch
  | succ i ih =>
    intro h
    have := h (i + 1) (Nat.le_refl _)
    exact TI_s (ih (fun j hj => h j (by omega))) this (ps_le ch i) (h i (by omega))
theorem tpl_mono (ch : FN) (n : Nat) : ∀ (d i : Nat), i + d = n → (tpl ch i).1 ≤ (tpl ch n).1 ∧ (tpl ch i).2.1 ≤ (tpl ch n).2.1 := by
  intro d
  induction d with
  | zero => intro i h; rw [show i = n by omega]; exact ⟨Nat.le_refl _, Nat.le_refl _⟩
  | succ d ih =>
    intro i h
    have := ih (i + 1) (by omega)
    rw [tpl_s, (tpl_N _).1, (tpl_N _).2] at this
    omega
/-- the shelf with what has been told behind it -/
def addT (A : Sh) (T : TT) : Sh := Sh.mk A.se (A.ns + tn T) (fun k => if k ≤ A.ns then A.st k else A.wn + te T (k - A.ns)) (fun p => if p < A.wn then A.le p else tl T (p - A.wn)) (fun p => if p < A.wn then A.he p else th T (p - A.wn)) (fun k => if k < A.ns then A.fa k else A.nf + nI (k - A.ns)) (fun k => if k < A.ns then A.ge k else nI 0) (A.nf + nI (tn T)) A.sp A.bo A.fi
theorem ad_st {A : Sh} {T : TT} {k : Nat} : (addT A T).st k = if k ≤ A.ns then A.st k else A.wn + te T (k - A.ns) := rfl
theorem ad_le {A : Sh} {T : TT} {p : Nat} : (addT A T).le p = if p < A.wn then A.le p else tl T (p - A.wn) := rfl
theorem ad_he {A : Sh} {T : TT} {p : Nat} : (addT A T).he p = if p < A.wn then A.he p else th T (p - A.wn) := rfl
theorem ad_fa {A : Sh} {T : TT} {k : Nat} : (addT A T).fa k = if k < A.ns then A.fa k else A.nf + nI (k - A.ns) := rfl
theorem ad_ge {A : Sh} {T : TT} {k : Nat} : (addT A T).ge k = if k < A.ns then A.ge k else nI 0 := rfl
theorem ad_wn {A : Sh} {T : TT} (h1 : 1 ≤ tn T) (h2 : te T (tn T) = tw T) : (addT A T).wn = A.wn + tw T := by
  show (addT A T).st (A.ns + tn T) = _
  rw [ad_st, if_neg (by omega), Nat.add_sub_cancel_left, h2]
theorem WF.add {A : Sh} {T : TT} {q : Nat} (hW : WF A) (h : TI T q) (hq : q ≠ 0) (h12 : A.ns + tn T ≤ 12) (h150 : A.wn + tw T ≤ 150) : WF (addT A T) := by
  obtain ⟨h1, h2, h3, h4, h5, h6, h7, h8, h9⟩ := h
  have ew := ad_wn (A := A) h3 h2
  refine ⟨⟨h12, ?_, fun k hk => ?_, ?_⟩, hW.2.1, fun p hp => ?_⟩
  · rw [ad_st, if_pos (Nat.zero_le _)]; exact hW.1.2.1
  · have hk : k < A.ns + tn T := hk
    rw [ad_st, ad_st]
    by_cases c : k + 1 ≤ A.ns
    · rw [if_pos (by omega), if_pos c]; exact hW.1.2.2.1 k (by omega)
    · have up : te T (k - A.ns) < te T (k + 1 - A.ns) := by
        by_cases d : k + 1 - A.ns = tn T
        · rw [d, h2, show k - A.ns = tn T - 1 by omega]; exact h6 hq
        · have := h4 (k - A.ns) (by omega)
          rw [show k + 1 - A.ns = k - A.ns + 1 by omega]; exact this
      by_cases c2 : k = A.ns
      · rw [if_pos (by omega), if_neg c, c2]
        rw [c2, Nat.sub_self, h1] at up
        show A.wn < _
        omega
      · rw [if_neg (by omega), if_neg c]; omega
  · have : (addT A T).wn ≤ 150 := by rw [ew]; exact h150
    exact this
  · rw [ew] at hp
    rw [ad_le, ad_he]
    by_cases c : p < A.wn
    · rw [if_pos c, if_pos c]; exact hW.2.2 p c
    · have := h7 (p - A.wn) (by omega)
      rw [if_neg c, if_neg c]
      exact ⟨this.1, by omega⟩
end
section
/-! PURE: the class writes the pad's stories behind its own -/
section WT
variable {Fu n : Nat} {A : Sh} {se le he sa fa ge : Ar} {ns nf sp bo fi : Int32} {cs pd : Ar}
theorem words_x {T : TT} (h : RV (addT A T) se le he sa fa ge ns nf sp bo fi) (h1 : 1 ≤ tn T) (h2 : te T (tn T) = tw T) (h12 : A.ns + tn T ≤ 12) : f_X2_words Fu sa ns = some (nI (A.wn + tw T)) := by
  have e1 : ns = nI (A.ns + tn T) := h.rns
  have e2 : sa (A.ns + tn T) = nI (A.wn + tw T) := by
    have := h.rsa (show A.ns + tn T ≤ (addT A T).ns from Nat.le_refl _)
    rw [this, ad_st, if_neg (by omega), Nat.add_sub_cancel_left, h2]
  rw [e1]
  unfold f_X2_words
  rw [ix_nIs (by omega) (by omega), gd_true, nI_clamps (by omega), e2]
theorem addStory_s {T : TT} (h : RV (addT A T) se le he sa fa ge ns nf sp bo fi) (h2 : te T (tn T) = tw T) (hb : tn T = 0 → tw T = 0) (h12 : A.ns + tn T < 12) :
    ∃ sa' fa' ge', f_X2_addStory Fu sa fa ge ns nf = some (sa', fa', ge', nI (A.ns + tn T + 1), A.nf + nI (tn T + 1)) ∧ RV (addT A (tst 47 T)) se le he sa' fa' ge' (nI (A.ns + tn T + 1)) (A.nf + nI (tn T + 1)) sp bo fi := by
  have e1 : ns = nI (A.ns + tn T) := h.rns
  have e0 : nf = A.nf + nI (tn T) := h.rnf
  have e2 : sa (A.ns + tn T) = nI (A.wn + tw T) := by
    have := h.rsa (show A.ns + tn T ≤ (addT A T).ns from Nat.le_refl _)
    rw [this, ad_st]
    by_cases c : tn T = 0
    · rw [if_pos (by omega), c, hb c]; rfl
    · rw [if_neg (by omega), Nat.add_sub_cancel_left, h2]
  have e3 : A.nf + nI (tn T) + nI 1 = A.nf + nI (tn T + 1) := by rw [Int32.add_assoc, nI_add]
  have ewn : (addT A (tst 47 T)).wn = (addT A T).wn := by
    show (addT A (tst 47 T)).st (A.ns + tn (tst 47 T)) = (addT A T).st (A.ns + tn T)
    rw [tst_sl]
    show (if A.ns + (tn T + 1) ≤ A.ns then A.st (A.ns + (tn T + 1)) else A.wn + upN (te T) (tn T + 1) (tw T) (A.ns + (tn T + 1) - A.ns)) = (addT A T).st (A.ns + tn T)
    rw [if_neg (by omega), Nat.add_sub_cancel_left, upN_eq, ad_st]
    by_cases c : tn T = 0
    · rw [if_pos (by omega), c, hb c]; rfl
    · rw [if_neg (by omega), Nat.add_sub_cancel_left, h2]
  refine ⟨upd sa (A.ns + tn T + 1) (nI (A.wn + tw T)), upd fa (A.ns + tn T) nf, upd ge (A.ns + tn T) (nI 0), ?_, ?_⟩
  · rw [e1]
    unfold f_X2_addStory
    rw [ix_nIs (by omega) (by omega), gd_true, gd_true, nI_add, ix_nIs (by omega) (by omega), gd_true, ix_nIs (by omega) (by omega), gd_true, nm_eq, nI_clamps (by omega), nI_clamps (by omega), e2, e0, e3]
  · refine ⟨h.1, fun p hp => ?_, fun p hp => ?_, fun k hk => ?_, fun k hk => ?_, fun k hk => ?_, ?_, ?_, h.rsp, h.rbo, h.rfi⟩
    · rw [ewn] at hp
      have := h.rle hp
      rw [this, tst_sl]
      rfl
    · rw [ewn] at hp
      have := h.rhe hp
      rw [this, tst_sl]
      rfl
    · rw [tst_sl] at hk ⊢
      have hk : k ≤ A.ns + (tn T + 1) := hk
      show _ = nI (if k ≤ A.ns then A.st k else A.wn + upN (te T) (tn T + 1) (tw T) (k - A.ns))
      by_cases c : k = A.ns + tn T + 1
      · rw [c, upd_eq, if_neg (by omega), show A.ns + tn T + 1 - A.ns = tn T + 1 by omega, upN_eq]
      · rw [upd_ne c]
        have := h.rsa (show k ≤ (addT A T).ns from (by show k ≤ A.ns + tn T; omega))
        rw [this, ad_st]
        by_cases c2 : k ≤ A.ns
        · rw [if_pos c2, if_pos c2]
        · rw [if_neg c2, if_neg c2, upN_ne (by omega)]
    · rw [tst_sl] at hk ⊢
      have hk : k < A.ns + (tn T + 1) := hk
      show _ = (if k < A.ns then A.fa k else A.nf + nI (k - A.ns))
      by_cases c : k = A.ns + tn T
      · rw [c, upd_eq, if_neg (by omega), e0, Nat.add_sub_cancel_left]
      · rw [upd_ne c]
        exact h.rfa (show k < (addT A T).ns from (by show k < A.ns + tn T; omega))
    · rw [tst_sl] at hk ⊢
      have hk : k < A.ns + (tn T + 1) := hk
      show _ = (if k < A.ns then A.ge k else nI 0)
      by_cases c : k = A.ns + tn T
      · rw [c, upd_eq, if_neg (by omega)]
      · rw [upd_ne c]
        exact h.rge (show k < (addT A T).ns from (by show k < A.ns + tn T; omega))
    · rw [tst_sl]; rfl
    · rw [tst_sl]; rfl
theorem addWord_s {T : TT} {c : Nat} (hc : isL c) (h : RV (addT A T) se le he sa fa ge ns nf sp bo fi) (h1 : 1 ≤ tn T) (h2 : te T (tn T) = tw T) (h12 : A.ns + tn T ≤ 12) (h150 : A.wn + tw T < 150) :
    ∃ le' he' sa', f_X2_addWord Fu le he sa ns (nI c - nI 97) = some (le', he', sa') ∧ RV (addT A (tst c T)) se le' he' sa' fa ge ns nf sp bo fi := by
  have e1 : ns = nI (A.ns + tn T) := h.rns
  have ew := words_x (Fu := Fu) h h1 h2 h12
  have wn1 := ad_wn (A := A) h1 h2
  have wn2 : (addT A (tst c T)).wn = A.wn + (tw T + 1) := by
    rw [tst_L hc]
    show (addT A _).st (A.ns + tn T) = _
    show (if A.ns + tn T ≤ A.ns then A.st (A.ns + tn T) else A.wn + upN (te T) (tn T) (tw T + 1) (A.ns + tn T - A.ns)) = _
    rw [if_neg (by omega), Nat.add_sub_cancel_left, upN_eq]
  refine ⟨upd le (A.wn + tw T) (nI (c - 97)), upd he (A.wn + tw T) (nI 0), upd sa (A.ns + tn T) (nI (A.wn + tw T + 1)), ?_, ?_⟩
  · unfold f_X2_addWord
    rw [ew, bd1_s, ix_nIs (by omega) (by omega), gd_true, gd_true, e1, ix_nIs (by omega) (by omega), gd_true, nI_clamps (by omega), nI_clamps (by omega), pk_subs (by omega), nI_add]
  · refine ⟨h.1, fun p hp => ?_, fun p hp => ?_, fun k hk => ?_, ?_, ?_, ?_, ?_, h.rsp, h.rbo, h.rfi⟩
    · rw [wn2] at hp
      rw [tst_L hc]
      show _ = nI (if p < A.wn then A.le p else upN (tl T) (tw T) (c - 97) (p - A.wn))
      by_cases d : p = A.wn + tw T
      · rw [d, upd_eq, if_neg (by omega), Nat.add_sub_cancel_left, upN_eq]
      · rw [upd_ne d, h.rle (show p < (addT A T).wn by rw [wn1]; omega), ad_le]
        by_cases d2 : p < A.wn
        · rw [if_pos d2, if_pos d2]
        · rw [if_neg d2, if_neg d2, upN_ne (by omega)]
    · rw [wn2] at hp
      rw [tst_L hc]
      show _ = nI (if p < A.wn then A.he p else upN (th T) (tw T) 0 (p - A.wn))
      by_cases d : p = A.wn + tw T
      · rw [d, upd_eq, if_neg (by omega), Nat.add_sub_cancel_left, upN_eq]
      · rw [upd_ne d, h.rhe (show p < (addT A T).wn by rw [wn1]; omega), ad_he]
        by_cases d2 : p < A.wn
        · rw [if_pos d2, if_pos d2]
        · rw [if_neg d2, if_neg d2, upN_ne (by omega)]
    · rw [tst_L hc] at hk ⊢
      have hk : k ≤ A.ns + tn T := hk
      show _ = nI (if k ≤ A.ns then A.st k else A.wn + upN (te T) (tn T) (tw T + 1) (k - A.ns))
      by_cases d : k = A.ns + tn T
      · rw [d, upd_eq, if_neg (by omega), Nat.add_sub_cancel_left, upN_eq]
        congr 1
      · rw [upd_ne d, h.rsa (show k ≤ (addT A T).ns from hk), ad_st]
        by_cases d2 : k ≤ A.ns
        · rw [if_pos d2, if_pos d2]
        · rw [if_neg d2, if_neg d2, upN_ne (by omega)]
    · rw [tst_L hc]; exact h.2.2.2.2.1
    · rw [tst_L hc]; exact h.2.2.2.2.2.1
    · rw [tst_L hc]; exact h.rns
    · rw [tst_L hc]; exact h.rnf
theorem addDigit_s {T : TT} {c : Nat} (hc : 48 ≤ c ∧ c ≤ 57) (h : RV (addT A T) se le he sa fa ge ns nf sp bo fi) (h1 : 1 ≤ tn T) (h2 : te T (tn T) = tw T) (h0 : 0 < tw T) (h12 : A.ns + tn T ≤ 12) (h150 : A.wn + tw T ≤ 150) :
    ∃ he', f_X2_addDigit Fu he sa ns (nI c - nI 48) = some he' ∧ RV (addT A (tst c T)) se le he' sa fa ge ns nf sp bo fi := by
  have ew := words_x (Fu := Fu) h h1 h2 h12
  have wn1 := ad_wn (A := A) h1 h2
  have wn2 : (addT A (tst c T)).wn = A.wn + tw T := by rw [tst_d hc]; exact wn1
  have eh : he (A.wn + tw T - 1) = nI (th T (tw T - 1)) := by
    rw [h.rhe (show A.wn + tw T - 1 < (addT A T).wn by rw [wn1]; omega), ad_he, if_neg (by omega), show A.wn + tw T - 1 - A.wn = tw T - 1 by omega]
  refine ⟨upd he (A.wn + tw T - 1) (nI (th T (tw T - 1) * 10 + (c - 48))), ?_, ?_⟩
  · unfold f_X2_addDigit
    rw [ew, bd1_s, pk_subs (by omega), ix_nIs (by omega) (by omega), gd_true, gd_true, nI_clamps (by omega), eh, pk_mul, pk_subs (by omega), nI_add, nm_eq]
  · refine ⟨h.1, fun p hp => ?_, fun p hp => ?_, ?_, ?_, ?_, ?_, ?_, h.rsp, h.rbo, h.rfi⟩
    · rw [wn2] at hp
      rw [tst_d hc]
      exact h.rle (show p < (addT A T).wn by rw [wn1]; omega)
    · rw [wn2] at hp
      rw [tst_d hc]
      show _ = nI (if p < A.wn then A.he p else upN (th T) (tw T - 1) (th T (tw T - 1) * 10 + (c - 48)) (p - A.wn))
      by_cases d : p = A.wn + tw T - 1
      · rw [d, upd_eq, if_neg (by omega), show A.wn + tw T - 1 - A.wn = tw T - 1 by omega, upN_eq]
      · rw [upd_ne d, h.rhe (show p < (addT A T).wn by rw [wn1]; omega), ad_he]
        by_cases d2 : p < A.wn
        · rw [if_pos d2, if_pos d2]
        · rw [if_neg d2, if_neg d2, upN_ne (by omega)]
    · rw [tst_d hc]; exact h.2.2.2.1
    · rw [tst_d hc]; exact h.2.2.2.2.1
    · rw [tst_d hc]; exact h.2.2.2.2.2.1
    · rw [tst_d hc]; exact h.rns
    · rw [tst_d hc]; exact h.rnf
end WT
end
section
/-! PURE: the class writes the pad -/
section W1
variable {Fu n : Nat} {A : Sh} {se : Ar} {sp bo fi : Int32} {cs pd : Ar}
theorem writeTo_L (Fu : Nat) (hP : PR n cs pd) (hg : gdp (chA cs) n) (h12 : A.ns + tn (tpl (chA cs) n) ≤ 12) (h150 : A.wn + tw (tpl (chA cs) n) ≤ 150) : ∀ (fu i : Nat) (le he sa fa ge : Ar) (ns nf : Int32), i ≤ n → RV (addT A (tpl (chA cs) i)) se le he sa fa ge ns nf sp bo fi → n - i < fu →
    ∃ le' he' sa' fa' ge' ns' nf', RV (addT A (tpl (chA cs) n)) se le' he' sa' fa' ge' ns' nf' sp bo fi ∧ ∀ k : Ar → Ar → Ar → Ar → Ar → Int32 → Int32 → Option (Ar × Ar × Ar × Ar × Ar × Int32 × Int32), f_X1_writeTo_L6 Fu k cs (nI n) fu (nI i) le he sa fa ge ns nf = k le' he' sa' fa' ge' ns' nf' := by
  obtain ⟨c1, c2, c3⟩ := hP.ch
  have hn := hP.1
  intro fu
  induction fu with
  | zero => intro i le he sa fa ge ns nf h1 h2 h3; omega
  | succ fu ih =>
    intro i le he sa fa ge ns nf h1 h2 h3
    by_cases hh : n ≤ i
    · have e : i = n := by omega
      subst e
      refine ⟨le, he, sa, fa, ge, ns, nf, h2, fun k => ?_⟩
      rw [f_X1_writeTo_L6_s, if_pos (show nI i ≤ nI i by rw [nI_les (by omega) (by omega)]; omega)]
    · have b := c3 i (by omega)
      have ti := TI_i (chA cs) i (fun j hj => hg j (by omega))
      obtain ⟨t1, t2, t3, t4, t5, t6, t7, t8, t9⟩ := ti
      have p4 := hg (i + 1) (by omega)
      rw [ps_s] at p4
      obtain ⟨m1, m2⟩ := tpl_mono (chA cs) n (n - i) i (by omega)
      obtain ⟨m3, m4⟩ := tpl_mono (chA cs) n (n - (i + 1)) (i + 1) (by omega)
      rw [tpl_s, (tpl_N _).1] at m4
      rw [tpl_s, (tpl_N _).2] at m3
      have m1' : tw (tpl (chA cs) i) ≤ tw (tpl (chA cs) n) := m1
      have m2' : tn (tpl (chA cs) i) ≤ tn (tpl (chA cs) n) := m2
      have m3' : tw (tpl (chA cs) i) + (if chA cs i ≠ 47 ∧ isL (chA cs i) then 1 else 0) ≤ tw (tpl (chA cs) n) := m3
      have m4' : tn (tpl (chA cs) i) + (if chA cs i = 47 then 1 else 0) ≤ tn (tpl (chA cs) n) := m4
      have l1 : ¬ nI n ≤ nI i := by rw [nI_les (by omega) (by omega)]; exact hh
      by_cases d1 : chA cs i = 47
      · rw [if_pos d1] at m4'
        obtain ⟨sa', fa', ge', r1, r2⟩ := addStory_s (Fu := Fu) h2 t2 (fun z => by omega) (by omega)
        rw [← d1, ← tpl_s] at r2
        obtain ⟨le2, he2, sa2, fa2, ge2, ns2, nf2, q1, q2⟩ := ih (i + 1) _ _ _ _ _ _ _ (by omega) r2 (by omega)
        refine ⟨le2, he2, sa2, fa2, ge2, ns2, nf2, q1, fun k => ?_⟩
        rw [← q2 k, f_X1_writeTo_L6_s, if_neg l1, ix_nIs (by omega) (by omega), gd_true, nm_eq, nI_clamps (by omega), c1 i (by omega), jn_eq, if_pos (show nI (chA cs i) = nI 47 by rw [d1]), r1, bd5_s, nI_add]
      · have n47 : ¬ nI (chA cs i) = nI 47 := by rw [nI_eqs (by omega) (by omega)]; exact d1
        by_cases d2 : isL (chA cs i)
        · rw [if_pos ⟨d1, d2⟩] at m3'
          obtain ⟨le', he', sa', r1, r2⟩ := addWord_s (Fu := Fu) d2 h2 t3 t2 (by omega) (by omega)
          rw [← tpl_s] at r2
          obtain ⟨le2, he2, sa2, fa2, ge2, ns2, nf2, q1, q2⟩ := ih (i + 1) _ _ _ _ _ _ _ (by omega) r2 (by omega)
          refine ⟨le2, he2, sa2, fa2, ge2, ns2, nf2, q1, fun k => ?_⟩
          rw [← q2 k, f_X1_writeTo_L6_s, if_neg l1, ix_nIs (by omega) (by omega), gd_true, nm_eq, nI_clamps (by omega), c1 i (by omega), jn_eq, if_neg n47, isWordL_s _ (by omega), bd1_s, if_pos d2, if_neg one_ne, r1, bd3_s, nI_add]
        · have q0 : ps (chA cs) i ≠ 0 := fun z => by rw [z] at p4; exact p4 (nxt_0 d2)
          have hd : 48 ≤ chA cs i ∧ chA cs i ≤ 57 := by
            refine Classical.byContradiction (fun z => p4 ?_)
            unfold nxt
            rw [if_neg d2, if_neg q0, if_neg d1, if_neg (fun y => z (by omega)), if_neg (fun y => z y.2)]
          have lt := t6 q0
          obtain ⟨he', r1, r2⟩ := addDigit_s (Fu := Fu) hd h2 t3 t2 (by omega) (by omega) (by omega)
          rw [← tpl_s] at r2
          obtain ⟨le2, he2, sa2, fa2, ge2, ns2, nf2, q1, q2⟩ := ih (i + 1) _ _ _ _ _ _ _ (by omega) r2 (by omega)
          refine ⟨le2, he2, sa2, fa2, ge2, ns2, nf2, q1, fun k => ?_⟩
          rw [← q2 k, f_X1_writeTo_L6_s, if_neg l1, ix_nIs (by omega) (by omega), gd_true, nm_eq, nI_clamps (by omega), c1 i (by omega), jn_eq, if_neg n47, isWordL_s _ (by omega), bd1_s, if_neg d2, if_pos zero_eq, r1, bd1_s, nI_add]
theorem writeTo_s {le he sa fa ge : Ar} {ns nf : Int32} (hF : 20000000 ≤ Fu) (hP : PR n cs pd) (hg : gdp (chA cs) n) (h : RV A se le he sa fa ge ns nf sp bo fi) (hW : WF A) (h12 : A.ns + tn (tpl (chA cs) n) ≤ 12) (h150 : A.wn + tw (tpl (chA cs) n) ≤ 150) :
    ∃ le' he' sa' fa' ge' ns' nf', RV (addT A (tpl (chA cs) n)) se le' he' sa' fa' ge' ns' nf' sp bo fi ∧ f_X1_writeTo Fu cs (nI n) le he sa fa ge ns nf = some (le', he', sa', fa', ge', ns', nf') := by
  have hn := hP.1
  have m := (tpl_mono (chA cs) n n 0 (by omega)).2
  have m' : 1 ≤ tn (tpl (chA cs) n) := m
  have h0 : RV (addT A (0, 0, fun _ => 0, fun _ => 0, fun _ => 0, fun _ => 0)) se le he sa fa ge ns nf sp bo fi := by
    have ew : (addT A (0, 0, fun _ => 0, fun _ => 0, fun _ => 0, fun _ => 0)).wn = A.wn := by
      show (if A.ns + 0 ≤ A.ns then A.st (A.ns + 0) else _) = A.st A.ns
      rw [if_pos (by omega)]; rfl
    refine ⟨h.1, fun p hp => ?_, fun p hp => ?_, fun k hk => ?_, fun k hk => ?_, fun k hk => ?_, h.rns, ?_, h.rsp, h.rbo, h.rfi⟩
    · rw [ew] at hp
      rw [ad_le, if_pos hp]; exact h.rle hp
    · rw [ew] at hp
      rw [ad_he, if_pos hp]; exact h.rhe hp
    · have hk : k ≤ A.ns := hk
      rw [ad_st, if_pos hk]; exact h.rsa hk
    · have hk : k < A.ns := hk
      rw [ad_fa, if_pos hk]; exact h.rfa hk
    · have hk : k < A.ns := hk
      rw [ad_ge, if_pos hk]; exact h.rge hk
    · show nf = A.nf + nI 0
      rw [h.rnf, zero_eq, Int32.add_zero]
  obtain ⟨sa', fa', ge', r1, r2⟩ := addStory_s (Fu := Fu) h0 rfl (fun _ => rfl) (show A.ns + 0 < 12 by omega)
  have e0 : tst 47 (0, 0, fun _ => 0, fun _ => 0, fun _ => 0, fun _ => 0) = tpl (chA cs) 0 := by
    rw [tst_sl]
    show (0, 0 + 1, (fun _ => 0 : FN), (fun _ => 0 : FN), (fun _ => 0 : FN), upN (fun _ => 0) (0 + 1) 0) = (0, 1, (fun _ => 0 : FN), (fun _ => 0 : FN), (fun _ => 0 : FN), (fun _ => 0 : FN))
    have : upN (fun _ => 0) (0 + 1) 0 = (fun _ => 0 : FN) := by
      funext q
      unfold upN
      by_cases c : q = 0 + 1
      · rw [if_pos c]
      · rw [if_neg c]
    rw [this]
  rw [e0] at r2
  obtain ⟨le2, he2, sa2, fa2, ge2, ns2, nf2, q1, q2⟩ := writeTo_L Fu hP hg h12 h150 Fu 0 _ _ _ _ _ _ _ (Nat.zero_le _) r2 (by omega)
  refine ⟨le2, he2, sa2, fa2, ge2, ns2, nf2, q1, ?_⟩
  unfold f_X1_writeTo
  rw [r1, bd5_s, jn_eq]
  exact q2 _
end W1
end
section
/-! PURE: the reference writes what it has read; write -/
section WR
variable {Fu M n : Nat} {A : Sh} {se le he sa fa ge : Ar} {ns nf sp bo fi : Int32} {s : Ar} {hs : Nat → Sh} {o z : Nat} {hv : Nat → SV} {be cs pd : Ar}
abbrev KW : Type := Ar → Option (Int32 × Ar × Ar × Int32 × Int32 × Int32 × Int32 × Ar × Ar × Ar × Int32 × Int32)
/-- the reference's row when x new stories have their places -/
def w63 (N : Nat) (nf : Int32) (s : Ar) (x : Nat) : Ar := fun i => if 9 + N ≤ i ∧ i < 9 + N + x then nI 0 else if 21 + N ≤ i ∧ i < 21 + N + x then nf + nI (i - 21 - N) else if 33 + N ≤ i ∧ i < 33 + N + x then nI 0 else if i = 5 then nf + nI x else s i
theorem w63_0 (N : Nat) (nf : Int32) (s : Ar) (h : s 5 = nf) : w63 N nf s 0 = s := by
  funext i
  unfold w63
  rw [if_neg (by omega), if_neg (by omega), if_neg (by omega)]
  by_cases c : i = 5
  · rw [if_pos c, c, h, zero_eq, Int32.add_zero]
  · rw [if_neg c]
theorem w63_s (N : Nat) (nf : Int32) (s : Ar) (x : Nat) (h : N + x < 12) : upd (upd (upd (upd (w63 N nf s x) (9 + N + x) (nI 0)) (21 + N + x) (nf + nI x)) (33 + N + x) (nI 0)) 5 (nf + nI (x + 1)) = w63 N nf s (x + 1) := by
  funext i
  unfold upd w63
  by_cases c5 : i = 5
  · rw [if_pos c5, if_neg (by omega), if_neg (by omega), if_neg (by omega), if_pos c5]
  · rw [if_neg c5]
    by_cases c1 : i = 33 + N + x
    · rw [if_pos c1, if_neg (by omega), if_neg (by omega), if_pos (by omega)]
    · rw [if_neg c1]
      by_cases c2 : i = 21 + N + x
      · rw [if_pos c2, if_neg (by omega), if_pos (by omega), show i - 21 - N = x by omega]
      · rw [if_neg c2]
        by_cases c3 : i = 9 + N + x
        · rw [if_pos c3, if_pos (by omega)]
        · rw [if_neg c3, if_neg c5]
          by_cases d1 : 9 + N ≤ i ∧ i < 9 + N + x
          · rw [if_pos d1, if_pos (by omega)]
          · rw [if_neg d1, if_neg (show ¬ (9 + N ≤ i ∧ i < 9 + N + (x + 1)) by omega)]
            by_cases d2 : 21 + N ≤ i ∧ i < 21 + N + x
            · rw [if_pos d2, if_pos (by omega)]
            · rw [if_neg d2, if_neg (show ¬ (21 + N ≤ i ∧ i < 21 + N + (x + 1)) by omega)]
              by_cases d3 : 33 + N ≤ i ∧ i < 33 + N + x
              · rw [if_pos d3, if_pos (by omega)]
              · rw [if_neg d3, if_neg (show ¬ (33 + N ≤ i ∧ i < 33 + N + (x + 1)) by omega), if_neg c5]
theorem write4_L63 (Fu : Nat) (k : KW) {N m : Nat} (hm : N + m ≤ 12) (h3 : s 3 = nI N) (nf : Int32) : ∀ (fu x : Nat), x ≤ m → m - x < fu → f_X4_write_L63 Fu k s (nI m) fu (nI x) (w63 N nf s x) = k (w63 N nf s m) := by
  intro fu
  induction fu with
  | zero => intro x h1 h2; omega
  | succ fu ih =>
    intro x h1 h2
    rw [f_X4_write_L63_s]
    by_cases hh : m ≤ x
    · have e : x = m := by omega
      subst e
      rw [if_pos (show nI x ≤ nI x by rw [nI_les (by omega) (by omega)]; omega)]
    · have v5 : upd (w63 N nf s x) (9 + N + x) (nI 0) 5 = nf + nI x := by
        rw [upd_ne (by omega)]
        unfold w63
        rw [if_neg (by omega), if_neg (by omega), if_neg (by omega), if_pos rfl]
      have v5' : upd (upd (upd (w63 N nf s x) (9 + N + x) (nI 0)) (21 + N + x) (nf + nI x)) (33 + N + x) (nI 0) 5 = nf + nI x := by
        rw [upd_ne (by omega), upd_ne (by omega), v5]
      rw [← ih (x + 1) (by omega) (by omega), ← w63_s N nf s x (by omega), if_neg (by rw [nI_les (by omega) (by omega)]; exact hh), h3]
      simp (disch := omega) only [nI_add, ix_nIs, gd_true, nm_eq, nI_clamps, v5, v5', Int32.add_assoc]
/-- how long the told story k is when x words have been written -/
def lnT (T : TT) (x k : Nat) : Nat := min x (te T (k + 1)) - min x (te T k)
theorem te_mono {T : TT} {q : Nat} (h : TI T q) (hq : q ≠ 0) {j : Nat} : ∀ (d : Nat), j + d ≤ tn T → te T j ≤ te T (j + d) := by
  obtain ⟨h1, h2, h3, h4, h5, h6, h7, h8, h9⟩ := h
  intro d
  induction d with
  | zero => intro _; exact Nat.le_refl _
  | succ d ih =>
    intro hd
    have := ih (by omega)
    by_cases c : j + d + 1 = tn T
    · have l := h6 hq
      rw [show tn T - 1 = j + d by omega, ← h2] at l
      rw [← Nat.add_assoc, c]
      omega
    · have := h4 (j + d) (by omega)
      rw [← Nat.add_assoc]
      omega
theorem lnT_s {T : TT} {q x k : Nat} (h : TI T q) (hq : q ≠ 0) (hx : x < tw T) (hk : k < tn T) : lnT T (x + 1) k = if k = ts T x then lnT T x k + 1 else lnT T x k := by
  obtain ⟨a1, a2, a3, a4, a5⟩ := h.2.2.2.2.2.2.1 x hx
  unfold lnT
  by_cases c : k = ts T x
  · rw [if_pos c, c, Nat.min_eq_left a5, Nat.min_eq_left (Nat.le_of_lt a5), Nat.min_eq_right (show te T (ts T x) ≤ x + 1 by omega), Nat.min_eq_right a4]
    omega
  · rw [if_neg c]
    by_cases d : k < ts T x
    · have m1 := te_mono h hq (j := k + 1) (ts T x - (k + 1)) (by omega)
      have m2 := te_mono h hq (j := k) 1 (by omega)
      rw [show k + 1 + (ts T x - (k + 1)) = ts T x by omega] at m1
      rw [Nat.min_eq_right (show te T (k + 1) ≤ x + 1 by omega), Nat.min_eq_right (show te T (k + 1) ≤ x by omega), Nat.min_eq_right (show te T k ≤ x + 1 by omega), Nat.min_eq_right (show te T k ≤ x by omega)]
    · have m1 := te_mono h hq (j := ts T x + 1) (k - (ts T x + 1)) (by omega)
      have m2 := te_mono h hq (j := k) 1 (by omega)
      rw [show ts T x + 1 + (k - (ts T x + 1)) = k by omega] at m1
      rw [Nat.min_eq_left (show x + 1 ≤ te T (k + 1) by omega), Nat.min_eq_left (show x ≤ te T (k + 1) by omega), Nat.min_eq_left (show x + 1 ≤ te T k by omega), Nat.min_eq_left (show x ≤ te T k by omega)]
      omega
/-- the reference's row when x words have been written -/
def w130 (N W : Nat) (T : TT) (s : Ar) (x : Nat) : Ar := fun i => if 45 + W ≤ i ∧ i < 45 + W + x then nI (tl T (i - 45 - W)) else if 195 + W ≤ i ∧ i < 195 + W + x then nI (th T (i - 195 - W)) else if 9 + N ≤ i ∧ i < 9 + N + tn T then nI (lnT T x (i - 9 - N)) else s i
theorem w130_s {N W q x : Nat} {T : TT} {s : Ar} (h : TI T q) (hq : q ≠ 0) (hx : x < tw T) (h12 : N + tn T ≤ 12) (h150 : W + tw T ≤ 150) :
    upd (upd (upd (w130 N W T s x) (45 + W + x) (nI (tl T x))) (195 + W + x) (nI (th T x))) (9 + N + ts T x) (nI (lnT T x (ts T x) + 1)) = w130 N W T s (x + 1) := by
  obtain ⟨a1, a2, a3, a4, a5⟩ := h.2.2.2.2.2.2.1 x hx
  funext i
  unfold upd w130
  by_cases c1 : i = 9 + N + ts T x
  · rw [if_pos c1, if_neg (by omega), if_neg (by omega), if_pos (by omega), show i - 9 - N = ts T x by omega, lnT_s h hq hx a3, if_pos rfl]
  · rw [if_neg c1]
    by_cases c2 : i = 195 + W + x
    · rw [if_pos c2, if_neg (by omega), if_pos (by omega), show i - 195 - W = x by omega]
    · rw [if_neg c2]
      by_cases c3 : i = 45 + W + x
      · rw [if_pos c3, if_pos (by omega), show i - 45 - W = x by omega]
      · rw [if_neg c3]
        by_cases d1 : 45 + W ≤ i ∧ i < 45 + W + x
        · rw [if_pos d1, if_pos (by omega)]
        · rw [if_neg d1, if_neg (show ¬ (45 + W ≤ i ∧ i < 45 + W + (x + 1)) by omega)]
          by_cases d2 : 195 + W ≤ i ∧ i < 195 + W + x
          · rw [if_pos d2, if_pos (by omega)]
          · rw [if_neg d2, if_neg (show ¬ (195 + W ≤ i ∧ i < 195 + W + (x + 1)) by omega)]
            by_cases d3 : 9 + N ≤ i ∧ i < 9 + N + tn T
            · rw [if_pos d3, if_pos d3, lnT_s h hq hx (show i - 9 - N < tn T by omega), if_neg (by omega)]
            · rw [if_neg d3, if_neg d3]
theorem write4_L130 (Fu : Nat) (k : KW) {N W q : Nat} {T : TT} {s0 s1 b1 b2 b3 : Ar} (h : TI T q) (hq : q ≠ 0) (h60 : tw T ≤ 60) (h12 : N + tn T ≤ 12) (h150 : W + tw T ≤ 150) (hb : AG T b1 b2 b3) (h3 : s0 3 = nI N) (h4 : s1 4 = nI W) : ∀ (fu x : Nat), x ≤ tw T → tw T - x < fu → f_X4_write_L130 Fu k s0 b1 b2 b3 (nI (tw T)) fu (nI x) (w130 N W T s1 x) = k (w130 N W T s1 (tw T)) := by
  intro fu
  induction fu with
  | zero => intro x g1 g2; omega
  | succ fu ih =>
    intro x g1 g2
    rw [f_X4_write_L130_s]
    by_cases hh : tw T ≤ x
    · have e : x = tw T := by omega
      rw [e, if_pos (show nI (tw T) ≤ nI (tw T) by rw [nI_les (by omega) (by omega)]; omega)]
    · obtain ⟨a1, a2, a3, a4, a5⟩ := h.2.2.2.2.2.2.1 x (by omega)
      obtain ⟨e1, e2, e3⟩ := hb x (by show x < tw T; omega)
      have e1 : b1 x = nI (tl T x) := e1
      have e2 : b2 x = nI (th T x) := e2
      have e3 : b3 x = nI (ts T x) := e3
      have v4 : w130 N W T s1 x 4 = nI W := by
        unfold w130
        rw [if_neg (by omega), if_neg (by omega), if_neg (by omega), h4]
      have v4' : ∀ v : Int32, upd (w130 N W T s1 x) (45 + W + x) v 4 = nI W := fun v => by rw [upd_ne (by omega), v4]
      have vl : ∀ u v : Int32, upd (upd (w130 N W T s1 x) (45 + W + x) u) (195 + W + x) v (9 + N + ts T x) = nI (lnT T x (ts T x)) := fun u v => by
        rw [upd_ne (by omega), upd_ne (by omega)]
        unfold w130
        rw [if_neg (by omega), if_neg (by omega), if_pos (by omega), show 9 + N + ts T x - 9 - N = ts T x by omega]
      rw [← ih (x + 1) (by omega) (by omega), ← w130_s h hq (by omega) h12 h150, if_neg (by rw [nI_les (by omega) (by omega)]; exact hh), h3]
      simp (disch := omega) only [nI_add, ix_nIs, gd_true, nm_eq, nI_clamps, v4, v4', vl, e1, e2, e3]
theorem RS.write {T : TT} {q : Nat} (g : RS A s) (hW : WF A) (h : TI T q) (hq : q ≠ 0) (h12 : A.ns + tn T ≤ 12) (h150 : A.wn + tw T ≤ 150) : RS (addT A T) (upd (upd (w130 A.ns A.wn T (w63 A.ns A.nf s (tn T)) (tw T)) 3 (nI (A.ns + tn T))) 4 (nI (A.wn + tw T))) := by
  have hT := h
  obtain ⟨h1, h2, h3, h4, h5, h6, h7, h8, h9⟩ := h
  have ew := ad_wn (A := A) h3 h2
  have low : ∀ i, i < 9 → i ≠ 3 → i ≠ 4 → (upd (upd (w130 A.ns A.wn T (w63 A.ns A.nf s (tn T)) (tw T)) 3 (nI (A.ns + tn T))) 4 (nI (A.wn + tw T))) i = if i = 5 then A.nf + nI (tn T) else s i := by
    intro i c1 c2 c3
    rw [upd_ne c3, upd_ne c2]
    unfold w130 w63
    rw [if_neg (by omega), if_neg (by omega), if_neg (by omega), if_neg (by omega), if_neg (by omega), if_neg (by omega)]
  have hi : ∀ i, 9 ≤ i → (upd (upd (w130 A.ns A.wn T (w63 A.ns A.nf s (tn T)) (tw T)) 3 (nI (A.ns + tn T))) 4 (nI (A.wn + tw T))) i = w130 A.ns A.wn T (w63 A.ns A.nf s (tn T)) (tw T) i := fun i c => by rw [upd_ne (by omega), upd_ne (by omega)]
  have hn := hW.n
  refine ⟨fun i c => ?_, ?_, ?_, ?_, ?_, ?_, ?_, fun k hk => ?_, fun k hk => ?_, fun k hk => ?_, fun p hp => ?_, fun p hp => ?_⟩
  · rw [low i (by omega) (by omega) (by omega), if_neg (by omega)]; exact g.rse c
  · rw [upd_ne (by omega), upd_eq]; rfl
  · rw [upd_eq, ew]
  · rw [low 5 (by omega) (by omega) (by omega), if_pos rfl]; rfl
  · rw [low 6 (by omega) (by omega) (by omega), if_neg (by omega)]; exact g.rsp
  · rw [low 7 (by omega) (by omega) (by omega), if_neg (by omega)]; exact g.rbo
  · rw [low 8 (by omega) (by omega) (by omega), if_neg (by omega)]; exact g.rfi
  · have hk : k < A.ns + tn T := hk
    rw [hi _ (by omega)]
    unfold w130 w63
    rw [if_neg (by omega), if_neg (by omega), ad_st, ad_st]
    by_cases c : k < A.ns
    · rw [if_neg (by omega), if_neg (by omega), if_neg (by omega), if_neg (by omega), if_neg (by omega), if_pos (show k + 1 ≤ A.ns from c), if_pos (by omega)]
      exact g.rlo c
    · rw [if_pos (by omega), if_neg (show ¬ k + 1 ≤ A.ns from c), show 9 + k - 9 - A.ns = k - A.ns by omega]
      unfold lnT
      have m1 := te_mono hT hq (j := k - A.ns + 1) (tn T - (k - A.ns + 1)) (by omega)
      have m0 := te_mono hT hq (j := k - A.ns) 1 (by omega)
      rw [show k - A.ns + 1 + (tn T - (k - A.ns + 1)) = tn T by omega, h2] at m1
      rw [Nat.min_eq_right m1, Nat.min_eq_right (by omega), show k + 1 - A.ns = k - A.ns + 1 by omega]
      by_cases d : k ≤ A.ns
      · have e : k = A.ns := by omega
        rw [if_pos d, e, Nat.sub_self, h1]
        show nI (te T (0 + 1) - 0) = nI (A.wn + te T (0 + 1) - A.wn)
        rw [Nat.add_sub_cancel_left, Nat.sub_zero]
      · rw [if_neg d, Nat.add_sub_add_left]
  · have hk : k < A.ns + tn T := hk
    rw [hi _ (by omega), ad_fa]
    unfold w130 w63
    rw [if_neg (by omega), if_neg (by omega), if_neg (by omega), if_neg (by omega)]
    by_cases c : k < A.ns
    · rw [if_neg (by omega), if_neg (by omega), if_neg (by omega), if_pos c]
      exact g.rfa c
    · rw [if_pos (by omega), if_neg c, show 21 + k - 21 - A.ns = k - A.ns by omega]
  · have hk : k < A.ns + tn T := hk
    rw [hi _ (by omega), ad_ge]
    unfold w130 w63
    rw [if_neg (by omega), if_neg (by omega), if_neg (by omega), if_neg (by omega), if_neg (by omega)]
    by_cases c : k < A.ns
    · rw [if_neg (by omega), if_neg (by omega), if_pos c]
      exact g.rge c
    · rw [if_pos (by omega), if_neg c]
  · rw [ew] at hp
    rw [hi _ (by omega), ad_le]
    unfold w130 w63
    by_cases c : p < A.wn
    · rw [if_neg (by omega), if_neg (by omega), if_neg (by omega), if_neg (by omega), if_neg (by omega), if_neg (by omega), if_neg (by omega), if_pos c]
      exact g.rle c
    · rw [if_pos (by omega), if_neg c, show 45 + p - 45 - A.wn = p - A.wn by omega]
  · rw [ew] at hp
    rw [hi _ (by omega), ad_he]
    unfold w130 w63
    by_cases c : p < A.wn
    · rw [if_neg (by omega), if_neg (by omega), if_neg (by omega), if_neg (by omega), if_neg (by omega), if_neg (by omega), if_neg (by omega), if_pos c]
      exact g.rhe c
    · rw [if_neg (by omega), if_pos (by omega), if_neg c, show 195 + p - 195 - A.wn = p - A.wn by omega]
theorem sim_write (hF : 100000000 ≤ Fu) (hW : WF A) (hM : A.sp ≤ M) (h : RV A se le he sa fa ge ns nf sp bo fi) (g : RS A s) (hH : HR M hs o z hv be) (hP : PR n cs pd) (p0 w0 : Int32) (a1 a2 a3 : Ar) (x0 y0 : Int32) :
    ∃ r B hs' o' z' hv' be' n' le' he' sa' fa' ge' ns' nf' sp' bo' fi' s' pl wr b1 b2 b3 tw' tn', WF B ∧ B.sp ≤ M + 12 ∧ RV B se le' he' sa' fa' ge' ns' nf' sp' bo' fi' ∧ RS B s' ∧ HR M hs' o' z' hv' be' ∧ PR n' cs pd ∧
      f_X3_write Fu cs (nI n) se le he sa fa ge ns nf sp bo fi hv (nI o) (nI z) = some (r, nI n', le', he', sa', fa', ge', ns', nf', sp', bo', fi', hv', nI o', nI z') ∧
      f_X4_write Fu s be (nI z) pd (nI n) p0 w0 a1 a2 a3 x0 y0 = some (r, s', be', nI z', nI n', pl, wr, b1, b2, b3, tw', tn') := by
  have hn := hP.1
  have hF2 : 20000000 ≤ Fu := by omega
  obtain ⟨h1, h2, h3⟩ := hP.ch
  obtain ⟨r0, q1, q2⟩ := ff_s hF2 hn h1 h3
  obtain ⟨pl, wr, b1, b2, b3, tw', tn', e1, e2⟩ := rp_s hF2 hP p0 w0 a1 a2 a3 x0 y0
  unfold f_X3_write f_X4_write
  rw [q2, e2, bd1_s, bd7_s]
  have An := hW.n
  have Aw := hW.w
  rcases e1 with ⟨u1, u0, u2⟩ | ⟨u1, u2, u3, u4, rfl, rfl⟩
  · rw [u1, if_neg one_ne, q1.det u2, if_neg u0]
    exact ⟨-3, A, hs, o, z, hv, be, n, le, he, sa, fa, ge, ns, nf, sp, bo, fi, s, pl, nI 1, b1, b2, b3, tw', tn', hW, by omega, h, g, hH, hP, rfl, rfl⟩
  · have ti := TI_i (chA cs) n u2
    have tl60 := tpl_le (chA cs) n
    have E := RS.write (T := tpl (chA cs) n) g hW ti u3
    rw [u1, if_pos zero_eq, q1.det (Or.inr (Or.inr ⟨u2, u3, rfl⟩)), if_pos rfl, stories_s hF2 hP, words4_s hF2 hP, bd1_s, g.rns, g.rwn, h.rns, nI_add]
    have rw' := words_r (Fu := Fu) hW h
    rw [h.rns] at rw'
    by_cases c1 : nI 12 < nI (A.ns + (tpl (chA cs) n).2.1)
    · rw [if_pos c1, if_pos c1]
      exact ⟨-4, A, hs, o, z, hv, be, n, le, he, sa, fa, ge, nI A.ns, nf, sp, bo, fi, s, pl, nI 0, b1, b2, b3, _, _, hW, by omega, by rw [← h.rns]; exact h, g, hH, hP, rfl, rfl⟩
    · rw [if_neg c1, if_neg c1, rw', bd1_s, bd1_s, nI_add]
      rw [nI_lts (by omega) (by omega)] at c1
      by_cases c2 : nI (A.wn + (tpl (chA cs) n).1) ≤ nI 150
      · rw [if_pos c2, if_pos c2]
        rw [nI_les (by omega) (by omega)] at c2
        have c1' : A.ns + tn (tpl (chA cs) n) ≤ 12 := by show A.ns + (tpl (chA cs) n).2.1 ≤ 12; omega
        have h' := h
        rw [h.rns] at h'
        obtain ⟨hs', o', z', hv', be', r1, r2, r3⟩ := rec_sim hF2 hW hM h' g hH
        obtain ⟨le', he', sa', fa', ge', ns', nf', v1, v2⟩ := writeTo_s hF2 hP u2 h' hW c1' c2
        have E := E c1' c2
        obtain ⟨B, m, he2, sa2, fa2, ge2, ns2, sp2, bo2, fi2, s2, y1, y2, y3, y4, y5, y6, y7⟩ := react_sim hF (WF.add hW ti u3 c1' c2) v1 E
        have K63 : ∀ k : KW, f_X4_write_L63 Fu k s (nI (tpl (chA cs) n).2.1) Fu (nI 0) s = k (w63 A.ns A.nf s (tn (tpl (chA cs) n))) := fun k => by
          have := write4_L63 (s := s) (N := A.ns) (m := (tpl (chA cs) n).2.1) Fu k (by omega) g.rns A.nf Fu 0 (Nat.zero_le _) (by omega)
          rw [w63_0 _ _ _ g.rnf] at this
          exact this
        have z4 : w63 A.ns A.nf s (tn (tpl (chA cs) n)) 4 = nI A.wn := by
          unfold w63
          rw [if_neg (by omega), if_neg (by omega), if_neg (by omega), if_neg (by omega)]
          exact g.rwn
        have z0 : w130 A.ns A.wn (tpl (chA cs) n) (w63 A.ns A.nf s (tn (tpl (chA cs) n))) 0 = w63 A.ns A.nf s (tn (tpl (chA cs) n)) := by
          funext i
          unfold w130
          rw [if_neg (by omega), if_neg (by omega)]
          by_cases d : 9 + A.ns ≤ i ∧ i < 9 + A.ns + tn (tpl (chA cs) n)
          · rw [if_pos d]
            unfold lnT w63
            rw [if_pos d, Nat.zero_min, Nat.zero_min]
          · rw [if_neg d]
        have K130 : ∀ k : KW, f_X4_write_L130 Fu k s b1 b2 b3 (nI (tpl (chA cs) n).1) Fu (nI 0) (w63 A.ns A.nf s (tn (tpl (chA cs) n))) = k (w130 A.ns A.wn (tpl (chA cs) n) (w63 A.ns A.nf s (tn (tpl (chA cs) n))) (tw (tpl (chA cs) n))) := fun k => by
          have := write4_L130 (s0 := s) (s1 := w63 A.ns A.nf s (tn (tpl (chA cs) n))) Fu k ti u3 (show tw (tpl (chA cs) n) ≤ 60 by show (tpl (chA cs) n).1 ≤ 60; omega) c1' c2 u4 g.rns z4 Fu 0 (Nat.zero_le _) (by show (tpl (chA cs) n).1 - 0 < Fu; omega)
          rw [z0] at this
          exact this
        have s3 : w130 A.ns A.wn (tpl (chA cs) n) (w63 A.ns A.nf s (tn (tpl (chA cs) n))) (tw (tpl (chA cs) n)) 3 = nI A.ns := by
          unfold w130 w63
          rw [if_neg (by omega), if_neg (by omega), if_neg (by omega), if_neg (by omega), if_neg (by omega), if_neg (by omega), if_neg (by omega)]
          exact g.rns
        have s4 : w130 A.ns A.wn (tpl (chA cs) n) (w63 A.ns A.nf s (tn (tpl (chA cs) n))) (tw (tpl (chA cs) n)) 4 = nI A.wn := by
          unfold w130
          rw [if_neg (by omega), if_neg (by omega), if_neg (by omega)]
          exact z4
        have E2 : upd (upd (w130 A.ns A.wn (tpl (chA cs) n) (w63 A.ns A.nf s (tn (tpl (chA cs) n))) (tw (tpl (chA cs) n))) 3 (nI A.ns + nI (tpl (chA cs) n).2.1)) 4 (nI A.wn + nI (tpl (chA cs) n).1) = upd (upd (w130 A.ns A.wn (tpl (chA cs) n) (w63 A.ns A.nf s (tn (tpl (chA cs) n))) (tw (tpl (chA cs) n))) 3 (nI (A.ns + tn (tpl (chA cs) n)))) 4 (nI (A.wn + tw (tpl (chA cs) n))) := by
          rw [nI_add, nI_add]; rfl
        refine ⟨nI B.ns, B, hs', o', z', hv', be', 0, le', he2, sa2, fa2, ge2, ns2, nf', sp2, bo2, fi2, s2, pl, nI 0, b1, b2, b3, nI (tpl (chA cs) n).1, nI (tpl (chA cs) n).2.1, y3.1, ?_, y4, y5, r1, PR.wipe _ _, ?_, ?_⟩
        · have := y3.sp
          have e : (addT A (tpl (chA cs) n)).sp = A.sp := rfl
          omega
        · rw [r2, bd3_s, v2, bd7_s, y6, bd9_s, y4.rns]
        · rw [r3, bd2_s, jn_eq, K63, jn_eq, K130, nm_eq, s3, upd_ne (show (4 : Nat) ≠ 3 by omega), s4, E2, y7, bd2_s, y5.rns]
      · rw [if_neg c2, if_neg c2]
        exact ⟨-4, A, hs, o, z, hv, be, n, le, he, sa, fa, ge, nI A.ns, nf, sp, bo, fi, s, pl, nI 0, b1, b2, b3, _, _, hW, by omega, by rw [← h.rns]; exact h, g, hH, hP, rfl, rfl⟩
end WR
end
section
/-! PURE: set -/
def f_X3_set (Fu : Nat) (n_settings : Ar) (n_letters : Ar) (n_heats : Ar) (n_starts : Ar) (n_families : Ar) (n_generations : Ar) (n_stories : Int32) (n_nextFamily : Int32) (n_splits : Int32) (n_boilings : Int32) (n_fizzles : Int32) (h_v : Nat → SV) (h_oldest : Int32) (h_size : Int32) (p1 : Int32) (p2 : Int32) : Option (Int32 × Ar × (Nat → SV) × Int32 × Int32) :=
  bd1 (f_X3_isWithin Fu p1 (nI 0) (nI 2)) (fun r1 =>
  if r1 = 0 then
    some (-2, n_settings, h_v, h_oldest, h_size)
  else
    gd (ix p1 3) (
    bd1 (f_X3_isWithin Fu p2 (if p1.toNatClampNeg = 0 then nI 10 else nI 0) (if p1.toNatClampNeg = 0 then nI 99 else if p1.toNatClampNeg = 1 then nI 4 else nI 20)) (fun r2 =>
    if r2 = 0 then
      some (-2, n_settings, h_v, h_oldest, h_size)
    else
      bd3 (f_X0_record Fu h_v h_oldest h_size n_settings n_letters n_heats n_starts n_families n_generations n_stories n_nextFamily n_splits n_boilings n_fizzles) (fun h_v_3 h_oldest_4 h_size_5 =>
      some (n_settings p1.toNatClampNeg, upd n_settings p1.toNatClampNeg p2, h_v_3, h_oldest_4, h_size_5)))))
def Sh.setSe (A : Sh) (g : FN) : Sh := Sh.mk g A.ns A.st A.le A.he A.fa A.ge A.nf A.sp A.bo A.fi
section ST
variable {Fu M : Nat} {A : Sh} {se le he sa fa ge : Ar} {ns nf sp bo fi : Int32} {s : Ar} {hs : Nat → Sh} {o z : Nat} {hv : Nat → SV} {be : Ar}
theorem sim_set (hF : 20000000 ≤ Fu) (hW : WF A) (hM : A.sp ≤ M) (h : RV A se le he sa fa ge ns nf sp bo fi) (g : RS A s) (hH : HR M hs o z hv be) (p q : Int32) :
    ∃ r B hs' o' z' hv' be' se' s', WF B ∧ B.sp ≤ M + 12 ∧ RV B se' le he sa fa ge ns nf sp bo fi ∧ RS B s' ∧ HR M hs' o' z' hv' be' ∧
      f_X3_set Fu se le he sa fa ge ns nf sp bo fi hv (nI o) (nI z) p q = some (r, se', hv', nI o', nI z') ∧ f_X4_set Fu s be (nI z) p q = some (r, s', be', nI z') := by
  unfold f_X3_set f_X4_set
  rw [nm_eq, nm_eq, isWithin_s, in4_s, bd1_s, bd1_s]
  by_cases hb : nI 0 ≤ p ∧ p ≤ nI 2
  · rw [if_pos hb, if_neg one_ne, if_neg one_ne]
    obtain ⟨k, hk1, hk2, rfl⟩ := rng hb (by omega) (by omega)
    obtain ⟨hs', o', z', hv', be', q1, q2, q3⟩ := rec_sim hF hW hM h g hH
    have ekey : ∃ lo hi : Nat, lo ≤ hi ∧ hi ≤ 99 ∧ (k = 0 → 10 ≤ lo ∧ hi ≤ 99) ∧ (k = 1 → hi ≤ 4) ∧ (k = 2 → hi ≤ 20) ∧ (if k = 0 then nI 10 else nI 0) = nI lo ∧ (if k = 0 then nI 99 else if k = 1 then nI 4 else nI 20) = nI hi ∧ (if nI k = 0 then nI 10 else nI 0) = nI lo ∧ (if nI k = 0 then nI 99 else if nI k = nI 1 then nI 4 else nI 20) = nI hi := by
      have hk : k = 0 ∨ k = 1 ∨ k = 2 := by omega
      rcases hk with rfl | rfl | rfl
      · exact ⟨10, 99, by omega, by omega, fun _ => by omega, fun z => by omega, fun z => by omega, by decide, by decide, by decide, by decide⟩
      · exact ⟨0, 4, by omega, by omega, fun z => by omega, fun _ => by omega, fun z => by omega, by decide, by decide, by decide, by decide⟩
      · exact ⟨0, 20, by omega, by omega, fun z => by omega, fun z => by omega, fun _ => by omega, by decide, by decide, by decide, by decide⟩
    obtain ⟨lo, hi, e1, e2, e3, e4, e5, e6, e7, e8, e9⟩ := ekey
    rw [ix_nIs (by omega) (by omega), gd_true, nI_clamps (by omega), e6, e7, e8, e9, isWithin_s, in4_s, bd1_s, bd1_s]
    by_cases hc : nI lo ≤ q ∧ q ≤ nI hi
    · rw [if_pos hc, if_neg one_ne, if_neg one_ne]
      obtain ⟨v, hv1, hv2, rfl⟩ := rng hc (by omega) e1
      have hS := hW.2.1
      refine ⟨nI (A.se k), A.setSe (upN A.se k v), hs', o', z', hv', be', upd se k (nI v), upd s k (nI v), ⟨hW.1, ⟨?_, ?_, ?_, ?_⟩, hW.2.2⟩, ?_, ⟨fun i hi => ?_, h.2⟩, ⟨fun i hi => ?_, ?_, ?_, ?_, ?_, ?_, ?_, fun j hj => ?_, fun j hj => ?_, fun j hj => ?_, fun j hj => ?_, fun j hj => ?_⟩, q1, ?_, ?_⟩
      · show 10 ≤ upN A.se k v 0
        by_cases c : k = 0
        · rw [c, upN_eq]; have := e3 c; omega
        · rw [upN_ne (by omega)]; exact hS.1
      · show upN A.se k v 0 ≤ 99
        by_cases c : k = 0
        · rw [c, upN_eq]; have := e3 c; omega
        · rw [upN_ne (by omega)]; exact hS.2.1
      · show upN A.se k v 1 ≤ 4
        by_cases c : k = 1
        · rw [c, upN_eq]; have := e4 c; omega
        · rw [upN_ne (by omega)]; exact hS.2.2.1
      · show upN A.se k v 2 ≤ 20
        by_cases c : k = 2
        · rw [c, upN_eq]; have := e5 c; omega
        · rw [upN_ne (by omega)]; exact hS.2.2.2
      · show A.sp ≤ M + 12
        omega
      · show upd se k (nI v) i = nI (upN A.se k v i)
        by_cases c : i = k
        · rw [c, upd_eq, upN_eq]
        · rw [upd_ne c, upN_ne c]; exact h.rse hi
      · show upd s k (nI v) i = nI (upN A.se k v i)
        by_cases c : i = k
        · rw [c, upd_eq, upN_eq]
        · rw [upd_ne c, upN_ne c]; exact g.rse hi
      · rw [upd_ne (by omega)]; exact g.rns
      · rw [upd_ne (by omega)]; exact g.rwn
      · rw [upd_ne (by omega)]; exact g.rnf
      · rw [upd_ne (by omega)]; exact g.rsp
      · rw [upd_ne (by omega)]; exact g.rbo
      · rw [upd_ne (by omega)]; exact g.rfi
      · rw [upd_ne (by omega)]; exact g.rlo hj
      · rw [upd_ne (by omega)]; exact g.rfa hj
      · rw [upd_ne (by omega)]; exact g.rge hj
      · rw [upd_ne (by omega)]; exact g.rle hj
      · rw [upd_ne (by omega)]; exact g.rhe hj
      · rw [q2, bd3_s, h.rse (show k < 3 by omega)]
      · rw [q3, bd2_s, nI_add, Nat.zero_add, ix_nIs (by omega) (by omega), gd_true, nm_eq, gd_true, nI_clamps (by omega), g.rse (show k < 3 by omega)]
    · rw [if_neg hc, if_pos zero_eq, if_pos zero_eq]
      exact ⟨-2, A, hs, o, z, hv, be, se, s, hW, by omega, h, g, hH, rfl, rfl⟩
  · rw [if_neg hb, if_pos zero_eq, if_pos zero_eq]
    exact ⟨-2, A, hs, o, z, hv, be, se, s, hW, by omega, h, g, hH, rfl, rfl⟩
end ST
end
