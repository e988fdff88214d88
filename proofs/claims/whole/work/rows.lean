section
-- ===== PART A: goes FIRST, ahead of the names: the tables' words, and 'selects' of the private methods out of them =====
/-- a private method of a class that the tables say can be made, by its rows of tables_1 -/
def lw_okq (q : MethodName × Nat) : Prop := (q.1.cls ≠ "java/lang/invoke/MethodHandle" ∧ q.1.cls ≠ "java/lang/invoke/VarHandle") ∧ Cond.instantiable q.1.cls q.2 ∈ tables_1 ∧ Cond.privateMethod q.1 ∈ tables_1 ∧ Cond.instanceMethod q.1 ∈ tables_1
theorem lw_p0 : lw_okq (⟨"HeatedStories", "tryHeating", "(II)I"⟩, 9) := ⟨⟨by decide +kernel, by decide +kernel⟩, List.mem_of_getElem? (i := 10) (by decide +kernel), List.mem_of_getElem? (i := 389) (by decide +kernel), List.mem_of_getElem? (i := 390) (by decide +kernel)⟩
theorem lw_p1 : lw_okq (⟨"HeatedStoriesModel", "know", "()V"⟩, 21) := ⟨⟨by decide +kernel, by decide +kernel⟩, List.mem_of_getElem? (i := 445) (by decide +kernel), List.mem_of_getElem? (i := 522) (by decide +kernel), List.mem_of_getElem? (i := 523) (by decide +kernel)⟩
theorem lw_p2 : lw_okq (⟨"HeatedStoriesModel", "isWord", "(II)Z"⟩, 21) := ⟨⟨by decide +kernel, by decide +kernel⟩, List.mem_of_getElem? (i := 445) (by decide +kernel), List.mem_of_getElem? (i := 530) (by decide +kernel), List.mem_of_getElem? (i := 531) (by decide +kernel)⟩
theorem lw_p3 : lw_okq (⟨"HeatedStoriesModel", "isStory", "(I)Z"⟩, 21) := ⟨⟨by decide +kernel, by decide +kernel⟩, List.mem_of_getElem? (i := 445) (by decide +kernel), List.mem_of_getElem? (i := 534) (by decide +kernel), List.mem_of_getElem? (i := 535) (by decide +kernel)⟩
theorem lw_p4 : lw_okq (⟨"HeatedStoriesModel", "first", "(I)I"⟩, 21) := ⟨⟨by decide +kernel, by decide +kernel⟩, List.mem_of_getElem? (i := 445) (by decide +kernel), List.mem_of_getElem? (i := 538) (by decide +kernel), List.mem_of_getElem? (i := 539) (by decide +kernel)⟩
theorem lw_p5 : lw_okq (⟨"HeatedStoriesModel", "warm", "(II)V"⟩, 21) := ⟨⟨by decide +kernel, by decide +kernel⟩, List.mem_of_getElem? (i := 445) (by decide +kernel), List.mem_of_getElem? (i := 542) (by decide +kernel), List.mem_of_getElem? (i := 543) (by decide +kernel)⟩
theorem lw_p6 : lw_okq (⟨"HeatedStoriesModel", "react", "()I"⟩, 21) := ⟨⟨by decide +kernel, by decide +kernel⟩, List.mem_of_getElem? (i := 445) (by decide +kernel), List.mem_of_getElem? (i := 546) (by decide +kernel), List.mem_of_getElem? (i := 547) (by decide +kernel)⟩
theorem lw_p7 : lw_okq (⟨"HeatedStoriesModel", "reactOne", "(I)V"⟩, 21) := ⟨⟨by decide +kernel, by decide +kernel⟩, List.mem_of_getElem? (i := 445) (by decide +kernel), List.mem_of_getElem? (i := 550) (by decide +kernel), List.mem_of_getElem? (i := 551) (by decide +kernel)⟩
theorem lw_p8 : lw_okq (⟨"HeatedStoriesModel", "storyOf", "(I)I"⟩, 21) := ⟨⟨by decide +kernel, by decide +kernel⟩, List.mem_of_getElem? (i := 445) (by decide +kernel), List.mem_of_getElem? (i := 554) (by decide +kernel), List.mem_of_getElem? (i := 555) (by decide +kernel)⟩
theorem lw_p9 : lw_okq (⟨"HeatedStoriesModel", "split", "(II)V"⟩, 21) := ⟨⟨by decide +kernel, by decide +kernel⟩, List.mem_of_getElem? (i := 445) (by decide +kernel), List.mem_of_getElem? (i := 558) (by decide +kernel), List.mem_of_getElem? (i := 559) (by decide +kernel)⟩
theorem lw_p10 : lw_okq (⟨"HeatedStoriesModel", "theme", "(I)I"⟩, 21) := ⟨⟨by decide +kernel, by decide +kernel⟩, List.mem_of_getElem? (i := 445) (by decide +kernel), List.mem_of_getElem? (i := 570) (by decide +kernel), List.mem_of_getElem? (i := 571) (by decide +kernel)⟩
theorem lw_p11 : lw_okq (⟨"HeatedStoriesModel", "times", "(II)I"⟩, 21) := ⟨⟨by decide +kernel, by decide +kernel⟩, List.mem_of_getElem? (i := 445) (by decide +kernel), List.mem_of_getElem? (i := 574) (by decide +kernel), List.mem_of_getElem? (i := 575) (by decide +kernel)⟩
theorem lw_p12 : lw_okq (⟨"HeatedStoriesModel", "removeWords", "(II)V"⟩, 21) := ⟨⟨by decide +kernel, by decide +kernel⟩, List.mem_of_getElem? (i := 445) (by decide +kernel), List.mem_of_getElem? (i := 578) (by decide +kernel), List.mem_of_getElem? (i := 579) (by decide +kernel)⟩
theorem lw_p13 : lw_okq (⟨"HeatedStoriesModel", "removeStory", "(I)V"⟩, 21) := ⟨⟨by decide +kernel, by decide +kernel⟩, List.mem_of_getElem? (i := 445) (by decide +kernel), List.mem_of_getElem? (i := 582) (by decide +kernel), List.mem_of_getElem? (i := 583) (by decide +kernel)⟩
theorem lw_p14 : lw_okq (⟨"HeatedStoriesModel", "allHeat", "()I"⟩, 21) := ⟨⟨by decide +kernel, by decide +kernel⟩, List.mem_of_getElem? (i := 445) (by decide +kernel), List.mem_of_getElem? (i := 590) (by decide +kernel), List.mem_of_getElem? (i := 591) (by decide +kernel)⟩
theorem lw_p15 : lw_okq (⟨"HeatedStoriesModel", "heatOf", "(I)I"⟩, 21) := ⟨⟨by decide +kernel, by decide +kernel⟩, List.mem_of_getElem? (i := 445) (by decide +kernel), List.mem_of_getElem? (i := 606) (by decide +kernel), List.mem_of_getElem? (i := 607) (by decide +kernel)⟩
def lw_privs_1 : List (MethodName × Nat) := [(⟨"HeatedStories", "tryHeating", "(II)I"⟩, 9), (⟨"HeatedStoriesModel", "know", "()V"⟩, 21), (⟨"HeatedStoriesModel", "isWord", "(II)Z"⟩, 21), (⟨"HeatedStoriesModel", "isStory", "(I)Z"⟩, 21), (⟨"HeatedStoriesModel", "first", "(I)I"⟩, 21), (⟨"HeatedStoriesModel", "warm", "(II)V"⟩, 21), (⟨"HeatedStoriesModel", "react", "()I"⟩, 21), (⟨"HeatedStoriesModel", "reactOne", "(I)V"⟩, 21), (⟨"HeatedStoriesModel", "storyOf", "(I)I"⟩, 21), (⟨"HeatedStoriesModel", "split", "(II)V"⟩, 21), (⟨"HeatedStoriesModel", "theme", "(I)I"⟩, 21), (⟨"HeatedStoriesModel", "times", "(II)I"⟩, 21), (⟨"HeatedStoriesModel", "removeWords", "(II)V"⟩, 21), (⟨"HeatedStoriesModel", "removeStory", "(I)V"⟩, 21), (⟨"HeatedStoriesModel", "allHeat", "()I"⟩, 21), (⟨"HeatedStoriesModel", "heatOf", "(I)I"⟩, 21)]
theorem lw_r1 : ∀ q ∈ lw_privs_1, lw_okq q := List.forall_mem_cons.mpr ⟨lw_p0, List.forall_mem_cons.mpr ⟨lw_p1, List.forall_mem_cons.mpr ⟨lw_p2, List.forall_mem_cons.mpr ⟨lw_p3, List.forall_mem_cons.mpr ⟨lw_p4, List.forall_mem_cons.mpr ⟨lw_p5, List.forall_mem_cons.mpr ⟨lw_p6, List.forall_mem_cons.mpr ⟨lw_p7, List.forall_mem_cons.mpr ⟨lw_p8, List.forall_mem_cons.mpr ⟨lw_p9, List.forall_mem_cons.mpr ⟨lw_p10, List.forall_mem_cons.mpr ⟨lw_p11, List.forall_mem_cons.mpr ⟨lw_p12, List.forall_mem_cons.mpr ⟨lw_p13, List.forall_mem_cons.mpr ⟨lw_p14, List.forall_mem_cons.mpr ⟨lw_p15, fun _ h => absurd h List.not_mem_nil⟩⟩⟩⟩⟩⟩⟩⟩⟩⟩⟩⟩⟩⟩⟩⟩
theorem lw_p16 : lw_okq (⟨"HeatedStoriesModel", "hottest", "(I)I"⟩, 21) := ⟨⟨by decide +kernel, by decide +kernel⟩, List.mem_of_getElem? (i := 445) (by decide +kernel), List.mem_of_getElem? (i := 610) (by decide +kernel), List.mem_of_getElem? (i := 611) (by decide +kernel)⟩
theorem lw_p17 : lw_okq (⟨"HeatedStoriesModel", "unlike", "(I)I"⟩, 21) := ⟨⟨by decide +kernel, by decide +kernel⟩, List.mem_of_getElem? (i := 445) (by decide +kernel), List.mem_of_getElem? (i := 614) (by decide +kernel), List.mem_of_getElem? (i := 615) (by decide +kernel)⟩
theorem lw_p18 : lw_okq (⟨"HeatedStoriesModel", "isSameBackwards", "(I)I"⟩, 21) := ⟨⟨by decide +kernel, by decide +kernel⟩, List.mem_of_getElem? (i := 445) (by decide +kernel), List.mem_of_getElem? (i := 618) (by decide +kernel), List.mem_of_getElem? (i := 619) (by decide +kernel)⟩
theorem lw_p19 : lw_okq (⟨"HeatedStoriesModel", "families", "()I"⟩, 21) := ⟨⟨by decide +kernel, by decide +kernel⟩, List.mem_of_getElem? (i := 445) (by decide +kernel), List.mem_of_getElem? (i := 626) (by decide +kernel), List.mem_of_getElem? (i := 627) (by decide +kernel)⟩
theorem lw_p20 : lw_okq (⟨"HeatedStoriesModel", "greatest", "()I"⟩, 21) := ⟨⟨by decide +kernel, by decide +kernel⟩, List.mem_of_getElem? (i := 445) (by decide +kernel), List.mem_of_getElem? (i := 630) (by decide +kernel), List.mem_of_getElem? (i := 631) (by decide +kernel)⟩
theorem lw_p21 : lw_okq (⟨"HeatedStoriesModel", "tryHeat", "(II)V"⟩, 21) := ⟨⟨by decide +kernel, by decide +kernel⟩, List.mem_of_getElem? (i := 445) (by decide +kernel), List.mem_of_getElem? (i := 650) (by decide +kernel), List.mem_of_getElem? (i := 651) (by decide +kernel)⟩
theorem lw_p22 : lw_okq (⟨"HeatedStoriesModel", "putAside", "()V"⟩, 21) := ⟨⟨by decide +kernel, by decide +kernel⟩, List.mem_of_getElem? (i := 445) (by decide +kernel), List.mem_of_getElem? (i := 654) (by decide +kernel), List.mem_of_getElem? (i := 655) (by decide +kernel)⟩
theorem lw_p23 : lw_okq (⟨"HeatedStoriesModel", "putBack", "()V"⟩, 21) := ⟨⟨by decide +kernel, by decide +kernel⟩, List.mem_of_getElem? (i := 445) (by decide +kernel), List.mem_of_getElem? (i := 658) (by decide +kernel), List.mem_of_getElem? (i := 659) (by decide +kernel)⟩
theorem lw_p24 : lw_okq (⟨"HeatedStoriesModel", "readPad", "()V"⟩, 21) := ⟨⟨by decide +kernel, by decide +kernel⟩, List.mem_of_getElem? (i := 445) (by decide +kernel), List.mem_of_getElem? (i := 687) (by decide +kernel), List.mem_of_getElem? (i := 688) (by decide +kernel)⟩
theorem lw_p25 : lw_okq (⟨"HeatedStoriesModel", "sign", "(II)I"⟩, 21) := ⟨⟨by decide +kernel, by decide +kernel⟩, List.mem_of_getElem? (i := 445) (by decide +kernel), List.mem_of_getElem? (i := 691) (by decide +kernel), List.mem_of_getElem? (i := 692) (by decide +kernel)⟩
theorem lw_p26 : lw_okq (⟨"HeatedStoriesModel", "isNext", "(II)Z"⟩, 21) := ⟨⟨by decide +kernel, by decide +kernel⟩, List.mem_of_getElem? (i := 445) (by decide +kernel), List.mem_of_getElem? (i := 695) (by decide +kernel), List.mem_of_getElem? (i := 696) (by decide +kernel)⟩
def lw_privs_2 : List (MethodName × Nat) := [(⟨"HeatedStoriesModel", "hottest", "(I)I"⟩, 21), (⟨"HeatedStoriesModel", "unlike", "(I)I"⟩, 21), (⟨"HeatedStoriesModel", "isSameBackwards", "(I)I"⟩, 21), (⟨"HeatedStoriesModel", "families", "()I"⟩, 21), (⟨"HeatedStoriesModel", "greatest", "()I"⟩, 21), (⟨"HeatedStoriesModel", "tryHeat", "(II)V"⟩, 21), (⟨"HeatedStoriesModel", "putAside", "()V"⟩, 21), (⟨"HeatedStoriesModel", "putBack", "()V"⟩, 21), (⟨"HeatedStoriesModel", "readPad", "()V"⟩, 21), (⟨"HeatedStoriesModel", "sign", "(II)I"⟩, 21), (⟨"HeatedStoriesModel", "isNext", "(II)Z"⟩, 21)]
theorem lw_r2 : ∀ q ∈ lw_privs_2, lw_okq q := List.forall_mem_cons.mpr ⟨lw_p16, List.forall_mem_cons.mpr ⟨lw_p17, List.forall_mem_cons.mpr ⟨lw_p18, List.forall_mem_cons.mpr ⟨lw_p19, List.forall_mem_cons.mpr ⟨lw_p20, List.forall_mem_cons.mpr ⟨lw_p21, List.forall_mem_cons.mpr ⟨lw_p22, List.forall_mem_cons.mpr ⟨lw_p23, List.forall_mem_cons.mpr ⟨lw_p24, List.forall_mem_cons.mpr ⟨lw_p25, List.forall_mem_cons.mpr ⟨lw_p26, fun _ h => absurd h List.not_mem_nil⟩⟩⟩⟩⟩⟩⟩⟩⟩⟩⟩
def lw_privs : List (MethodName × Nat) := lw_privs_1 ++ (lw_privs_2)
def lw_tbl : List Cond := k2_sels lw_privs ++ tables_1
theorem lw_privs_ok : ∀ q ∈ lw_privs, lw_okq q := by
  show ∀ q ∈ lw_privs_1 ++ (lw_privs_2), lw_okq q
  exact List.forall_mem_append.mpr ⟨lw_r1, lw_r2⟩
end
section
/-! ===== BEGIN words of one list among another's, by their places ===== -/
theorem goodIn_r {big : List Cond} (ws : List Cond) (ps : List Nat) (hp : ws = ps.filterMap (fun i => big[i]?)) (h : ws.all goodWord = true) : GoodIn big ws := by
  intro w hw
  have h1 := List.all_eq_true.mp h w hw
  rw [hp] at hw
  obtain ⟨i, -, hi⟩ := List.mem_filterMap.mp hw
  have hm : w ∈ big := by first | exact List.mem_of_getElem? hi | exact List.getElem?_mem hi
  exact ⟨hm, good_of_word h1⟩
theorem goodIn_app {big a b : List Cond} (ha : GoodIn big a) (hb : GoodIn big b) : GoodIn big (a ++ b) := fun w h => (List.mem_append.mp h).elim (ha w) (hb w)
theorem goodIn_ca {big a b : List Cond} {c : Cond} (ha : GoodIn big (c :: a)) (hb : GoodIn big b) : GoodIn big (c :: (a ++ b)) := fun w h => (List.mem_cons.mp h).elim (fun e => ha w (List.mem_cons.mpr (Or.inl e))) (fun h => (List.mem_append.mp h).elim (fun h => ha w (List.mem_cons.mpr (Or.inr h))) (hb w))
theorem goodIn_sub {big ws : List Cond} (hm : ∀ w ∈ ws, w ∈ big) (h : ws.all goodWord = true) : GoodIn big ws := fun w hw => ⟨hm w hw, good_of_word (List.all_eq_true.mp h w hw)⟩
/-! ===== END ===== -/

/-! ===== BEGIN printed: names, fields, word lists, decode rows ===== -/
def RX0 : String := "HeatedStories$History"
def TX0 : u_T := fun k => match k with
  | 0 => ("HeatedStories$History", "states", "[LHeatedStories$Shelf;", true)
  | 1 => ("HeatedStories$History", "oldest", "I", false)
  | _ => ("HeatedStories$History", "size", "I", false)
def tyX0 : Nat → FieldType := fun k => match k with
  | 0 => .array (.object "HeatedStories$Shelf")
  | 1 => .int
  | _ => .int
abbrev wsX00 : List Cond := u_ws RX0 TX0 3
theorem nmX0 : ∀ a, a < 3 → ∀ b, b < 3 → a ≠ b → (TX0 a).2.1 ≠ (TX0 b).2.1 := by decide +kernel
theorem tyX0_ok : ∀ k, k < 3 → parseFieldDescriptor (TX0 k).2.2.1 = some (tyX0 k) := by decide +kernel
abbrev cX0_init : ByteArray := prog_2_method_1_code
def yX0_init : MethodName := ⟨RX0, "<init>", "()V"⟩
abbrev cX0_record : ByteArray := prog_2_method_2_code
def yX0_record : MethodName := ⟨RX0, "record", "(LHeatedStories$Shelf;)V"⟩
abbrev cX0_takeBack : ByteArray := prog_2_method_3_code
def yX0_takeBack : MethodName := ⟨RX0, "takeBack", "(LHeatedStories$Shelf;)V"⟩
def RX1 : String := "HeatedStories$Pad"
def TX1 : u_T := fun k => match k with
  | 0 => ("HeatedStories$Pad", "characters", "[C", true)
  | _ => ("HeatedStories$Pad", "length", "I", false)
def tyX1 : Nat → FieldType := fun k => match k with
  | 0 => .array .char
  | _ => .int
abbrev wsX10 : List Cond := u_ws RX1 TX1 2
theorem nmX1 : ∀ a, a < 2 → ∀ b, b < 2 → a ≠ b → (TX1 a).2.1 ≠ (TX1 b).2.1 := by decide +kernel
theorem tyX1_ok : ∀ k, k < 2 → parseFieldDescriptor (TX1 k).2.2.1 = some (tyX1 k) := by decide +kernel
abbrev cX1_init : ByteArray := prog_3_method_1_code
def yX1_init : MethodName := ⟨RX1, "<init>", "()V"⟩
abbrev cX1_charactersIn : ByteArray := prog_3_method_2_code
def yX1_charactersIn : MethodName := ⟨RX1, "charactersIn", "(J)I"⟩
abbrev cX1_add : ByteArray := prog_3_method_3_code
def yX1_add : MethodName := ⟨RX1, "add", "(JI)V"⟩
abbrev cX1_firstFault : ByteArray := prog_3_method_4_code
def yX1_firstFault : MethodName := ⟨RX1, "firstFault", "()I"⟩
abbrev cX1_placeBehind : ByteArray := prog_3_method_5_code
def yX1_placeBehind : MethodName := ⟨RX1, "placeBehind", "(IC)I"⟩
abbrev cX1_isWord : ByteArray := prog_3_method_6_code
def yX1_isWord : MethodName := ⟨RX1, "isWord", "(C)Z"⟩
abbrev cX1_storiesIn : ByteArray := prog_3_method_7_code
def yX1_storiesIn : MethodName := ⟨RX1, "storiesIn", "()I"⟩
abbrev cX1_wordsIn : ByteArray := prog_3_method_8_code
def yX1_wordsIn : MethodName := ⟨RX1, "wordsIn", "()I"⟩
abbrev cX1_writeTo : ByteArray := prog_3_method_9_code
def yX1_writeTo : MethodName := ⟨RX1, "writeTo", "(LHeatedStories$Shelf;)V"⟩
def RX2 : String := "HeatedStories$Shelf"
def TX2 : u_T := fun k => match k with
  | 0 => ("HeatedStories$Shelf", "settings", "[I", true)
  | 1 => ("HeatedStories$Shelf", "letters", "[I", true)
  | 2 => ("HeatedStories$Shelf", "heats", "[I", true)
  | 3 => ("HeatedStories$Shelf", "starts", "[I", true)
  | 4 => ("HeatedStories$Shelf", "families", "[I", true)
  | 5 => ("HeatedStories$Shelf", "generations", "[I", true)
  | 6 => ("HeatedStories$Shelf", "tally", "[I", true)
  | 7 => ("HeatedStories$Shelf", "stories", "I", false)
  | 8 => ("HeatedStories$Shelf", "nextFamily", "I", false)
  | 9 => ("HeatedStories$Shelf", "splits", "I", false)
  | 10 => ("HeatedStories$Shelf", "boilings", "I", false)
  | _ => ("HeatedStories$Shelf", "fizzles", "I", false)
def tyX2 : Nat → FieldType := fun k => match k with
  | 0 => .array .int
  | 1 => .array .int
  | 2 => .array .int
  | 3 => .array .int
  | 4 => .array .int
  | 5 => .array .int
  | 6 => .array .int
  | 7 => .int
  | 8 => .int
  | 9 => .int
  | 10 => .int
  | _ => .int
abbrev wsX20 : List Cond := u_ws RX2 TX2 12
theorem nmX2 : ∀ a, a < 12 → ∀ b, b < 12 → a ≠ b → (TX2 a).2.1 ≠ (TX2 b).2.1 := by decide +kernel
theorem tyX2_ok : ∀ k, k < 12 → parseFieldDescriptor (TX2 k).2.2.1 = some (tyX2 k) := by decide +kernel
abbrev cX2_init : ByteArray := prog_4_method_1_code
def yX2_init : MethodName := ⟨RX2, "<init>", "()V"⟩
abbrev cX2_copyFrom : ByteArray := prog_4_method_2_code
def yX2_copyFrom : MethodName := ⟨RX2, "copyFrom", "(LHeatedStories$Shelf;)V"⟩
abbrev cX2_words : ByteArray := prog_4_method_3_code
def yX2_words : MethodName := ⟨RX2, "words", "()I"⟩
abbrev cX2_hasStory : ByteArray := prog_4_method_4_code
def yX2_hasStory : MethodName := ⟨RX2, "hasStory", "(I)Z"⟩
abbrev cX2_hasWord : ByteArray := prog_4_method_5_code
def yX2_hasWord : MethodName := ⟨RX2, "hasWord", "(II)Z"⟩
abbrev cX2_sizeOf : ByteArray := prog_4_method_6_code
def yX2_sizeOf : MethodName := ⟨RX2, "sizeOf", "(I)I"⟩
abbrev cX2_storyAt : ByteArray := prog_4_method_7_code
def yX2_storyAt : MethodName := ⟨RX2, "storyAt", "(I)I"⟩
abbrev cX2_placeOf : ByteArray := prog_4_method_8_code
def yX2_placeOf : MethodName := ⟨RX2, "placeOf", "(I)I"⟩
abbrev cX2_addStory : ByteArray := prog_4_method_9_code
def yX2_addStory : MethodName := ⟨RX2, "addStory", "()V"⟩
abbrev cX2_addWord : ByteArray := prog_4_method_10_code
def yX2_addWord : MethodName := ⟨RX2, "addWord", "(I)V"⟩
abbrev cX2_addDigit : ByteArray := prog_4_method_11_code
def yX2_addDigit : MethodName := ⟨RX2, "addDigit", "(I)V"⟩
abbrev cX2_warm : ByteArray := prog_4_method_12_code
def yX2_warm : MethodName := ⟨RX2, "warm", "(II)V"⟩
abbrev cX2_remove : ByteArray := prog_4_method_13_code
def yX2_remove : MethodName := ⟨RX2, "remove", "(I)V"⟩
abbrev cX2_append : ByteArray := prog_4_method_14_code
def yX2_append : MethodName := ⟨RX2, "append", "(ILHeatedStories$Shelf;I)V"⟩
abbrev cX2_isCalm : ByteArray := prog_4_method_15_code
def yX2_isCalm : MethodName := ⟨RX2, "isCalm", "()Z"⟩
abbrev cX2_react : ByteArray := prog_4_method_16_code
def yX2_react : MethodName := ⟨RX2, "react", "()I"⟩
abbrev cX2_reactAt : ByteArray := prog_4_method_17_code
def yX2_reactAt : MethodName := ⟨RX2, "reactAt", "(I)V"⟩
abbrev cX2_split : ByteArray := prog_4_method_18_code
def yX2_split : MethodName := ⟨RX2, "split", "(II)V"⟩
abbrev cX2_heatBetween : ByteArray := prog_4_method_19_code
def yX2_heatBetween : MethodName := ⟨RX2, "heatBetween", "(II)I"⟩
abbrev cX2_heatOf : ByteArray := prog_4_method_20_code
def yX2_heatOf : MethodName := ⟨RX2, "heatOf", "(I)I"⟩
abbrev cX2_heatOfAll : ByteArray := prog_4_method_21_code
def yX2_heatOfAll : MethodName := ⟨RX2, "heatOfAll", "()I"⟩
abbrev cX2_timesBetween : ByteArray := prog_4_method_22_code
def yX2_timesBetween : MethodName := ⟨RX2, "timesBetween", "(III)I"⟩
abbrev cX2_timesIn : ByteArray := prog_4_method_23_code
def yX2_timesIn : MethodName := ⟨RX2, "timesIn", "(II)I"⟩
abbrev cX2_timesInAll : ByteArray := prog_4_method_24_code
def yX2_timesInAll : MethodName := ⟨RX2, "timesInAll", "(I)I"⟩
abbrev cX2_tallyOf : ByteArray := prog_4_method_25_code
def yX2_tallyOf : MethodName := ⟨RX2, "tallyOf", "(I)V"⟩
abbrev cX2_themeOf : ByteArray := prog_4_method_26_code
def yX2_themeOf : MethodName := ⟨RX2, "themeOf", "(I)I"⟩
abbrev cX2_unlikeLettersOf : ByteArray := prog_4_method_27_code
def yX2_unlikeLettersOf : MethodName := ⟨RX2, "unlikeLettersOf", "(I)I"⟩
abbrev cX2_hottestOf : ByteArray := prog_4_method_28_code
def yX2_hottestOf : MethodName := ⟨RX2, "hottestOf", "(I)I"⟩
abbrev cX2_readsFromBothEnds : ByteArray := prog_4_method_29_code
def yX2_readsFromBothEnds : MethodName := ⟨RX2, "readsFromBothEnds", "(I)Z"⟩
abbrev cX2_unlikeFamilies : ByteArray := prog_4_method_30_code
def yX2_unlikeFamilies : MethodName := ⟨RX2, "unlikeFamilies", "()I"⟩
abbrev cX2_isFirstOfFamily : ByteArray := prog_4_method_31_code
def yX2_isFirstOfFamily : MethodName := ⟨RX2, "isFirstOfFamily", "(I)Z"⟩
abbrev cX2_greatestGeneration : ByteArray := prog_4_method_32_code
def yX2_greatestGeneration : MethodName := ⟨RX2, "greatestGeneration", "()I"⟩
abbrev cX2_storiesWith : ByteArray := prog_4_method_33_code
def yX2_storiesWith : MethodName := ⟨RX2, "storiesWith", "(I)I"⟩
abbrev cX2_storiesOfTheme : ByteArray := prog_4_method_34_code
def yX2_storiesOfTheme : MethodName := ⟨RX2, "storiesOfTheme", "(I)I"⟩
abbrev cX2_heatOfLetter : ByteArray := prog_4_method_35_code
def yX2_heatOfLetter : MethodName := ⟨RX2, "heatOfLetter", "(I)I"⟩
abbrev cX2_isPair : ByteArray := prog_4_method_36_code
def yX2_isPair : MethodName := ⟨RX2, "isPair", "(III)Z"⟩
def RX3 : String := "HeatedStories"
def TX3 : u_T := fun k => match k with
  | 0 => ("HeatedStories", "now", "LHeatedStories$Shelf;", true)
  | 1 => ("HeatedStories", "trial", "LHeatedStories$Shelf;", true)
  | 2 => ("HeatedStories", "history", "LHeatedStories$History;", true)
  | 3 => ("HeatedStories", "slots", "[LHeatedStories$Shelf;", true)
  | 4 => ("HeatedStories", "saved", "[Z", true)
  | 5 => ("HeatedStories", "pad", "LHeatedStories$Pad;", true)
  | 6 => ("HeatedStories", "runs", "[I", true)
  | 7 => ("HeatedStories", "themes", "[I", true)
  | _ => ("HeatedStories", "storyHeats", "[I", true)
def tyX3 : Nat → FieldType := fun k => match k with
  | 0 => .object "HeatedStories$Shelf"
  | 1 => .object "HeatedStories$Shelf"
  | 2 => .object "HeatedStories$History"
  | 3 => .array (.object "HeatedStories$Shelf")
  | 4 => .array .boolean
  | 5 => .object "HeatedStories$Pad"
  | 6 => .array .int
  | 7 => .array .int
  | _ => .array .int
abbrev wsX30 : List Cond := u_ws RX3 TX3 9
theorem nmX3 : ∀ a, a < 9 → ∀ b, b < 9 → a ≠ b → (TX3 a).2.1 ≠ (TX3 b).2.1 := by decide +kernel
theorem tyX3_ok : ∀ k, k < 9 → parseFieldDescriptor (TX3 k).2.2.1 = some (tyX3 k) := by decide +kernel
abbrev cX3_init : ByteArray := prog_1_method_1_code
def yX3_init : MethodName := ⟨RX3, "<init>", "()V"⟩
abbrev cX3_set : ByteArray := prog_1_method_2_code
def yX3_set : MethodName := ⟨RX3, "set", "(II)I"⟩
abbrev cX3_write : ByteArray := prog_1_method_3_code
def yX3_write : MethodName := ⟨RX3, "write", "()I"⟩
abbrev cX3_heat : ByteArray := prog_1_method_4_code
def yX3_heat : MethodName := ⟨RX3, "heat", "(III)I"⟩
abbrev cX3_read : ByteArray := prog_1_method_5_code
def yX3_read : MethodName := ⟨RX3, "read", "(II)I"⟩
abbrev cX3_fuse : ByteArray := prog_1_method_6_code
def yX3_fuse : MethodName := ⟨RX3, "fuse", "(II)I"⟩
abbrev cX3_pass : ByteArray := prog_1_method_7_code
def yX3_pass : MethodName := ⟨RX3, "pass", "(I)I"⟩
abbrev cX3_burn : ByteArray := prog_1_method_8_code
def yX3_burn : MethodName := ⟨RX3, "burn", "(I)I"⟩
abbrev cX3_word : ByteArray := prog_1_method_9_code
def yX3_word : MethodName := ⟨RX3, "word", "(III)I"⟩
abbrev cX3_story : ByteArray := prog_1_method_10_code
def yX3_story : MethodName := ⟨RX3, "story", "(II)I"⟩
abbrev cX3_count : ByteArray := prog_1_method_11_code
def yX3_count : MethodName := ⟨RX3, "count", "(I)I"⟩
abbrev cX3_letter : ByteArray := prog_1_method_12_code
def yX3_letter : MethodName := ⟨RX3, "letter", "(II)I"⟩
abbrev cX3_sideBySide : ByteArray := prog_1_method_13_code
def yX3_sideBySide : MethodName := ⟨RX3, "sideBySide", "(III)I"⟩
abbrev cX3_common : ByteArray := prog_1_method_14_code
def yX3_common : MethodName := ⟨RX3, "common", "(II)I"⟩
abbrev cX3_ifHeated : ByteArray := prog_1_method_15_code
def yX3_ifHeated : MethodName := ⟨RX3, "ifHeated", "(IIII)I"⟩
abbrev cX3_critical : ByteArray := prog_1_method_16_code
def yX3_critical : MethodName := ⟨RX3, "critical", "(II)I"⟩
abbrev cX3_touchiest : ByteArray := prog_1_method_17_code
def yX3_touchiest : MethodName := ⟨RX3, "touchiest", "(II)I"⟩
abbrev cX3_coolestPair : ByteArray := prog_1_method_18_code
def yX3_coolestPair : MethodName := ⟨RX3, "coolestPair", "(I)I"⟩
abbrev cX3_put : ByteArray := prog_1_method_19_code
def yX3_put : MethodName := ⟨RX3, "put", "(J)I"⟩
abbrev cX3_wipe : ByteArray := prog_1_method_20_code
def yX3_wipe : MethodName := ⟨RX3, "wipe", "()I"⟩
abbrev cX3_fault : ByteArray := prog_1_method_21_code
def yX3_fault : MethodName := ⟨RX3, "fault", "()I"⟩
abbrev cX3_undo : ByteArray := prog_1_method_22_code
def yX3_undo : MethodName := ⟨RX3, "undo", "()I"⟩
abbrev cX3_save : ByteArray := prog_1_method_23_code
def yX3_save : MethodName := ⟨RX3, "save", "(I)I"⟩
abbrev cX3_restore : ByteArray := prog_1_method_24_code
def yX3_restore : MethodName := ⟨RX3, "restore", "(I)I"⟩
abbrev cX3_tryHeating : ByteArray := prog_1_method_25_code
def yX3_tryHeating : MethodName := ⟨RX3, "tryHeating", "(II)I"⟩
abbrev cX3_isWithin : ByteArray := prog_1_method_26_code
def yX3_isWithin : MethodName := ⟨RX3, "isWithin", "(III)Z"⟩
abbrev cX3_isLetter : ByteArray := prog_1_method_27_code
def yX3_isLetter : MethodName := ⟨RX3, "isLetter", "(I)Z"⟩
def RX4 : String := "HeatedStoriesModel"
def TX4 : u_T := fun k => match k with
  | 0 => ("HeatedStoriesModel", "s", "[I", true)
  | 1 => ("HeatedStoriesModel", "aside", "[I", true)
  | 2 => ("HeatedStoriesModel", "before", "[I", true)
  | 3 => ("HeatedStoriesModel", "known", "I", false)
  | 4 => ("HeatedStoriesModel", "slots", "[I", true)
  | 5 => ("HeatedStoriesModel", "isSaved", "[Z", true)
  | 6 => ("HeatedStoriesModel", "pad", "[I", true)
  | 7 => ("HeatedStoriesModel", "length", "I", false)
  | 8 => ("HeatedStoriesModel", "letters", "[I", true)
  | 9 => ("HeatedStoriesModel", "heats", "[I", true)
  | 10 => ("HeatedStoriesModel", "reactions", "I", false)
  | 11 => ("HeatedStoriesModel", "newSplits", "I", false)
  | 12 => ("HeatedStoriesModel", "storiesThen", "I", false)
  | 13 => ("HeatedStoriesModel", "heatThen", "I", false)
  | 14 => ("HeatedStoriesModel", "place", "I", false)
  | 15 => ("HeatedStoriesModel", "isWrong", "Z", false)
  | 16 => ("HeatedStoriesModel", "toldLetter", "[I", true)
  | 17 => ("HeatedStoriesModel", "toldHeat", "[I", true)
  | 18 => ("HeatedStoriesModel", "toldStory", "[I", true)
  | 19 => ("HeatedStoriesModel", "toldWords", "I", false)
  | _ => ("HeatedStoriesModel", "toldStories", "I", false)
def tyX4 : Nat → FieldType := fun k => match k with
  | 0 => .array .int
  | 1 => .array .int
  | 2 => .array .int
  | 3 => .int
  | 4 => .array .int
  | 5 => .array .boolean
  | 6 => .array .int
  | 7 => .int
  | 8 => .array .int
  | 9 => .array .int
  | 10 => .int
  | 11 => .int
  | 12 => .int
  | 13 => .int
  | 14 => .int
  | 15 => .boolean
  | 16 => .array .int
  | 17 => .array .int
  | 18 => .array .int
  | 19 => .int
  | _ => .int
abbrev wsX40 : List Cond := u_ws RX4 TX4 21
theorem nmX4 : ∀ a, a < 21 → ∀ b, b < 21 → a ≠ b → (TX4 a).2.1 ≠ (TX4 b).2.1 := by decide +kernel
theorem tyX4_ok : ∀ k, k < 21 → parseFieldDescriptor (TX4 k).2.2.1 = some (tyX4 k) := by decide +kernel
abbrev cX4_init : ByteArray := prog_6_method_1_code
def yX4_init : MethodName := ⟨RX4, "<init>", "()V"⟩
abbrev cX4_in : ByteArray := prog_6_method_3_code
def yX4_in : MethodName := ⟨RX4, "in", "(III)Z"⟩
abbrev cX4_isStory : ByteArray := prog_6_method_4_code
def yX4_isStory : MethodName := ⟨RX4, "isStory", "(I)Z"⟩
abbrev cX4_isWord : ByteArray := prog_6_method_5_code
def yX4_isWord : MethodName := ⟨RX4, "isWord", "(II)Z"⟩
abbrev cX4_first : ByteArray := prog_6_method_6_code
def yX4_first : MethodName := ⟨RX4, "first", "(I)I"⟩
abbrev cX4_know : ByteArray := prog_6_method_7_code
def yX4_know : MethodName := ⟨RX4, "know", "()V"⟩
abbrev cX4_putAside : ByteArray := prog_6_method_8_code
def yX4_putAside : MethodName := ⟨RX4, "putAside", "()V"⟩
abbrev cX4_putBack : ByteArray := prog_6_method_9_code
def yX4_putBack : MethodName := ⟨RX4, "putBack", "()V"⟩
abbrev cX4_warm : ByteArray := prog_6_method_10_code
def yX4_warm : MethodName := ⟨RX4, "warm", "(II)V"⟩
abbrev cX4_storyOf : ByteArray := prog_6_method_11_code
def yX4_storyOf : MethodName := ⟨RX4, "storyOf", "(I)I"⟩
abbrev cX4_split : ByteArray := prog_6_method_12_code
def yX4_split : MethodName := ⟨RX4, "split", "(II)V"⟩
abbrev cX4_reactOne : ByteArray := prog_6_method_13_code
def yX4_reactOne : MethodName := ⟨RX4, "reactOne", "(I)V"⟩
abbrev cX4_react : ByteArray := prog_6_method_14_code
def yX4_react : MethodName := ⟨RX4, "react", "()I"⟩
abbrev cX4_removeStory : ByteArray := prog_6_method_15_code
def yX4_removeStory : MethodName := ⟨RX4, "removeStory", "(I)V"⟩
abbrev cX4_removeWords : ByteArray := prog_6_method_16_code
def yX4_removeWords : MethodName := ⟨RX4, "removeWords", "(II)V"⟩
abbrev cX4_times : ByteArray := prog_6_method_17_code
def yX4_times : MethodName := ⟨RX4, "times", "(II)I"⟩
abbrev cX4_theme : ByteArray := prog_6_method_18_code
def yX4_theme : MethodName := ⟨RX4, "theme", "(I)I"⟩
abbrev cX4_heatOf : ByteArray := prog_6_method_19_code
def yX4_heatOf : MethodName := ⟨RX4, "heatOf", "(I)I"⟩
abbrev cX4_allHeat : ByteArray := prog_6_method_20_code
def yX4_allHeat : MethodName := ⟨RX4, "allHeat", "()I"⟩
abbrev cX4_set : ByteArray := prog_6_method_21_code
def yX4_set : MethodName := ⟨RX4, "set", "(II)I"⟩
abbrev cX4_heat : ByteArray := prog_6_method_22_code
def yX4_heat : MethodName := ⟨RX4, "heat", "(III)I"⟩
abbrev cX4_read : ByteArray := prog_6_method_23_code
def yX4_read : MethodName := ⟨RX4, "read", "(II)I"⟩
abbrev cX4_fuse : ByteArray := prog_6_method_24_code
def yX4_fuse : MethodName := ⟨RX4, "fuse", "(II)I"⟩
abbrev cX4_pass : ByteArray := prog_6_method_25_code
def yX4_pass : MethodName := ⟨RX4, "pass", "(I)I"⟩
abbrev cX4_burn : ByteArray := prog_6_method_26_code
def yX4_burn : MethodName := ⟨RX4, "burn", "(I)I"⟩
abbrev cX4_word : ByteArray := prog_6_method_27_code
def yX4_word : MethodName := ⟨RX4, "word", "(III)I"⟩
abbrev cX4_hottest : ByteArray := prog_6_method_28_code
def yX4_hottest : MethodName := ⟨RX4, "hottest", "(I)I"⟩
abbrev cX4_unlike : ByteArray := prog_6_method_29_code
def yX4_unlike : MethodName := ⟨RX4, "unlike", "(I)I"⟩
abbrev cX4_isSameBackwards : ByteArray := prog_6_method_30_code
def yX4_isSameBackwards : MethodName := ⟨RX4, "isSameBackwards", "(I)I"⟩
abbrev cX4_story : ByteArray := prog_6_method_31_code
def yX4_story : MethodName := ⟨RX4, "story", "(II)I"⟩
abbrev cX4_families : ByteArray := prog_6_method_32_code
def yX4_families : MethodName := ⟨RX4, "families", "()I"⟩
abbrev cX4_greatest : ByteArray := prog_6_method_33_code
def yX4_greatest : MethodName := ⟨RX4, "greatest", "()I"⟩
abbrev cX4_count : ByteArray := prog_6_method_34_code
def yX4_count : MethodName := ⟨RX4, "count", "(I)I"⟩
abbrev cX4_letter : ByteArray := prog_6_method_35_code
def yX4_letter : MethodName := ⟨RX4, "letter", "(II)I"⟩
abbrev cX4_sideBySide : ByteArray := prog_6_method_36_code
def yX4_sideBySide : MethodName := ⟨RX4, "sideBySide", "(III)I"⟩
abbrev cX4_common : ByteArray := prog_6_method_37_code
def yX4_common : MethodName := ⟨RX4, "common", "(II)I"⟩
abbrev cX4_tryHeat : ByteArray := prog_6_method_38_code
def yX4_tryHeat : MethodName := ⟨RX4, "tryHeat", "(II)V"⟩
abbrev cX4_ifHeated : ByteArray := prog_6_method_39_code
def yX4_ifHeated : MethodName := ⟨RX4, "ifHeated", "(IIII)I"⟩
abbrev cX4_critical : ByteArray := prog_6_method_40_code
def yX4_critical : MethodName := ⟨RX4, "critical", "(II)I"⟩
abbrev cX4_touchiest : ByteArray := prog_6_method_41_code
def yX4_touchiest : MethodName := ⟨RX4, "touchiest", "(II)I"⟩
abbrev cX4_coolestPair : ByteArray := prog_6_method_42_code
def yX4_coolestPair : MethodName := ⟨RX4, "coolestPair", "(I)I"⟩
abbrev cX4_put : ByteArray := prog_6_method_43_code
def yX4_put : MethodName := ⟨RX4, "put", "(J)I"⟩
abbrev cX4_wipe : ByteArray := prog_6_method_44_code
def yX4_wipe : MethodName := ⟨RX4, "wipe", "()I"⟩
abbrev cX4_sign : ByteArray := prog_6_method_45_code
def yX4_sign : MethodName := ⟨RX4, "sign", "(II)I"⟩
abbrev cX4_isNext : ByteArray := prog_6_method_46_code
def yX4_isNext : MethodName := ⟨RX4, "isNext", "(II)Z"⟩
abbrev cX4_readPad : ByteArray := prog_6_method_47_code
def yX4_readPad : MethodName := ⟨RX4, "readPad", "()V"⟩
abbrev cX4_fault : ByteArray := prog_6_method_48_code
def yX4_fault : MethodName := ⟨RX4, "fault", "()I"⟩
abbrev cX4_write : ByteArray := prog_6_method_49_code
def yX4_write : MethodName := ⟨RX4, "write", "()I"⟩
abbrev cX4_undo : ByteArray := prog_6_method_50_code
def yX4_undo : MethodName := ⟨RX4, "undo", "()I"⟩
abbrev cX4_save : ByteArray := prog_6_method_51_code
def yX4_save : MethodName := ⟨RX4, "save", "(I)I"⟩
abbrev cX4_restore : ByteArray := prog_6_method_52_code
def yX4_restore : MethodName := ⟨RX4, "restore", "(I)I"⟩
def RJ9 : String := "java/lang/Math"
def TJ9 : u_T := fun k => match k with
  | _ => ("", "", "", false)
def tyJ9 : Nat → FieldType := fun k => match k with
  | _ => .int
abbrev wsJ90 : List Cond := u_ws RJ9 TJ9 0
theorem nmJ9 : ∀ a, a < 0 → ∀ b, b < 0 → a ≠ b → (TJ9 a).2.1 ≠ (TJ9 b).2.1 := by decide +kernel
theorem tyJ9_ok : ∀ k, k < 0 → parseFieldDescriptor (TJ9 k).2.2.1 = some (tyJ9 k) := by decide +kernel
abbrev cJ9_max_7cf53 : ByteArray := prog_7_method_65_code
def yJ9_max_7cf53 : MethodName := ⟨RJ9, "max", "(II)I"⟩
abbrev cJ9_min_7cf53 : ByteArray := prog_7_method_69_code
def yJ9_min_7cf53 : MethodName := ⟨RJ9, "min", "(II)I"⟩
def RJ10 : String := "java/lang/System"
def TJ10 : u_T := fun k => match k with
  | _ => ("", "", "", false)
def tyJ10 : Nat → FieldType := fun k => match k with
  | _ => .int
abbrev wsJ100 : List Cond := u_ws RJ10 TJ10 0
theorem nmJ10 : ∀ a, a < 0 → ∀ b, b < 0 → a ≠ b → (TJ10 a).2.1 ≠ (TJ10 b).2.1 := by decide +kernel
theorem tyJ10_ok : ∀ k, k < 0 → parseFieldDescriptor (TJ10 k).2.2.1 = some (tyJ10 k) := by decide +kernel
def RJ7 : String := "java/util/Arrays"
def TJ7 : u_T := fun k => match k with
  | _ => ("", "", "", false)
def tyJ7 : Nat → FieldType := fun k => match k with
  | _ => .int
abbrev wsJ70 : List Cond := u_ws RJ7 TJ7 0
theorem nmJ7 : ∀ a, a < 0 → ∀ b, b < 0 → a ≠ b → (TJ7 a).2.1 ≠ (TJ7 b).2.1 := by decide +kernel
theorem tyJ7_ok : ∀ k, k < 0 → parseFieldDescriptor (TJ7 k).2.2.1 = some (tyJ7 k) := by decide +kernel
abbrev cJ7_fill_53178 : ByteArray := prog_9_method_103_code
def yJ7_fill_53178 : MethodName := ⟨RJ7, "fill", "([II)V"⟩
def RL : String := "HeatedStoriesLaw"
abbrev cL_law : ByteArray := code
def yL_law : MethodName := ⟨RL, "law", "([I)Z"⟩
def wsX2_init : List Cond := .code yX2_init cX2_init 1 none :: ([.methodLink RX2 3 objectInit, .instanceMethod objectInit, .code objectInit ⟨#[0xb1]⟩ 1 none, .arrayClass .int, .fieldLink RX2 9 "HeatedStories$Shelf" "settings" "[I", .fieldLink RX2 15 "HeatedStories$Shelf" "letters" "[I", .fieldLink RX2 18 "HeatedStories$Shelf" "heats" "[I", .fieldLink RX2 21 "HeatedStories$Shelf" "starts" "[I", .fieldLink RX2 24 "HeatedStories$Shelf" "families" "[I", .fieldLink RX2 27 "HeatedStories$Shelf" "generations" "[I", .fieldLink RX2 30 "HeatedStories$Shelf" "tally" "[I"] ++ wsX20)
def wsX0_init : List Cond := .code yX0_init cX0_init 2 none :: ([.methodLink RX0 3 objectInit, .instanceMethod objectInit, .code objectInit ⟨#[0xb1]⟩ 1 none, .classLink RX0 9 RX2, .fieldLink RX0 11 "HeatedStories$History" "states" "[LHeatedStories$Shelf;", .instantiable RX2 12, .initialized RX2, .instanceMethod yX2_init, .code yX2_init cX2_init 1 none, .methodLink RX2 3 objectInit, .arrayClass .int, .fieldLink RX2 9 "HeatedStories$Shelf" "settings" "[I", .fieldLink RX2 15 "HeatedStories$Shelf" "letters" "[I", .fieldLink RX2 18 "HeatedStories$Shelf" "heats" "[I", .fieldLink RX2 21 "HeatedStories$Shelf" "starts" "[I", .fieldLink RX2 24 "HeatedStories$Shelf" "families" "[I", .fieldLink RX2 27 "HeatedStories$Shelf" "generations" "[I", .fieldLink RX2 30 "HeatedStories$Shelf" "tally" "[I"] ++ wsX00 ++ wsX20)
def wsX2_words : List Cond := .code yX2_words cX2_words 1 (some .int) :: ([.fieldLink RX2 21 "HeatedStories$Shelf" "starts" "[I", .fieldLink RX2 43 "HeatedStories$Shelf" "stories" "I"] ++ wsX20)
def wsX2_copyFrom : List Cond := .code yX2_copyFrom cX2_copyFrom 3 none :: ([.fieldLink RX2 9 "HeatedStories$Shelf" "settings" "[I", .methodLink RX2 37 arraycopyName, .native arraycopyName, .static arraycopyName, .initialized "java/lang/System", .fieldLink RX2 15 "HeatedStories$Shelf" "letters" "[I", .fieldLink RX2 18 "HeatedStories$Shelf" "heats" "[I", .fieldLink RX2 21 "HeatedStories$Shelf" "starts" "[I", .fieldLink RX2 43 "HeatedStories$Shelf" "stories" "I", .fieldLink RX2 24 "HeatedStories$Shelf" "families" "[I", .fieldLink RX2 27 "HeatedStories$Shelf" "generations" "[I", .fieldLink RX2 47 "HeatedStories$Shelf" "nextFamily" "I", .fieldLink RX2 50 "HeatedStories$Shelf" "splits" "I", .fieldLink RX2 53 "HeatedStories$Shelf" "boilings" "I", .fieldLink RX2 56 "HeatedStories$Shelf" "fizzles" "I", .methodLink RX2 33 yX2_words, .instanceMethod yX2_words, .selects RX2 yX2_words yX2_words, .initialized RX2, .code yX2_words cX2_words 1 (some .int)] ++ wsX20)
def wsX0_record_r1 : List Cond := [Cond.fieldLink RX0 11 "HeatedStories$History" "states" "[LHeatedStories$Shelf;", Cond.fieldLink RX0 18 "HeatedStories$History" "oldest" "I", Cond.fieldLink RX0 22 "HeatedStories$History" "size" "I", Cond.methodLink RX0 25 yX2_copyFrom, Cond.instanceMethod yX2_copyFrom, Cond.selects RX2 yX2_copyFrom yX2_copyFrom, Cond.initialized RX2, Cond.code yX2_copyFrom cX2_copyFrom 3 none, Cond.fieldLink RX2 9 "HeatedStories$Shelf" "settings" "[I", Cond.methodLink RX2 37 arraycopyName, Cond.native arraycopyName, Cond.static arraycopyName, Cond.initialized "java/lang/System", Cond.fieldLink RX2 15 "HeatedStories$Shelf" "letters" "[I", Cond.fieldLink RX2 18 "HeatedStories$Shelf" "heats" "[I", Cond.fieldLink RX2 21 "HeatedStories$Shelf" "starts" "[I", Cond.fieldLink RX2 43 "HeatedStories$Shelf" "stories" "I", Cond.fieldLink RX2 24 "HeatedStories$Shelf" "families" "[I", Cond.fieldLink RX2 27 "HeatedStories$Shelf" "generations" "[I", Cond.fieldLink RX2 47 "HeatedStories$Shelf" "nextFamily" "I", Cond.fieldLink RX2 50 "HeatedStories$Shelf" "splits" "I", Cond.fieldLink RX2 53 "HeatedStories$Shelf" "boilings" "I", Cond.fieldLink RX2 56 "HeatedStories$Shelf" "fizzles" "I", Cond.methodLink RX2 33 yX2_words]
def wsX0_record_r2 : List Cond := [Cond.instanceMethod yX2_words, Cond.selects RX2 yX2_words yX2_words, Cond.code yX2_words cX2_words 1 (some .int)]
def wsX0_record : List Cond := .code yX0_record cX0_record 2 none :: ((wsX0_record_r1 ++ wsX0_record_r2) ++ wsX00 ++ wsX20)
def wsX0_takeBack_r1 : List Cond := [Cond.fieldLink RX0 22 "HeatedStories$History" "size" "I", Cond.fieldLink RX0 11 "HeatedStories$History" "states" "[LHeatedStories$Shelf;", Cond.fieldLink RX0 18 "HeatedStories$History" "oldest" "I", Cond.methodLink RX0 25 yX2_copyFrom, Cond.instanceMethod yX2_copyFrom, Cond.selects RX2 yX2_copyFrom yX2_copyFrom, Cond.initialized RX2, Cond.code yX2_copyFrom cX2_copyFrom 3 none, Cond.fieldLink RX2 9 "HeatedStories$Shelf" "settings" "[I", Cond.methodLink RX2 37 arraycopyName, Cond.native arraycopyName, Cond.static arraycopyName, Cond.initialized "java/lang/System", Cond.fieldLink RX2 15 "HeatedStories$Shelf" "letters" "[I", Cond.fieldLink RX2 18 "HeatedStories$Shelf" "heats" "[I", Cond.fieldLink RX2 21 "HeatedStories$Shelf" "starts" "[I", Cond.fieldLink RX2 43 "HeatedStories$Shelf" "stories" "I", Cond.fieldLink RX2 24 "HeatedStories$Shelf" "families" "[I", Cond.fieldLink RX2 27 "HeatedStories$Shelf" "generations" "[I", Cond.fieldLink RX2 47 "HeatedStories$Shelf" "nextFamily" "I", Cond.fieldLink RX2 50 "HeatedStories$Shelf" "splits" "I", Cond.fieldLink RX2 53 "HeatedStories$Shelf" "boilings" "I", Cond.fieldLink RX2 56 "HeatedStories$Shelf" "fizzles" "I", Cond.methodLink RX2 33 yX2_words]
def wsX0_takeBack_r2 : List Cond := [Cond.instanceMethod yX2_words, Cond.selects RX2 yX2_words yX2_words, Cond.code yX2_words cX2_words 1 (some .int)]
def wsX0_takeBack : List Cond := .code yX0_takeBack cX0_takeBack 2 none :: ((wsX0_takeBack_r1 ++ wsX0_takeBack_r2) ++ wsX00 ++ wsX20)
def wsX1_init : List Cond := .code yX1_init cX1_init 1 none :: ([.methodLink RX1 3 objectInit, .instanceMethod objectInit, .code objectInit ⟨#[0xb1]⟩ 1 none, .arrayClass .char, .fieldLink RX1 11 "HeatedStories$Pad" "characters" "[C"] ++ wsX10)
def wsX3_isWithin : List Cond := .code yX3_isWithin cX3_isWithin 3 (some .boolean) :: ([])
def wsX1_charactersIn : List Cond := .code yX1_charactersIn cX1_charactersIn 5 (some .int) :: ([.constantLong RX1 15 (255), .static yX3_isWithin, .initialized RX3, .code yX3_isWithin cX3_isWithin 3 (some .boolean)])
def wsX1_add : List Cond := .code yX1_add cX1_add 5 none :: ([.fieldLink RX1 11 "HeatedStories$Pad" "characters" "[C", .fieldLink RX1 21 "HeatedStories$Pad" "length" "I", .constantLong RX1 15 (255)] ++ wsX10)
def wsX1_isWord : List Cond := .code yX1_isWord cX1_isWord 1 (some .boolean) :: ([.static yX3_isWithin, .initialized RX3, .code yX3_isWithin cX3_isWithin 3 (some .boolean)])
def wsX1_placeBehind : List Cond := .code yX1_placeBehind cX1_placeBehind 2 (some .int) :: ([.methodLink RX1 29 yX1_isWord, .static yX1_isWord, .initialized RX1, .code yX1_isWord cX1_isWord 1 (some .boolean), .static yX3_isWithin, .initialized RX3, .code yX3_isWithin cX3_isWithin 3 (some .boolean)])
def wsX1_firstFault : List Cond := .code yX1_firstFault cX1_firstFault 3 (some .int) :: ([.fieldLink RX1 21 "HeatedStories$Pad" "length" "I", .fieldLink RX1 11 "HeatedStories$Pad" "characters" "[C", .methodLink RX1 25 yX1_placeBehind, .static yX1_placeBehind, .initialized RX1, .code yX1_placeBehind cX1_placeBehind 2 (some .int), .methodLink RX1 29 yX1_isWord, .static yX1_isWord, .code yX1_isWord cX1_isWord 1 (some .boolean), .static yX3_isWithin, .initialized RX3, .code yX3_isWithin cX3_isWithin 3 (some .boolean)] ++ wsX10)
def wsX1_storiesIn : List Cond := .code yX1_storiesIn cX1_storiesIn 3 (some .int) :: ([.fieldLink RX1 21 "HeatedStories$Pad" "length" "I", .fieldLink RX1 11 "HeatedStories$Pad" "characters" "[C"] ++ wsX10)
def wsX1_wordsIn : List Cond := .code yX1_wordsIn cX1_wordsIn 3 (some .int) :: ([.fieldLink RX1 21 "HeatedStories$Pad" "length" "I", .fieldLink RX1 11 "HeatedStories$Pad" "characters" "[C", .methodLink RX1 29 yX1_isWord, .static yX1_isWord, .initialized RX1, .code yX1_isWord cX1_isWord 1 (some .boolean), .static yX3_isWithin, .initialized RX3, .code yX3_isWithin cX3_isWithin 3 (some .boolean)] ++ wsX10)
def wsX2_addStory : List Cond := .code yX2_addStory cX2_addStory 1 none :: ([.fieldLink RX2 24 "HeatedStories$Shelf" "families" "[I", .fieldLink RX2 43 "HeatedStories$Shelf" "stories" "I", .fieldLink RX2 47 "HeatedStories$Shelf" "nextFamily" "I", .fieldLink RX2 27 "HeatedStories$Shelf" "generations" "[I", .fieldLink RX2 21 "HeatedStories$Shelf" "starts" "[I"] ++ wsX20)
def wsX2_addWord : List Cond := .code yX2_addWord cX2_addWord 3 none :: ([.fieldLink RX2 15 "HeatedStories$Shelf" "letters" "[I", .fieldLink RX2 18 "HeatedStories$Shelf" "heats" "[I", .fieldLink RX2 21 "HeatedStories$Shelf" "starts" "[I", .fieldLink RX2 43 "HeatedStories$Shelf" "stories" "I", .methodLink RX2 33 yX2_words, .instanceMethod yX2_words, .selects RX2 yX2_words yX2_words, .initialized RX2, .code yX2_words cX2_words 1 (some .int)] ++ wsX20)
def wsX2_addDigit : List Cond := .code yX2_addDigit cX2_addDigit 3 none :: ([.fieldLink RX2 18 "HeatedStories$Shelf" "heats" "[I", .methodLink RX2 33 yX2_words, .instanceMethod yX2_words, .selects RX2 yX2_words yX2_words, .initialized RX2, .code yX2_words cX2_words 1 (some .int), .fieldLink RX2 21 "HeatedStories$Shelf" "starts" "[I", .fieldLink RX2 43 "HeatedStories$Shelf" "stories" "I"] ++ wsX20)
def wsX1_writeTo_r1 : List Cond := [Cond.fieldLink RX1 21 "HeatedStories$Pad" "length" "I", Cond.fieldLink RX1 11 "HeatedStories$Pad" "characters" "[C", Cond.methodLink RX1 33 yX2_addStory, Cond.instanceMethod yX2_addStory, Cond.selects RX2 yX2_addStory yX2_addStory, Cond.initialized RX2, Cond.code yX2_addStory cX2_addStory 1 none, Cond.fieldLink RX2 24 "HeatedStories$Shelf" "families" "[I", Cond.fieldLink RX2 43 "HeatedStories$Shelf" "stories" "I", Cond.fieldLink RX2 47 "HeatedStories$Shelf" "nextFamily" "I", Cond.fieldLink RX2 27 "HeatedStories$Shelf" "generations" "[I", Cond.fieldLink RX2 21 "HeatedStories$Shelf" "starts" "[I", Cond.methodLink RX1 29 yX1_isWord, Cond.static yX1_isWord, Cond.initialized RX1, Cond.code yX1_isWord cX1_isWord 1 (some .boolean), Cond.static yX3_isWithin, Cond.initialized RX3, Cond.code yX3_isWithin cX3_isWithin 3 (some .boolean), Cond.methodLink RX1 38 yX2_addWord, Cond.instanceMethod yX2_addWord, Cond.selects RX2 yX2_addWord yX2_addWord, Cond.code yX2_addWord cX2_addWord 3 none, Cond.fieldLink RX2 15 "HeatedStories$Shelf" "letters" "[I"]
def wsX1_writeTo_r2 : List Cond := [Cond.fieldLink RX2 18 "HeatedStories$Shelf" "heats" "[I", Cond.methodLink RX2 33 yX2_words, Cond.instanceMethod yX2_words, Cond.selects RX2 yX2_words yX2_words, Cond.code yX2_words cX2_words 1 (some .int), Cond.methodLink RX1 42 yX2_addDigit, Cond.instanceMethod yX2_addDigit, Cond.selects RX2 yX2_addDigit yX2_addDigit, Cond.code yX2_addDigit cX2_addDigit 3 none]
def wsX1_writeTo : List Cond := .code yX1_writeTo cX1_writeTo 4 none :: ((wsX1_writeTo_r1 ++ wsX1_writeTo_r2) ++ wsX10 ++ wsX20)
def wsX2_hasStory : List Cond := .code yX2_hasStory cX2_hasStory 2 (some .boolean) :: ([.fieldLink RX2 43 "HeatedStories$Shelf" "stories" "I", .static yX3_isWithin, .initialized RX3, .code yX3_isWithin cX3_isWithin 3 (some .boolean)] ++ wsX20)
def wsX2_sizeOf : List Cond := .code yX2_sizeOf cX2_sizeOf 2 (some .int) :: ([.fieldLink RX2 21 "HeatedStories$Shelf" "starts" "[I"] ++ wsX20)
def wsX2_hasWord : List Cond := .code yX2_hasWord cX2_hasWord 3 (some .boolean) :: ([.methodLink RX2 63 yX2_hasStory, .instanceMethod yX2_hasStory, .selects RX2 yX2_hasStory yX2_hasStory, .initialized RX2, .code yX2_hasStory cX2_hasStory 2 (some .boolean), .fieldLink RX2 43 "HeatedStories$Shelf" "stories" "I", .static yX3_isWithin, .initialized RX3, .code yX3_isWithin cX3_isWithin 3 (some .boolean), .methodLink RX2 67 yX2_sizeOf, .instanceMethod yX2_sizeOf, .selects RX2 yX2_sizeOf yX2_sizeOf, .code yX2_sizeOf cX2_sizeOf 2 (some .int), .fieldLink RX2 21 "HeatedStories$Shelf" "starts" "[I"] ++ wsX20)
def wsX2_storyAt : List Cond := .code yX2_storyAt cX2_storyAt 3 (some .int) :: ([.fieldLink RX2 43 "HeatedStories$Shelf" "stories" "I", .fieldLink RX2 21 "HeatedStories$Shelf" "starts" "[I"] ++ wsX20)
def wsX2_placeOf : List Cond := .code yX2_placeOf cX2_placeOf 2 (some .int) :: ([.fieldLink RX2 21 "HeatedStories$Shelf" "starts" "[I", .methodLink RX2 71 yX2_storyAt, .instanceMethod yX2_storyAt, .selects RX2 yX2_storyAt yX2_storyAt, .initialized RX2, .code yX2_storyAt cX2_storyAt 3 (some .int), .fieldLink RX2 43 "HeatedStories$Shelf" "stories" "I"] ++ wsX20)
def wsX2_warm : List Cond := .code yX2_warm cX2_warm 3 none :: ([.fieldLink RX2 18 "HeatedStories$Shelf" "heats" "[I", .methodLink RX2 74 Lib.Math.min.name, .static Lib.Math.min.name, .initialized "java/lang/Math", .code Lib.Math.min.name Lib.Math.min.code 2 (some .int)] ++ wsX20)
def wsX2_remove : List Cond := .code yX2_remove cX2_remove 7 none :: ([.fieldLink RX2 21 "HeatedStories$Shelf" "starts" "[I", .fieldLink RX2 43 "HeatedStories$Shelf" "stories" "I", .fieldLink RX2 15 "HeatedStories$Shelf" "letters" "[I", .methodLink RX2 37 arraycopyName, .native arraycopyName, .static arraycopyName, .initialized "java/lang/System", .fieldLink RX2 18 "HeatedStories$Shelf" "heats" "[I", .fieldLink RX2 24 "HeatedStories$Shelf" "families" "[I", .fieldLink RX2 27 "HeatedStories$Shelf" "generations" "[I", .methodLink RX2 33 yX2_words, .instanceMethod yX2_words, .selects RX2 yX2_words yX2_words, .initialized RX2, .code yX2_words cX2_words 1 (some .int)] ++ wsX20)
def wsX2_append : List Cond := .code yX2_append cX2_append 9 none :: ([.fieldLink RX2 21 "HeatedStories$Shelf" "starts" "[I", .fieldLink RX2 15 "HeatedStories$Shelf" "letters" "[I", .methodLink RX2 37 arraycopyName, .native arraycopyName, .static arraycopyName, .initialized "java/lang/System", .fieldLink RX2 18 "HeatedStories$Shelf" "heats" "[I", .fieldLink RX2 43 "HeatedStories$Shelf" "stories" "I", .methodLink RX2 67 yX2_sizeOf, .instanceMethod yX2_sizeOf, .selects RX2 yX2_sizeOf yX2_sizeOf, .initialized RX2, .code yX2_sizeOf cX2_sizeOf 2 (some .int), .methodLink RX2 33 yX2_words, .instanceMethod yX2_words, .selects RX2 yX2_words yX2_words, .code yX2_words cX2_words 1 (some .int)] ++ wsX20)
def wsX2_isCalm : List Cond := .code yX2_isCalm cX2_isCalm 2 (some .boolean) :: ([.fieldLink RX2 18 "HeatedStories$Shelf" "heats" "[I", .fieldLink RX2 9 "HeatedStories$Shelf" "settings" "[I", .methodLink RX2 33 yX2_words, .instanceMethod yX2_words, .selects RX2 yX2_words yX2_words, .initialized RX2, .code yX2_words cX2_words 1 (some .int), .fieldLink RX2 21 "HeatedStories$Shelf" "starts" "[I", .fieldLink RX2 43 "HeatedStories$Shelf" "stories" "I"] ++ wsX20)
def wsX2_split : List Cond := .code yX2_split cX2_split 4 none :: ([.fieldLink RX2 43 "HeatedStories$Shelf" "stories" "I", .fieldLink RX2 21 "HeatedStories$Shelf" "starts" "[I", .methodLink RX2 37 arraycopyName, .native arraycopyName, .static arraycopyName, .initialized "java/lang/System", .fieldLink RX2 24 "HeatedStories$Shelf" "families" "[I", .fieldLink RX2 27 "HeatedStories$Shelf" "generations" "[I"] ++ wsX20)
def wsX2_reactAt_r1 : List Cond := [Cond.fieldLink RX2 21 "HeatedStories$Shelf" "starts" "[I", Cond.fieldLink RX2 53 "HeatedStories$Shelf" "boilings" "I", Cond.fieldLink RX2 43 "HeatedStories$Shelf" "stories" "I", Cond.fieldLink RX2 50 "HeatedStories$Shelf" "splits" "I", Cond.fieldLink RX2 56 "HeatedStories$Shelf" "fizzles" "I", Cond.fieldLink RX2 18 "HeatedStories$Shelf" "heats" "[I", Cond.fieldLink RX2 9 "HeatedStories$Shelf" "settings" "[I", Cond.methodLink RX2 71 yX2_storyAt, Cond.instanceMethod yX2_storyAt, Cond.selects RX2 yX2_storyAt yX2_storyAt, Cond.initialized RX2, Cond.code yX2_storyAt cX2_storyAt 3 (some .int), Cond.methodLink RX2 88 yX2_split, Cond.instanceMethod yX2_split, Cond.selects RX2 yX2_split yX2_split, Cond.code yX2_split cX2_split 4 none, Cond.methodLink RX2 37 arraycopyName, Cond.native arraycopyName, Cond.static arraycopyName, Cond.initialized "java/lang/System", Cond.fieldLink RX2 24 "HeatedStories$Shelf" "families" "[I", Cond.fieldLink RX2 27 "HeatedStories$Shelf" "generations" "[I", Cond.methodLink RX2 92 yX2_warm, Cond.instanceMethod yX2_warm]
def wsX2_reactAt_r2 : List Cond := [Cond.selects RX2 yX2_warm yX2_warm, Cond.code yX2_warm cX2_warm 3 none, Cond.methodLink RX2 74 Lib.Math.min.name, Cond.static Lib.Math.min.name, Cond.initialized "java/lang/Math", Cond.code Lib.Math.min.name Lib.Math.min.code 2 (some .int)]
def wsX2_reactAt : List Cond := .code yX2_reactAt cX2_reactAt 5 none :: ((wsX2_reactAt_r1 ++ wsX2_reactAt_r2) ++ wsX20)
def wsX2_react_r1 : List Cond := [Cond.constant RX2 80 (1000000), Cond.fieldLink RX2 18 "HeatedStories$Shelf" "heats" "[I", Cond.fieldLink RX2 9 "HeatedStories$Shelf" "settings" "[I", Cond.methodLink RX2 85 Lib.Math.max.name, Cond.static Lib.Math.max.name, Cond.initialized "java/lang/Math", Cond.code Lib.Math.max.name Lib.Math.max.code 2 (some .int), Cond.methodLink RX2 33 yX2_words, Cond.instanceMethod yX2_words, Cond.selects RX2 yX2_words yX2_words, Cond.initialized RX2, Cond.code yX2_words cX2_words 1 (some .int), Cond.fieldLink RX2 21 "HeatedStories$Shelf" "starts" "[I", Cond.fieldLink RX2 43 "HeatedStories$Shelf" "stories" "I", Cond.methodLink RX2 81 yX2_reactAt, Cond.instanceMethod yX2_reactAt, Cond.selects RX2 yX2_reactAt yX2_reactAt, Cond.code yX2_reactAt cX2_reactAt 5 none, Cond.fieldLink RX2 53 "HeatedStories$Shelf" "boilings" "I", Cond.fieldLink RX2 50 "HeatedStories$Shelf" "splits" "I", Cond.fieldLink RX2 56 "HeatedStories$Shelf" "fizzles" "I", Cond.methodLink RX2 71 yX2_storyAt, Cond.instanceMethod yX2_storyAt, Cond.selects RX2 yX2_storyAt yX2_storyAt]
def wsX2_react_r2 : List Cond := [Cond.code yX2_storyAt cX2_storyAt 3 (some .int), Cond.methodLink RX2 88 yX2_split, Cond.instanceMethod yX2_split, Cond.selects RX2 yX2_split yX2_split, Cond.code yX2_split cX2_split 4 none, Cond.methodLink RX2 37 arraycopyName, Cond.native arraycopyName, Cond.static arraycopyName, Cond.initialized "java/lang/System", Cond.fieldLink RX2 24 "HeatedStories$Shelf" "families" "[I", Cond.fieldLink RX2 27 "HeatedStories$Shelf" "generations" "[I", Cond.methodLink RX2 92 yX2_warm, Cond.instanceMethod yX2_warm, Cond.selects RX2 yX2_warm yX2_warm, Cond.code yX2_warm cX2_warm 3 none, Cond.methodLink RX2 74 Lib.Math.min.name, Cond.static Lib.Math.min.name, Cond.code Lib.Math.min.name Lib.Math.min.code 2 (some .int)]
def wsX2_react : List Cond := .code yX2_react cX2_react 4 (some .int) :: ((wsX2_react_r1 ++ wsX2_react_r2) ++ wsX20)
def wsX2_heatBetween : List Cond := .code yX2_heatBetween cX2_heatBetween 5 (some .int) :: ([.fieldLink RX2 18 "HeatedStories$Shelf" "heats" "[I"] ++ wsX20)
def wsX2_heatOf : List Cond := .code yX2_heatOf cX2_heatOf 2 (some .int) :: ([.fieldLink RX2 21 "HeatedStories$Shelf" "starts" "[I", .methodLink RX2 95 yX2_heatBetween, .instanceMethod yX2_heatBetween, .selects RX2 yX2_heatBetween yX2_heatBetween, .initialized RX2, .code yX2_heatBetween cX2_heatBetween 5 (some .int), .fieldLink RX2 18 "HeatedStories$Shelf" "heats" "[I"] ++ wsX20)
def wsX2_heatOfAll : List Cond := .code yX2_heatOfAll cX2_heatOfAll 1 (some .int) :: ([.methodLink RX2 33 yX2_words, .instanceMethod yX2_words, .selects RX2 yX2_words yX2_words, .initialized RX2, .code yX2_words cX2_words 1 (some .int), .fieldLink RX2 21 "HeatedStories$Shelf" "starts" "[I", .fieldLink RX2 43 "HeatedStories$Shelf" "stories" "I", .methodLink RX2 95 yX2_heatBetween, .instanceMethod yX2_heatBetween, .selects RX2 yX2_heatBetween yX2_heatBetween, .code yX2_heatBetween cX2_heatBetween 5 (some .int), .fieldLink RX2 18 "HeatedStories$Shelf" "heats" "[I"] ++ wsX20)
def wsX2_timesBetween : List Cond := .code yX2_timesBetween cX2_timesBetween 6 (some .int) :: ([.fieldLink RX2 15 "HeatedStories$Shelf" "letters" "[I"] ++ wsX20)
def wsX2_timesIn : List Cond := .code yX2_timesIn cX2_timesIn 3 (some .int) :: ([.fieldLink RX2 21 "HeatedStories$Shelf" "starts" "[I", .methodLink RX2 98 yX2_timesBetween, .instanceMethod yX2_timesBetween, .selects RX2 yX2_timesBetween yX2_timesBetween, .initialized RX2, .code yX2_timesBetween cX2_timesBetween 6 (some .int), .fieldLink RX2 15 "HeatedStories$Shelf" "letters" "[I"] ++ wsX20)
def wsX2_timesInAll : List Cond := .code yX2_timesInAll cX2_timesInAll 2 (some .int) :: ([.methodLink RX2 33 yX2_words, .instanceMethod yX2_words, .selects RX2 yX2_words yX2_words, .initialized RX2, .code yX2_words cX2_words 1 (some .int), .fieldLink RX2 21 "HeatedStories$Shelf" "starts" "[I", .fieldLink RX2 43 "HeatedStories$Shelf" "stories" "I", .methodLink RX2 98 yX2_timesBetween, .instanceMethod yX2_timesBetween, .selects RX2 yX2_timesBetween yX2_timesBetween, .code yX2_timesBetween cX2_timesBetween 6 (some .int), .fieldLink RX2 15 "HeatedStories$Shelf" "letters" "[I"] ++ wsX20)
def wsJ7_fill_53178 : List Cond := .code yJ7_fill_53178 cJ7_fill_53178 4 none :: ([])
def wsX2_tallyOf : List Cond := .code yX2_tallyOf cX2_tallyOf 3 none :: ([.fieldLink RX2 30 "HeatedStories$Shelf" "tally" "[I", .fieldLink RX2 21 "HeatedStories$Shelf" "starts" "[I", .fieldLink RX2 15 "HeatedStories$Shelf" "letters" "[I", .methodLink RX2 102 yJ7_fill_53178, .static yJ7_fill_53178, .initialized RJ7, .code yJ7_fill_53178 cJ7_fill_53178 4 none] ++ wsX20)
def wsX2_themeOf : List Cond := .code yX2_themeOf cX2_themeOf 4 (some .int) :: ([.fieldLink RX2 30 "HeatedStories$Shelf" "tally" "[I", .methodLink RX2 108 yX2_tallyOf, .instanceMethod yX2_tallyOf, .selects RX2 yX2_tallyOf yX2_tallyOf, .initialized RX2, .code yX2_tallyOf cX2_tallyOf 3 none, .fieldLink RX2 21 "HeatedStories$Shelf" "starts" "[I", .fieldLink RX2 15 "HeatedStories$Shelf" "letters" "[I", .methodLink RX2 102 yJ7_fill_53178, .static yJ7_fill_53178, .initialized RJ7, .code yJ7_fill_53178 cJ7_fill_53178 4 none] ++ wsX20)
def wsX2_unlikeLettersOf : List Cond := .code yX2_unlikeLettersOf cX2_unlikeLettersOf 4 (some .int) :: ([.fieldLink RX2 30 "HeatedStories$Shelf" "tally" "[I", .methodLink RX2 108 yX2_tallyOf, .instanceMethod yX2_tallyOf, .selects RX2 yX2_tallyOf yX2_tallyOf, .initialized RX2, .code yX2_tallyOf cX2_tallyOf 3 none, .fieldLink RX2 21 "HeatedStories$Shelf" "starts" "[I", .fieldLink RX2 15 "HeatedStories$Shelf" "letters" "[I", .methodLink RX2 102 yJ7_fill_53178, .static yJ7_fill_53178, .initialized RJ7, .code yJ7_fill_53178 cJ7_fill_53178 4 none] ++ wsX20)
def wsX2_hottestOf : List Cond := .code yX2_hottestOf cX2_hottestOf 4 (some .int) :: ([.fieldLink RX2 21 "HeatedStories$Shelf" "starts" "[I", .fieldLink RX2 18 "HeatedStories$Shelf" "heats" "[I"] ++ wsX20)
def wsX2_readsFromBothEnds : List Cond := .code yX2_readsFromBothEnds cX2_readsFromBothEnds 4 (some .boolean) :: ([.fieldLink RX2 21 "HeatedStories$Shelf" "starts" "[I", .fieldLink RX2 15 "HeatedStories$Shelf" "letters" "[I", .methodLink RX2 67 yX2_sizeOf, .instanceMethod yX2_sizeOf, .selects RX2 yX2_sizeOf yX2_sizeOf, .initialized RX2, .code yX2_sizeOf cX2_sizeOf 2 (some .int)] ++ wsX20)
def wsX2_isFirstOfFamily : List Cond := .code yX2_isFirstOfFamily cX2_isFirstOfFamily 3 (some .boolean) :: ([.fieldLink RX2 24 "HeatedStories$Shelf" "families" "[I"] ++ wsX20)
def wsX2_unlikeFamilies : List Cond := .code yX2_unlikeFamilies cX2_unlikeFamilies 3 (some .int) :: ([.fieldLink RX2 43 "HeatedStories$Shelf" "stories" "I", .methodLink RX2 111 yX2_isFirstOfFamily, .instanceMethod yX2_isFirstOfFamily, .selects RX2 yX2_isFirstOfFamily yX2_isFirstOfFamily, .initialized RX2, .code yX2_isFirstOfFamily cX2_isFirstOfFamily 3 (some .boolean), .fieldLink RX2 24 "HeatedStories$Shelf" "families" "[I"] ++ wsX20)
def wsX2_greatestGeneration : List Cond := .code yX2_greatestGeneration cX2_greatestGeneration 3 (some .int) :: ([.fieldLink RX2 43 "HeatedStories$Shelf" "stories" "I", .fieldLink RX2 27 "HeatedStories$Shelf" "generations" "[I", .methodLink RX2 85 Lib.Math.max.name, .static Lib.Math.max.name, .initialized "java/lang/Math", .code Lib.Math.max.name Lib.Math.max.code 2 (some .int)] ++ wsX20)
def wsX2_storiesWith : List Cond := .code yX2_storiesWith cX2_storiesWith 4 (some .int) :: ([.fieldLink RX2 43 "HeatedStories$Shelf" "stories" "I", .methodLink RX2 114 yX2_timesIn, .instanceMethod yX2_timesIn, .selects RX2 yX2_timesIn yX2_timesIn, .initialized RX2, .code yX2_timesIn cX2_timesIn 3 (some .int), .fieldLink RX2 21 "HeatedStories$Shelf" "starts" "[I", .methodLink RX2 98 yX2_timesBetween, .instanceMethod yX2_timesBetween, .selects RX2 yX2_timesBetween yX2_timesBetween, .code yX2_timesBetween cX2_timesBetween 6 (some .int), .fieldLink RX2 15 "HeatedStories$Shelf" "letters" "[I"] ++ wsX20)
def wsX2_storiesOfTheme : List Cond := .code yX2_storiesOfTheme cX2_storiesOfTheme 4 (some .int) :: ([.fieldLink RX2 43 "HeatedStories$Shelf" "stories" "I", .methodLink RX2 117 yX2_themeOf, .instanceMethod yX2_themeOf, .selects RX2 yX2_themeOf yX2_themeOf, .initialized RX2, .code yX2_themeOf cX2_themeOf 4 (some .int), .fieldLink RX2 30 "HeatedStories$Shelf" "tally" "[I", .methodLink RX2 108 yX2_tallyOf, .instanceMethod yX2_tallyOf, .selects RX2 yX2_tallyOf yX2_tallyOf, .code yX2_tallyOf cX2_tallyOf 3 none, .fieldLink RX2 21 "HeatedStories$Shelf" "starts" "[I", .fieldLink RX2 15 "HeatedStories$Shelf" "letters" "[I", .methodLink RX2 102 yJ7_fill_53178, .static yJ7_fill_53178, .initialized RJ7, .code yJ7_fill_53178 cJ7_fill_53178 4 none] ++ wsX20)
def wsX2_heatOfLetter : List Cond := .code yX2_heatOfLetter cX2_heatOfLetter 4 (some .int) :: ([.fieldLink RX2 15 "HeatedStories$Shelf" "letters" "[I", .fieldLink RX2 18 "HeatedStories$Shelf" "heats" "[I", .methodLink RX2 33 yX2_words, .instanceMethod yX2_words, .selects RX2 yX2_words yX2_words, .initialized RX2, .code yX2_words cX2_words 1 (some .int), .fieldLink RX2 21 "HeatedStories$Shelf" "starts" "[I", .fieldLink RX2 43 "HeatedStories$Shelf" "stories" "I"] ++ wsX20)
def wsX2_isPair : List Cond := .code yX2_isPair cX2_isPair 4 (some .boolean) :: ([.fieldLink RX2 15 "HeatedStories$Shelf" "letters" "[I", .methodLink RX2 71 yX2_storyAt, .instanceMethod yX2_storyAt, .selects RX2 yX2_storyAt yX2_storyAt, .initialized RX2, .code yX2_storyAt cX2_storyAt 3 (some .int), .fieldLink RX2 43 "HeatedStories$Shelf" "stories" "I", .fieldLink RX2 21 "HeatedStories$Shelf" "starts" "[I"] ++ wsX20)
def wsX3_init_r1 : List Cond := [Cond.methodLink RX3 1 objectInit, Cond.instanceMethod objectInit, Cond.code objectInit ⟨#[0xb1]⟩ 1 none, Cond.classLink RX3 7 RX2, Cond.instantiable RX2 12, Cond.initialized RX2, Cond.fieldLink RX3 10 "HeatedStories" "now" "LHeatedStories$Shelf;", Cond.fieldLink RX3 16 "HeatedStories" "trial" "LHeatedStories$Shelf;", Cond.classLink RX3 19 RX0, Cond.instantiable RX0 3, Cond.initialized RX0, Cond.fieldLink RX3 22 "HeatedStories" "history" "LHeatedStories$History;", Cond.fieldLink RX3 26 "HeatedStories" "slots" "[LHeatedStories$Shelf;", Cond.arrayClass .boolean, Cond.fieldLink RX3 30 "HeatedStories" "saved" "[Z", Cond.classLink RX3 34 RX1, Cond.instantiable RX1 2, Cond.initialized RX1, Cond.fieldLink RX3 37 "HeatedStories" "pad" "LHeatedStories$Pad;", Cond.arrayClass .int, Cond.fieldLink RX3 41 "HeatedStories" "runs" "[I", Cond.fieldLink RX3 45 "HeatedStories" "themes" "[I", Cond.fieldLink RX3 48 "HeatedStories" "storyHeats" "[I", Cond.instanceMethod yX2_init]
def wsX3_init_r2 : List Cond := [Cond.code yX2_init cX2_init 1 none, Cond.methodLink RX2 3 objectInit, Cond.fieldLink RX2 9 "HeatedStories$Shelf" "settings" "[I", Cond.fieldLink RX2 15 "HeatedStories$Shelf" "letters" "[I", Cond.fieldLink RX2 18 "HeatedStories$Shelf" "heats" "[I", Cond.fieldLink RX2 21 "HeatedStories$Shelf" "starts" "[I", Cond.fieldLink RX2 24 "HeatedStories$Shelf" "families" "[I", Cond.fieldLink RX2 27 "HeatedStories$Shelf" "generations" "[I", Cond.fieldLink RX2 30 "HeatedStories$Shelf" "tally" "[I", Cond.methodLink RX3 21 yX0_init, Cond.instanceMethod yX0_init, Cond.code yX0_init cX0_init 2 none, Cond.methodLink RX0 3 objectInit, Cond.classLink RX0 9 RX2, Cond.fieldLink RX0 11 "HeatedStories$History" "states" "[LHeatedStories$Shelf;", Cond.instanceMethod yX1_init, Cond.code yX1_init cX1_init 1 none, Cond.methodLink RX1 3 objectInit, Cond.arrayClass .char, Cond.fieldLink RX1 11 "HeatedStories$Pad" "characters" "[C"]
def wsX3_init : List Cond := .code yX3_init cX3_init 2 none :: ((wsX3_init_r1 ++ wsX3_init_r2) ++ wsX20 ++ wsX30 ++ wsX00 ++ wsX10)
def wsX3_set_r1 : List Cond := [Cond.fieldLink RX3 55 "HeatedStories" "LOWEST" "[I", Cond.fieldLink RX3 58 "HeatedStories" "HIGHEST" "[I", Cond.fieldLink RX3 22 "HeatedStories" "history" "LHeatedStories$History;", Cond.fieldLink RX3 10 "HeatedStories" "now" "LHeatedStories$Shelf;", Cond.fieldLink RX3 65 "HeatedStories$Shelf" "settings" "[I", Cond.methodLink RX3 51 yX3_isWithin, Cond.static yX3_isWithin, Cond.initialized RX3, Cond.code yX3_isWithin cX3_isWithin 3 (some .boolean), Cond.methodLink RX3 61 yX0_record, Cond.instanceMethod yX0_record, Cond.selects RX0 yX0_record yX0_record, Cond.initialized RX0, Cond.code yX0_record cX0_record 2 none, Cond.fieldLink RX0 11 "HeatedStories$History" "states" "[LHeatedStories$Shelf;", Cond.fieldLink RX0 18 "HeatedStories$History" "oldest" "I", Cond.fieldLink RX0 22 "HeatedStories$History" "size" "I", Cond.methodLink RX0 25 yX2_copyFrom, Cond.instanceMethod yX2_copyFrom, Cond.selects RX2 yX2_copyFrom yX2_copyFrom, Cond.initialized RX2, Cond.code yX2_copyFrom cX2_copyFrom 3 none, Cond.fieldLink RX2 9 "HeatedStories$Shelf" "settings" "[I", Cond.methodLink RX2 37 arraycopyName]
def wsX3_set_r2 : List Cond := [Cond.native arraycopyName, Cond.static arraycopyName, Cond.initialized "java/lang/System", Cond.fieldLink RX2 15 "HeatedStories$Shelf" "letters" "[I", Cond.fieldLink RX2 18 "HeatedStories$Shelf" "heats" "[I", Cond.fieldLink RX2 21 "HeatedStories$Shelf" "starts" "[I", Cond.fieldLink RX2 43 "HeatedStories$Shelf" "stories" "I", Cond.fieldLink RX2 24 "HeatedStories$Shelf" "families" "[I", Cond.fieldLink RX2 27 "HeatedStories$Shelf" "generations" "[I", Cond.fieldLink RX2 47 "HeatedStories$Shelf" "nextFamily" "I", Cond.fieldLink RX2 50 "HeatedStories$Shelf" "splits" "I", Cond.fieldLink RX2 53 "HeatedStories$Shelf" "boilings" "I", Cond.fieldLink RX2 56 "HeatedStories$Shelf" "fizzles" "I", Cond.methodLink RX2 33 yX2_words, Cond.instanceMethod yX2_words, Cond.selects RX2 yX2_words yX2_words, Cond.code yX2_words cX2_words 1 (some .int)]
def wsX3_set : List Cond := .code yX3_set cX3_set 4 (some .int) :: ((wsX3_set_r1 ++ wsX3_set_r2) ++ wsX30 ++ wsX20 ++ wsX00)
def wsX3_write_r1 : List Cond := [Cond.fieldLink RX3 37 "HeatedStories" "pad" "LHeatedStories$Pad;", Cond.fieldLink RX3 10 "HeatedStories" "now" "LHeatedStories$Shelf;", Cond.fieldLink RX3 72 "HeatedStories$Shelf" "stories" "I", Cond.fieldLink RX3 22 "HeatedStories" "history" "LHeatedStories$History;", Cond.fieldLink RX3 88 "HeatedStories$Pad" "length" "I", Cond.methodLink RX3 68 yX1_firstFault, Cond.instanceMethod yX1_firstFault, Cond.selects RX1 yX1_firstFault yX1_firstFault, Cond.initialized RX1, Cond.code yX1_firstFault cX1_firstFault 3 (some .int), Cond.fieldLink RX1 21 "HeatedStories$Pad" "length" "I", Cond.fieldLink RX1 11 "HeatedStories$Pad" "characters" "[C", Cond.methodLink RX1 25 yX1_placeBehind, Cond.static yX1_placeBehind, Cond.code yX1_placeBehind cX1_placeBehind 2 (some .int), Cond.methodLink RX1 29 yX1_isWord, Cond.static yX1_isWord, Cond.code yX1_isWord cX1_isWord 1 (some .boolean), Cond.static yX3_isWithin, Cond.initialized RX3, Cond.code yX3_isWithin cX3_isWithin 3 (some .boolean), Cond.methodLink RX3 76 yX1_storiesIn, Cond.instanceMethod yX1_storiesIn, Cond.selects RX1 yX1_storiesIn yX1_storiesIn]
def wsX3_write_r2 : List Cond := [Cond.code yX1_storiesIn cX1_storiesIn 3 (some .int), Cond.methodLink RX3 79 yX2_words, Cond.instanceMethod yX2_words, Cond.selects RX2 yX2_words yX2_words, Cond.initialized RX2, Cond.code yX2_words cX2_words 1 (some .int), Cond.fieldLink RX2 21 "HeatedStories$Shelf" "starts" "[I", Cond.fieldLink RX2 43 "HeatedStories$Shelf" "stories" "I", Cond.methodLink RX3 82 yX1_wordsIn, Cond.instanceMethod yX1_wordsIn, Cond.selects RX1 yX1_wordsIn yX1_wordsIn, Cond.code yX1_wordsIn cX1_wordsIn 3 (some .int), Cond.methodLink RX3 61 yX0_record, Cond.instanceMethod yX0_record, Cond.selects RX0 yX0_record yX0_record, Cond.initialized RX0, Cond.code yX0_record cX0_record 2 none, Cond.fieldLink RX0 11 "HeatedStories$History" "states" "[LHeatedStories$Shelf;", Cond.fieldLink RX0 18 "HeatedStories$History" "oldest" "I", Cond.fieldLink RX0 22 "HeatedStories$History" "size" "I", Cond.methodLink RX0 25 yX2_copyFrom, Cond.instanceMethod yX2_copyFrom, Cond.selects RX2 yX2_copyFrom yX2_copyFrom, Cond.code yX2_copyFrom cX2_copyFrom 3 none]
def wsX3_write_r3 : List Cond := [Cond.fieldLink RX2 9 "HeatedStories$Shelf" "settings" "[I", Cond.methodLink RX2 37 arraycopyName, Cond.native arraycopyName, Cond.static arraycopyName, Cond.initialized "java/lang/System", Cond.fieldLink RX2 15 "HeatedStories$Shelf" "letters" "[I", Cond.fieldLink RX2 18 "HeatedStories$Shelf" "heats" "[I", Cond.fieldLink RX2 24 "HeatedStories$Shelf" "families" "[I", Cond.fieldLink RX2 27 "HeatedStories$Shelf" "generations" "[I", Cond.fieldLink RX2 47 "HeatedStories$Shelf" "nextFamily" "I", Cond.fieldLink RX2 50 "HeatedStories$Shelf" "splits" "I", Cond.fieldLink RX2 53 "HeatedStories$Shelf" "boilings" "I", Cond.fieldLink RX2 56 "HeatedStories$Shelf" "fizzles" "I", Cond.methodLink RX2 33 yX2_words, Cond.methodLink RX3 85 yX1_writeTo, Cond.instanceMethod yX1_writeTo, Cond.selects RX1 yX1_writeTo yX1_writeTo, Cond.code yX1_writeTo cX1_writeTo 4 none, Cond.methodLink RX1 33 yX2_addStory, Cond.instanceMethod yX2_addStory, Cond.selects RX2 yX2_addStory yX2_addStory, Cond.code yX2_addStory cX2_addStory 1 none, Cond.methodLink RX1 38 yX2_addWord, Cond.instanceMethod yX2_addWord]
def wsX3_write_r4 : List Cond := [Cond.selects RX2 yX2_addWord yX2_addWord, Cond.code yX2_addWord cX2_addWord 3 none, Cond.methodLink RX1 42 yX2_addDigit, Cond.instanceMethod yX2_addDigit, Cond.selects RX2 yX2_addDigit yX2_addDigit, Cond.code yX2_addDigit cX2_addDigit 3 none, Cond.methodLink RX3 91 yX2_react, Cond.instanceMethod yX2_react, Cond.selects RX2 yX2_react yX2_react, Cond.code yX2_react cX2_react 4 (some .int), Cond.constant RX2 80 (1000000), Cond.methodLink RX2 85 Lib.Math.max.name, Cond.static Lib.Math.max.name, Cond.initialized "java/lang/Math", Cond.code Lib.Math.max.name Lib.Math.max.code 2 (some .int), Cond.methodLink RX2 81 yX2_reactAt, Cond.instanceMethod yX2_reactAt, Cond.selects RX2 yX2_reactAt yX2_reactAt, Cond.code yX2_reactAt cX2_reactAt 5 none, Cond.methodLink RX2 71 yX2_storyAt, Cond.instanceMethod yX2_storyAt, Cond.selects RX2 yX2_storyAt yX2_storyAt, Cond.code yX2_storyAt cX2_storyAt 3 (some .int), Cond.methodLink RX2 88 yX2_split]
def wsX3_write_r5 : List Cond := [Cond.instanceMethod yX2_split, Cond.selects RX2 yX2_split yX2_split, Cond.code yX2_split cX2_split 4 none, Cond.methodLink RX2 92 yX2_warm, Cond.instanceMethod yX2_warm, Cond.selects RX2 yX2_warm yX2_warm, Cond.code yX2_warm cX2_warm 3 none, Cond.methodLink RX2 74 Lib.Math.min.name, Cond.static Lib.Math.min.name, Cond.code Lib.Math.min.name Lib.Math.min.code 2 (some .int)]
def wsX3_write : List Cond := .code yX3_write cX3_write 1 (some .int) :: ((wsX3_write_r1 ++ (wsX3_write_r2 ++ (wsX3_write_r3 ++ (wsX3_write_r4 ++ wsX3_write_r5)))) ++ wsX30 ++ wsX20 ++ wsX10 ++ wsX00)
def wsX3_heat_r1 : List Cond := [Cond.fieldLink RX3 10 "HeatedStories" "now" "LHeatedStories$Shelf;", Cond.fieldLink RX3 22 "HeatedStories" "history" "LHeatedStories$History;", Cond.fieldLink RX3 98 "HeatedStories$Shelf" "starts" "[I", Cond.methodLink RX3 94 yX2_hasWord, Cond.instanceMethod yX2_hasWord, Cond.selects RX2 yX2_hasWord yX2_hasWord, Cond.initialized RX2, Cond.code yX2_hasWord cX2_hasWord 3 (some .boolean), Cond.methodLink RX2 63 yX2_hasStory, Cond.instanceMethod yX2_hasStory, Cond.selects RX2 yX2_hasStory yX2_hasStory, Cond.code yX2_hasStory cX2_hasStory 2 (some .boolean), Cond.fieldLink RX2 43 "HeatedStories$Shelf" "stories" "I", Cond.static yX3_isWithin, Cond.initialized RX3, Cond.code yX3_isWithin cX3_isWithin 3 (some .boolean), Cond.methodLink RX2 67 yX2_sizeOf, Cond.instanceMethod yX2_sizeOf, Cond.selects RX2 yX2_sizeOf yX2_sizeOf, Cond.code yX2_sizeOf cX2_sizeOf 2 (some .int), Cond.fieldLink RX2 21 "HeatedStories$Shelf" "starts" "[I", Cond.methodLink RX3 51 yX3_isWithin, Cond.methodLink RX3 61 yX0_record, Cond.instanceMethod yX0_record]
def wsX3_heat_r2 : List Cond := [Cond.selects RX0 yX0_record yX0_record, Cond.initialized RX0, Cond.code yX0_record cX0_record 2 none, Cond.fieldLink RX0 11 "HeatedStories$History" "states" "[LHeatedStories$Shelf;", Cond.fieldLink RX0 18 "HeatedStories$History" "oldest" "I", Cond.fieldLink RX0 22 "HeatedStories$History" "size" "I", Cond.methodLink RX0 25 yX2_copyFrom, Cond.instanceMethod yX2_copyFrom, Cond.selects RX2 yX2_copyFrom yX2_copyFrom, Cond.code yX2_copyFrom cX2_copyFrom 3 none, Cond.fieldLink RX2 9 "HeatedStories$Shelf" "settings" "[I", Cond.methodLink RX2 37 arraycopyName, Cond.native arraycopyName, Cond.static arraycopyName, Cond.initialized "java/lang/System", Cond.fieldLink RX2 15 "HeatedStories$Shelf" "letters" "[I", Cond.fieldLink RX2 18 "HeatedStories$Shelf" "heats" "[I", Cond.fieldLink RX2 24 "HeatedStories$Shelf" "families" "[I", Cond.fieldLink RX2 27 "HeatedStories$Shelf" "generations" "[I", Cond.fieldLink RX2 47 "HeatedStories$Shelf" "nextFamily" "I", Cond.fieldLink RX2 50 "HeatedStories$Shelf" "splits" "I", Cond.fieldLink RX2 53 "HeatedStories$Shelf" "boilings" "I", Cond.fieldLink RX2 56 "HeatedStories$Shelf" "fizzles" "I", Cond.methodLink RX2 33 yX2_words]
def wsX3_heat_r3 : List Cond := [Cond.instanceMethod yX2_words, Cond.selects RX2 yX2_words yX2_words, Cond.code yX2_words cX2_words 1 (some .int), Cond.methodLink RX3 101 yX2_warm, Cond.instanceMethod yX2_warm, Cond.selects RX2 yX2_warm yX2_warm, Cond.code yX2_warm cX2_warm 3 none, Cond.methodLink RX2 74 Lib.Math.min.name, Cond.static Lib.Math.min.name, Cond.initialized "java/lang/Math", Cond.code Lib.Math.min.name Lib.Math.min.code 2 (some .int), Cond.methodLink RX3 91 yX2_react, Cond.instanceMethod yX2_react, Cond.selects RX2 yX2_react yX2_react, Cond.code yX2_react cX2_react 4 (some .int), Cond.constant RX2 80 (1000000), Cond.methodLink RX2 85 Lib.Math.max.name, Cond.static Lib.Math.max.name, Cond.code Lib.Math.max.name Lib.Math.max.code 2 (some .int), Cond.methodLink RX2 81 yX2_reactAt, Cond.instanceMethod yX2_reactAt, Cond.selects RX2 yX2_reactAt yX2_reactAt, Cond.code yX2_reactAt cX2_reactAt 5 none, Cond.methodLink RX2 71 yX2_storyAt]
def wsX3_heat_r4 : List Cond := [Cond.instanceMethod yX2_storyAt, Cond.selects RX2 yX2_storyAt yX2_storyAt, Cond.code yX2_storyAt cX2_storyAt 3 (some .int), Cond.methodLink RX2 88 yX2_split, Cond.instanceMethod yX2_split, Cond.selects RX2 yX2_split yX2_split, Cond.code yX2_split cX2_split 4 none, Cond.methodLink RX2 92 yX2_warm]
def wsX3_heat : List Cond := .code yX3_heat cX3_heat 4 (some .int) :: ((wsX3_heat_r1 ++ (wsX3_heat_r2 ++ (wsX3_heat_r3 ++ wsX3_heat_r4))) ++ wsX30 ++ wsX20 ++ wsX00)
def wsX3_read_r1 : List Cond := [Cond.fieldLink RX3 10 "HeatedStories" "now" "LHeatedStories$Shelf;", Cond.fieldLink RX3 22 "HeatedStories" "history" "LHeatedStories$History;", Cond.fieldLink RX3 98 "HeatedStories$Shelf" "starts" "[I", Cond.methodLink RX3 105 yX2_hasStory, Cond.instanceMethod yX2_hasStory, Cond.selects RX2 yX2_hasStory yX2_hasStory, Cond.initialized RX2, Cond.code yX2_hasStory cX2_hasStory 2 (some .boolean), Cond.fieldLink RX2 43 "HeatedStories$Shelf" "stories" "I", Cond.static yX3_isWithin, Cond.initialized RX3, Cond.code yX3_isWithin cX3_isWithin 3 (some .boolean), Cond.methodLink RX3 51 yX3_isWithin, Cond.methodLink RX3 61 yX0_record, Cond.instanceMethod yX0_record, Cond.selects RX0 yX0_record yX0_record, Cond.initialized RX0, Cond.code yX0_record cX0_record 2 none, Cond.fieldLink RX0 11 "HeatedStories$History" "states" "[LHeatedStories$Shelf;", Cond.fieldLink RX0 18 "HeatedStories$History" "oldest" "I", Cond.fieldLink RX0 22 "HeatedStories$History" "size" "I", Cond.methodLink RX0 25 yX2_copyFrom, Cond.instanceMethod yX2_copyFrom, Cond.selects RX2 yX2_copyFrom yX2_copyFrom]
def wsX3_read_r2 : List Cond := [Cond.code yX2_copyFrom cX2_copyFrom 3 none, Cond.fieldLink RX2 9 "HeatedStories$Shelf" "settings" "[I", Cond.methodLink RX2 37 arraycopyName, Cond.native arraycopyName, Cond.static arraycopyName, Cond.initialized "java/lang/System", Cond.fieldLink RX2 15 "HeatedStories$Shelf" "letters" "[I", Cond.fieldLink RX2 18 "HeatedStories$Shelf" "heats" "[I", Cond.fieldLink RX2 21 "HeatedStories$Shelf" "starts" "[I", Cond.fieldLink RX2 24 "HeatedStories$Shelf" "families" "[I", Cond.fieldLink RX2 27 "HeatedStories$Shelf" "generations" "[I", Cond.fieldLink RX2 47 "HeatedStories$Shelf" "nextFamily" "I", Cond.fieldLink RX2 50 "HeatedStories$Shelf" "splits" "I", Cond.fieldLink RX2 53 "HeatedStories$Shelf" "boilings" "I", Cond.fieldLink RX2 56 "HeatedStories$Shelf" "fizzles" "I", Cond.methodLink RX2 33 yX2_words, Cond.instanceMethod yX2_words, Cond.selects RX2 yX2_words yX2_words, Cond.code yX2_words cX2_words 1 (some .int), Cond.methodLink RX3 101 yX2_warm, Cond.instanceMethod yX2_warm, Cond.selects RX2 yX2_warm yX2_warm, Cond.code yX2_warm cX2_warm 3 none, Cond.methodLink RX2 74 Lib.Math.min.name]
def wsX3_read_r3 : List Cond := [Cond.static Lib.Math.min.name, Cond.initialized "java/lang/Math", Cond.code Lib.Math.min.name Lib.Math.min.code 2 (some .int), Cond.methodLink RX3 91 yX2_react, Cond.instanceMethod yX2_react, Cond.selects RX2 yX2_react yX2_react, Cond.code yX2_react cX2_react 4 (some .int), Cond.constant RX2 80 (1000000), Cond.methodLink RX2 85 Lib.Math.max.name, Cond.static Lib.Math.max.name, Cond.code Lib.Math.max.name Lib.Math.max.code 2 (some .int), Cond.methodLink RX2 81 yX2_reactAt, Cond.instanceMethod yX2_reactAt, Cond.selects RX2 yX2_reactAt yX2_reactAt, Cond.code yX2_reactAt cX2_reactAt 5 none, Cond.methodLink RX2 71 yX2_storyAt, Cond.instanceMethod yX2_storyAt, Cond.selects RX2 yX2_storyAt yX2_storyAt, Cond.code yX2_storyAt cX2_storyAt 3 (some .int), Cond.methodLink RX2 88 yX2_split, Cond.instanceMethod yX2_split, Cond.selects RX2 yX2_split yX2_split, Cond.code yX2_split cX2_split 4 none, Cond.methodLink RX2 92 yX2_warm]
def wsX3_read : List Cond := .code yX3_read cX3_read 4 (some .int) :: ((wsX3_read_r1 ++ (wsX3_read_r2 ++ wsX3_read_r3)) ++ wsX30 ++ wsX20 ++ wsX00)
def wsX3_fuse_r1 : List Cond := [Cond.fieldLink RX3 10 "HeatedStories" "now" "LHeatedStories$Shelf;", Cond.fieldLink RX3 22 "HeatedStories" "history" "LHeatedStories$History;", Cond.fieldLink RX3 16 "HeatedStories" "trial" "LHeatedStories$Shelf;", Cond.fieldLink RX3 98 "HeatedStories$Shelf" "starts" "[I", Cond.fieldLink RX3 124 "HeatedStories$Shelf" "generations" "[I", Cond.methodLink RX3 127 Lib.Math.max.name, Cond.static Lib.Math.max.name, Cond.initialized "java/lang/Math", Cond.code Lib.Math.max.name Lib.Math.max.code 2 (some .int), Cond.fieldLink RX3 65 "HeatedStories$Shelf" "settings" "[I", Cond.methodLink RX3 105 yX2_hasStory, Cond.instanceMethod yX2_hasStory, Cond.selects RX2 yX2_hasStory yX2_hasStory, Cond.initialized RX2, Cond.code yX2_hasStory cX2_hasStory 2 (some .boolean), Cond.fieldLink RX2 43 "HeatedStories$Shelf" "stories" "I", Cond.static yX3_isWithin, Cond.initialized RX3, Cond.code yX3_isWithin cX3_isWithin 3 (some .boolean), Cond.methodLink RX3 109 yX2_themeOf, Cond.instanceMethod yX2_themeOf, Cond.selects RX2 yX2_themeOf yX2_themeOf, Cond.code yX2_themeOf cX2_themeOf 4 (some .int), Cond.fieldLink RX2 30 "HeatedStories$Shelf" "tally" "[I"]
def wsX3_fuse_r2 : List Cond := [Cond.methodLink RX2 108 yX2_tallyOf, Cond.instanceMethod yX2_tallyOf, Cond.selects RX2 yX2_tallyOf yX2_tallyOf, Cond.code yX2_tallyOf cX2_tallyOf 3 none, Cond.fieldLink RX2 21 "HeatedStories$Shelf" "starts" "[I", Cond.fieldLink RX2 15 "HeatedStories$Shelf" "letters" "[I", Cond.methodLink RX2 102 yJ7_fill_53178, Cond.static yJ7_fill_53178, Cond.initialized RJ7, Cond.code yJ7_fill_53178 cJ7_fill_53178 4 none, Cond.methodLink RX3 61 yX0_record, Cond.instanceMethod yX0_record, Cond.selects RX0 yX0_record yX0_record, Cond.initialized RX0, Cond.code yX0_record cX0_record 2 none, Cond.fieldLink RX0 11 "HeatedStories$History" "states" "[LHeatedStories$Shelf;", Cond.fieldLink RX0 18 "HeatedStories$History" "oldest" "I", Cond.fieldLink RX0 22 "HeatedStories$History" "size" "I", Cond.methodLink RX0 25 yX2_copyFrom, Cond.instanceMethod yX2_copyFrom, Cond.selects RX2 yX2_copyFrom yX2_copyFrom, Cond.code yX2_copyFrom cX2_copyFrom 3 none, Cond.fieldLink RX2 9 "HeatedStories$Shelf" "settings" "[I", Cond.methodLink RX2 37 arraycopyName]
def wsX3_fuse_r3 : List Cond := [Cond.native arraycopyName, Cond.static arraycopyName, Cond.initialized "java/lang/System", Cond.fieldLink RX2 18 "HeatedStories$Shelf" "heats" "[I", Cond.fieldLink RX2 24 "HeatedStories$Shelf" "families" "[I", Cond.fieldLink RX2 27 "HeatedStories$Shelf" "generations" "[I", Cond.fieldLink RX2 47 "HeatedStories$Shelf" "nextFamily" "I", Cond.fieldLink RX2 50 "HeatedStories$Shelf" "splits" "I", Cond.fieldLink RX2 53 "HeatedStories$Shelf" "boilings" "I", Cond.fieldLink RX2 56 "HeatedStories$Shelf" "fizzles" "I", Cond.methodLink RX2 33 yX2_words, Cond.instanceMethod yX2_words, Cond.selects RX2 yX2_words yX2_words, Cond.code yX2_words cX2_words 1 (some .int), Cond.methodLink RX3 113 yX2_copyFrom, Cond.methodLink RX3 116 yX2_remove, Cond.instanceMethod yX2_remove, Cond.selects RX2 yX2_remove yX2_remove, Cond.code yX2_remove cX2_remove 7 none, Cond.methodLink RX3 120 yX2_append, Cond.instanceMethod yX2_append, Cond.selects RX2 yX2_append yX2_append, Cond.code yX2_append cX2_append 9 none, Cond.methodLink RX2 67 yX2_sizeOf]
def wsX3_fuse_r4 : List Cond := [Cond.instanceMethod yX2_sizeOf, Cond.selects RX2 yX2_sizeOf yX2_sizeOf, Cond.code yX2_sizeOf cX2_sizeOf 2 (some .int), Cond.methodLink RX3 101 yX2_warm, Cond.instanceMethod yX2_warm, Cond.selects RX2 yX2_warm yX2_warm, Cond.code yX2_warm cX2_warm 3 none, Cond.methodLink RX2 74 Lib.Math.min.name, Cond.static Lib.Math.min.name, Cond.code Lib.Math.min.name Lib.Math.min.code 2 (some .int), Cond.methodLink RX3 91 yX2_react, Cond.instanceMethod yX2_react, Cond.selects RX2 yX2_react yX2_react, Cond.code yX2_react cX2_react 4 (some .int), Cond.constant RX2 80 (1000000), Cond.methodLink RX2 85 Lib.Math.max.name, Cond.methodLink RX2 81 yX2_reactAt, Cond.instanceMethod yX2_reactAt, Cond.selects RX2 yX2_reactAt yX2_reactAt, Cond.code yX2_reactAt cX2_reactAt 5 none, Cond.methodLink RX2 71 yX2_storyAt, Cond.instanceMethod yX2_storyAt, Cond.selects RX2 yX2_storyAt yX2_storyAt, Cond.code yX2_storyAt cX2_storyAt 3 (some .int)]
def wsX3_fuse_r5 : List Cond := [Cond.methodLink RX2 88 yX2_split, Cond.instanceMethod yX2_split, Cond.selects RX2 yX2_split yX2_split, Cond.code yX2_split cX2_split 4 none, Cond.methodLink RX2 92 yX2_warm]
def wsX3_fuse : List Cond := .code yX3_fuse cX3_fuse 5 (some .int) :: ((wsX3_fuse_r1 ++ (wsX3_fuse_r2 ++ (wsX3_fuse_r3 ++ (wsX3_fuse_r4 ++ wsX3_fuse_r5)))) ++ wsX30 ++ wsX20 ++ wsX00)
def wsX3_pass_r1 : List Cond := [Cond.fieldLink RX3 22 "HeatedStories" "history" "LHeatedStories$History;", Cond.fieldLink RX3 10 "HeatedStories" "now" "LHeatedStories$Shelf;", Cond.fieldLink RX3 65 "HeatedStories$Shelf" "settings" "[I", Cond.fieldLink RX3 133 "HeatedStories$Shelf" "heats" "[I", Cond.methodLink RX3 127 Lib.Math.max.name, Cond.static Lib.Math.max.name, Cond.initialized "java/lang/Math", Cond.code Lib.Math.max.name Lib.Math.max.code 2 (some .int), Cond.methodLink RX3 51 yX3_isWithin, Cond.static yX3_isWithin, Cond.initialized RX3, Cond.code yX3_isWithin cX3_isWithin 3 (some .boolean), Cond.methodLink RX3 61 yX0_record, Cond.instanceMethod yX0_record, Cond.selects RX0 yX0_record yX0_record, Cond.initialized RX0, Cond.code yX0_record cX0_record 2 none, Cond.fieldLink RX0 11 "HeatedStories$History" "states" "[LHeatedStories$Shelf;", Cond.fieldLink RX0 18 "HeatedStories$History" "oldest" "I", Cond.fieldLink RX0 22 "HeatedStories$History" "size" "I", Cond.methodLink RX0 25 yX2_copyFrom, Cond.instanceMethod yX2_copyFrom, Cond.selects RX2 yX2_copyFrom yX2_copyFrom, Cond.initialized RX2]
def wsX3_pass_r2 : List Cond := [Cond.code yX2_copyFrom cX2_copyFrom 3 none, Cond.fieldLink RX2 9 "HeatedStories$Shelf" "settings" "[I", Cond.methodLink RX2 37 arraycopyName, Cond.native arraycopyName, Cond.static arraycopyName, Cond.initialized "java/lang/System", Cond.fieldLink RX2 15 "HeatedStories$Shelf" "letters" "[I", Cond.fieldLink RX2 18 "HeatedStories$Shelf" "heats" "[I", Cond.fieldLink RX2 21 "HeatedStories$Shelf" "starts" "[I", Cond.fieldLink RX2 43 "HeatedStories$Shelf" "stories" "I", Cond.fieldLink RX2 24 "HeatedStories$Shelf" "families" "[I", Cond.fieldLink RX2 27 "HeatedStories$Shelf" "generations" "[I", Cond.fieldLink RX2 47 "HeatedStories$Shelf" "nextFamily" "I", Cond.fieldLink RX2 50 "HeatedStories$Shelf" "splits" "I", Cond.fieldLink RX2 53 "HeatedStories$Shelf" "boilings" "I", Cond.fieldLink RX2 56 "HeatedStories$Shelf" "fizzles" "I", Cond.methodLink RX2 33 yX2_words, Cond.instanceMethod yX2_words, Cond.selects RX2 yX2_words yX2_words, Cond.code yX2_words cX2_words 1 (some .int), Cond.methodLink RX3 79 yX2_words, Cond.methodLink RX3 136 yX2_heatOfAll, Cond.instanceMethod yX2_heatOfAll, Cond.selects RX2 yX2_heatOfAll yX2_heatOfAll]
def wsX3_pass_r3 : List Cond := [Cond.code yX2_heatOfAll cX2_heatOfAll 1 (some .int), Cond.methodLink RX2 95 yX2_heatBetween, Cond.instanceMethod yX2_heatBetween, Cond.selects RX2 yX2_heatBetween yX2_heatBetween, Cond.code yX2_heatBetween cX2_heatBetween 5 (some .int)]
def wsX3_pass : List Cond := .code yX3_pass cX3_pass 4 (some .int) :: ((wsX3_pass_r1 ++ (wsX3_pass_r2 ++ wsX3_pass_r3)) ++ wsX30 ++ wsX20 ++ wsX00)
def wsX3_burn_r1 : List Cond := [Cond.fieldLink RX3 10 "HeatedStories" "now" "LHeatedStories$Shelf;", Cond.fieldLink RX3 22 "HeatedStories" "history" "LHeatedStories$History;", Cond.methodLink RX3 105 yX2_hasStory, Cond.instanceMethod yX2_hasStory, Cond.selects RX2 yX2_hasStory yX2_hasStory, Cond.initialized RX2, Cond.code yX2_hasStory cX2_hasStory 2 (some .boolean), Cond.fieldLink RX2 43 "HeatedStories$Shelf" "stories" "I", Cond.static yX3_isWithin, Cond.initialized RX3, Cond.code yX3_isWithin cX3_isWithin 3 (some .boolean), Cond.methodLink RX3 61 yX0_record, Cond.instanceMethod yX0_record, Cond.selects RX0 yX0_record yX0_record, Cond.initialized RX0, Cond.code yX0_record cX0_record 2 none, Cond.fieldLink RX0 11 "HeatedStories$History" "states" "[LHeatedStories$Shelf;", Cond.fieldLink RX0 18 "HeatedStories$History" "oldest" "I", Cond.fieldLink RX0 22 "HeatedStories$History" "size" "I", Cond.methodLink RX0 25 yX2_copyFrom, Cond.instanceMethod yX2_copyFrom, Cond.selects RX2 yX2_copyFrom yX2_copyFrom, Cond.code yX2_copyFrom cX2_copyFrom 3 none, Cond.fieldLink RX2 9 "HeatedStories$Shelf" "settings" "[I"]
def wsX3_burn_r2 : List Cond := [Cond.methodLink RX2 37 arraycopyName, Cond.native arraycopyName, Cond.static arraycopyName, Cond.initialized "java/lang/System", Cond.fieldLink RX2 15 "HeatedStories$Shelf" "letters" "[I", Cond.fieldLink RX2 18 "HeatedStories$Shelf" "heats" "[I", Cond.fieldLink RX2 21 "HeatedStories$Shelf" "starts" "[I", Cond.fieldLink RX2 24 "HeatedStories$Shelf" "families" "[I", Cond.fieldLink RX2 27 "HeatedStories$Shelf" "generations" "[I", Cond.fieldLink RX2 47 "HeatedStories$Shelf" "nextFamily" "I", Cond.fieldLink RX2 50 "HeatedStories$Shelf" "splits" "I", Cond.fieldLink RX2 53 "HeatedStories$Shelf" "boilings" "I", Cond.fieldLink RX2 56 "HeatedStories$Shelf" "fizzles" "I", Cond.methodLink RX2 33 yX2_words, Cond.instanceMethod yX2_words, Cond.selects RX2 yX2_words yX2_words, Cond.code yX2_words cX2_words 1 (some .int), Cond.methodLink RX3 139 yX2_sizeOf, Cond.instanceMethod yX2_sizeOf, Cond.selects RX2 yX2_sizeOf yX2_sizeOf, Cond.code yX2_sizeOf cX2_sizeOf 2 (some .int), Cond.methodLink RX3 116 yX2_remove, Cond.instanceMethod yX2_remove, Cond.selects RX2 yX2_remove yX2_remove]
def wsX3_burn_r3 : List Cond := [Cond.code yX2_remove cX2_remove 7 none]
def wsX3_burn : List Cond := .code yX3_burn cX3_burn 3 (some .int) :: ((wsX3_burn_r1 ++ (wsX3_burn_r2 ++ wsX3_burn_r3)) ++ wsX30 ++ wsX20 ++ wsX00)
def wsX3_word_r1 : List Cond := [Cond.fieldLink RX3 10 "HeatedStories" "now" "LHeatedStories$Shelf;", Cond.fieldLink RX3 98 "HeatedStories$Shelf" "starts" "[I", Cond.fieldLink RX3 142 "HeatedStories$Shelf" "letters" "[I", Cond.fieldLink RX3 133 "HeatedStories$Shelf" "heats" "[I", Cond.methodLink RX3 94 yX2_hasWord, Cond.instanceMethod yX2_hasWord, Cond.selects RX2 yX2_hasWord yX2_hasWord, Cond.initialized RX2, Cond.code yX2_hasWord cX2_hasWord 3 (some .boolean), Cond.methodLink RX2 63 yX2_hasStory, Cond.instanceMethod yX2_hasStory, Cond.selects RX2 yX2_hasStory yX2_hasStory, Cond.code yX2_hasStory cX2_hasStory 2 (some .boolean), Cond.fieldLink RX2 43 "HeatedStories$Shelf" "stories" "I", Cond.static yX3_isWithin, Cond.initialized RX3, Cond.code yX3_isWithin cX3_isWithin 3 (some .boolean), Cond.methodLink RX2 67 yX2_sizeOf, Cond.instanceMethod yX2_sizeOf, Cond.selects RX2 yX2_sizeOf yX2_sizeOf, Cond.code yX2_sizeOf cX2_sizeOf 2 (some .int), Cond.fieldLink RX2 21 "HeatedStories$Shelf" "starts" "[I", Cond.methodLink RX3 145 yX2_timesIn, Cond.instanceMethod yX2_timesIn]
def wsX3_word_r2 : List Cond := [Cond.selects RX2 yX2_timesIn yX2_timesIn, Cond.code yX2_timesIn cX2_timesIn 3 (some .int), Cond.methodLink RX2 98 yX2_timesBetween, Cond.instanceMethod yX2_timesBetween, Cond.selects RX2 yX2_timesBetween yX2_timesBetween, Cond.code yX2_timesBetween cX2_timesBetween 6 (some .int), Cond.fieldLink RX2 15 "HeatedStories$Shelf" "letters" "[I"]
def wsX3_word : List Cond := .code yX3_word cX3_word 5 (some .int) :: ((wsX3_word_r1 ++ wsX3_word_r2) ++ wsX30 ++ wsX20)
def wsX3_story_r1 : List Cond := [Cond.fieldLink RX3 10 "HeatedStories" "now" "LHeatedStories$Shelf;", Cond.fieldLink RX3 151 "HeatedStories$Shelf" "families" "[I", Cond.fieldLink RX3 124 "HeatedStories$Shelf" "generations" "[I", Cond.methodLink RX3 105 yX2_hasStory, Cond.instanceMethod yX2_hasStory, Cond.selects RX2 yX2_hasStory yX2_hasStory, Cond.initialized RX2, Cond.code yX2_hasStory cX2_hasStory 2 (some .boolean), Cond.fieldLink RX2 43 "HeatedStories$Shelf" "stories" "I", Cond.static yX3_isWithin, Cond.initialized RX3, Cond.code yX3_isWithin cX3_isWithin 3 (some .boolean), Cond.methodLink RX3 139 yX2_sizeOf, Cond.instanceMethod yX2_sizeOf, Cond.selects RX2 yX2_sizeOf yX2_sizeOf, Cond.code yX2_sizeOf cX2_sizeOf 2 (some .int), Cond.fieldLink RX2 21 "HeatedStories$Shelf" "starts" "[I", Cond.methodLink RX3 148 yX2_heatOf, Cond.instanceMethod yX2_heatOf, Cond.selects RX2 yX2_heatOf yX2_heatOf, Cond.code yX2_heatOf cX2_heatOf 2 (some .int), Cond.methodLink RX2 95 yX2_heatBetween, Cond.instanceMethod yX2_heatBetween, Cond.selects RX2 yX2_heatBetween yX2_heatBetween]
def wsX3_story_r2 : List Cond := [Cond.code yX2_heatBetween cX2_heatBetween 5 (some .int), Cond.fieldLink RX2 18 "HeatedStories$Shelf" "heats" "[I", Cond.methodLink RX3 109 yX2_themeOf, Cond.instanceMethod yX2_themeOf, Cond.selects RX2 yX2_themeOf yX2_themeOf, Cond.code yX2_themeOf cX2_themeOf 4 (some .int), Cond.fieldLink RX2 30 "HeatedStories$Shelf" "tally" "[I", Cond.methodLink RX2 108 yX2_tallyOf, Cond.instanceMethod yX2_tallyOf, Cond.selects RX2 yX2_tallyOf yX2_tallyOf, Cond.code yX2_tallyOf cX2_tallyOf 3 none, Cond.fieldLink RX2 15 "HeatedStories$Shelf" "letters" "[I", Cond.methodLink RX2 102 yJ7_fill_53178, Cond.static yJ7_fill_53178, Cond.initialized RJ7, Cond.code yJ7_fill_53178 cJ7_fill_53178 4 none, Cond.methodLink RX3 154 yX2_hottestOf, Cond.instanceMethod yX2_hottestOf, Cond.selects RX2 yX2_hottestOf yX2_hottestOf, Cond.code yX2_hottestOf cX2_hottestOf 4 (some .int), Cond.methodLink RX3 157 yX2_unlikeLettersOf, Cond.instanceMethod yX2_unlikeLettersOf, Cond.selects RX2 yX2_unlikeLettersOf yX2_unlikeLettersOf, Cond.code yX2_unlikeLettersOf cX2_unlikeLettersOf 4 (some .int)]
def wsX3_story_r3 : List Cond := [Cond.methodLink RX3 160 yX2_readsFromBothEnds, Cond.instanceMethod yX2_readsFromBothEnds, Cond.selects RX2 yX2_readsFromBothEnds yX2_readsFromBothEnds, Cond.code yX2_readsFromBothEnds cX2_readsFromBothEnds 4 (some .boolean), Cond.methodLink RX2 67 yX2_sizeOf]
def wsX3_story : List Cond := .code yX3_story cX3_story 3 (some .int) :: ((wsX3_story_r1 ++ (wsX3_story_r2 ++ wsX3_story_r3)) ++ wsX30 ++ wsX20)
def wsX3_count_r1 : List Cond := [Cond.fieldLink RX3 10 "HeatedStories" "now" "LHeatedStories$Shelf;", Cond.fieldLink RX3 72 "HeatedStories$Shelf" "stories" "I", Cond.fieldLink RX3 166 "HeatedStories$Shelf" "splits" "I", Cond.fieldLink RX3 169 "HeatedStories$Shelf" "boilings" "I", Cond.fieldLink RX3 172 "HeatedStories$Shelf" "fizzles" "I", Cond.fieldLink RX3 65 "HeatedStories$Shelf" "settings" "[I", Cond.fieldLink RX3 37 "HeatedStories" "pad" "LHeatedStories$Pad;", Cond.fieldLink RX3 88 "HeatedStories$Pad" "length" "I", Cond.fieldLink RX3 22 "HeatedStories" "history" "LHeatedStories$History;", Cond.fieldLink RX3 178 "HeatedStories$History" "size" "I", Cond.methodLink RX3 79 yX2_words, Cond.instanceMethod yX2_words, Cond.selects RX2 yX2_words yX2_words, Cond.initialized RX2, Cond.code yX2_words cX2_words 1 (some .int), Cond.fieldLink RX2 21 "HeatedStories$Shelf" "starts" "[I", Cond.fieldLink RX2 43 "HeatedStories$Shelf" "stories" "I", Cond.methodLink RX3 136 yX2_heatOfAll, Cond.instanceMethod yX2_heatOfAll, Cond.selects RX2 yX2_heatOfAll yX2_heatOfAll, Cond.code yX2_heatOfAll cX2_heatOfAll 1 (some .int), Cond.methodLink RX2 33 yX2_words, Cond.methodLink RX2 95 yX2_heatBetween, Cond.instanceMethod yX2_heatBetween]
def wsX3_count_r2 : List Cond := [Cond.selects RX2 yX2_heatBetween yX2_heatBetween, Cond.code yX2_heatBetween cX2_heatBetween 5 (some .int), Cond.fieldLink RX2 18 "HeatedStories$Shelf" "heats" "[I", Cond.methodLink RX3 163 yX2_unlikeFamilies, Cond.instanceMethod yX2_unlikeFamilies, Cond.selects RX2 yX2_unlikeFamilies yX2_unlikeFamilies, Cond.code yX2_unlikeFamilies cX2_unlikeFamilies 3 (some .int), Cond.methodLink RX2 111 yX2_isFirstOfFamily, Cond.instanceMethod yX2_isFirstOfFamily, Cond.selects RX2 yX2_isFirstOfFamily yX2_isFirstOfFamily, Cond.code yX2_isFirstOfFamily cX2_isFirstOfFamily 3 (some .boolean), Cond.fieldLink RX2 24 "HeatedStories$Shelf" "families" "[I", Cond.methodLink RX3 175 yX2_greatestGeneration, Cond.instanceMethod yX2_greatestGeneration, Cond.selects RX2 yX2_greatestGeneration yX2_greatestGeneration, Cond.code yX2_greatestGeneration cX2_greatestGeneration 3 (some .int), Cond.fieldLink RX2 27 "HeatedStories$Shelf" "generations" "[I", Cond.methodLink RX2 85 Lib.Math.max.name, Cond.static Lib.Math.max.name, Cond.initialized "java/lang/Math", Cond.code Lib.Math.max.name Lib.Math.max.code 2 (some .int)]
def wsX3_count : List Cond := .code yX3_count cX3_count 2 (some .int) :: ((wsX3_count_r1 ++ wsX3_count_r2) ++ wsX30 ++ wsX20 ++ wsX10 ++ wsX00)
def wsX3_isLetter : List Cond := .code yX3_isLetter cX3_isLetter 1 (some .boolean) :: ([.methodLink RX3 51 yX3_isWithin, .static yX3_isWithin, .initialized RX3, .code yX3_isWithin cX3_isWithin 3 (some .boolean)])
def wsX3_letter_r1 : List Cond := [Cond.fieldLink RX3 10 "HeatedStories" "now" "LHeatedStories$Shelf;", Cond.methodLink RX3 181 yX3_isLetter, Cond.static yX3_isLetter, Cond.initialized RX3, Cond.code yX3_isLetter cX3_isLetter 1 (some .boolean), Cond.methodLink RX3 51 yX3_isWithin, Cond.static yX3_isWithin, Cond.code yX3_isWithin cX3_isWithin 3 (some .boolean), Cond.methodLink RX3 184 yX2_timesInAll, Cond.instanceMethod yX2_timesInAll, Cond.selects RX2 yX2_timesInAll yX2_timesInAll, Cond.initialized RX2, Cond.code yX2_timesInAll cX2_timesInAll 2 (some .int), Cond.methodLink RX2 33 yX2_words, Cond.instanceMethod yX2_words, Cond.selects RX2 yX2_words yX2_words, Cond.code yX2_words cX2_words 1 (some .int), Cond.fieldLink RX2 21 "HeatedStories$Shelf" "starts" "[I", Cond.fieldLink RX2 43 "HeatedStories$Shelf" "stories" "I", Cond.methodLink RX2 98 yX2_timesBetween, Cond.instanceMethod yX2_timesBetween, Cond.selects RX2 yX2_timesBetween yX2_timesBetween, Cond.code yX2_timesBetween cX2_timesBetween 6 (some .int), Cond.fieldLink RX2 15 "HeatedStories$Shelf" "letters" "[I"]
def wsX3_letter_r2 : List Cond := [Cond.methodLink RX3 187 yX2_storiesWith, Cond.instanceMethod yX2_storiesWith, Cond.selects RX2 yX2_storiesWith yX2_storiesWith, Cond.code yX2_storiesWith cX2_storiesWith 4 (some .int), Cond.methodLink RX2 114 yX2_timesIn, Cond.instanceMethod yX2_timesIn, Cond.selects RX2 yX2_timesIn yX2_timesIn, Cond.code yX2_timesIn cX2_timesIn 3 (some .int), Cond.methodLink RX3 190 yX2_storiesOfTheme, Cond.instanceMethod yX2_storiesOfTheme, Cond.selects RX2 yX2_storiesOfTheme yX2_storiesOfTheme, Cond.code yX2_storiesOfTheme cX2_storiesOfTheme 4 (some .int), Cond.methodLink RX2 117 yX2_themeOf, Cond.instanceMethod yX2_themeOf, Cond.selects RX2 yX2_themeOf yX2_themeOf, Cond.code yX2_themeOf cX2_themeOf 4 (some .int), Cond.fieldLink RX2 30 "HeatedStories$Shelf" "tally" "[I", Cond.methodLink RX2 108 yX2_tallyOf, Cond.instanceMethod yX2_tallyOf, Cond.selects RX2 yX2_tallyOf yX2_tallyOf, Cond.code yX2_tallyOf cX2_tallyOf 3 none, Cond.methodLink RX2 102 yJ7_fill_53178, Cond.static yJ7_fill_53178, Cond.initialized RJ7]
def wsX3_letter_r3 : List Cond := [Cond.code yJ7_fill_53178 cJ7_fill_53178 4 none, Cond.methodLink RX3 193 yX2_heatOfLetter, Cond.instanceMethod yX2_heatOfLetter, Cond.selects RX2 yX2_heatOfLetter yX2_heatOfLetter, Cond.code yX2_heatOfLetter cX2_heatOfLetter 4 (some .int), Cond.fieldLink RX2 18 "HeatedStories$Shelf" "heats" "[I"]
def wsX3_letter : List Cond := .code yX3_letter cX3_letter 3 (some .int) :: ((wsX3_letter_r1 ++ (wsX3_letter_r2 ++ wsX3_letter_r3)) ++ wsX30 ++ wsX20)
def wsX3_sideBySide_r1 : List Cond := [Cond.fieldLink RX3 10 "HeatedStories" "now" "LHeatedStories$Shelf;", Cond.methodLink RX3 181 yX3_isLetter, Cond.static yX3_isLetter, Cond.initialized RX3, Cond.code yX3_isLetter cX3_isLetter 1 (some .boolean), Cond.methodLink RX3 51 yX3_isWithin, Cond.static yX3_isWithin, Cond.code yX3_isWithin cX3_isWithin 3 (some .boolean), Cond.methodLink RX3 79 yX2_words, Cond.instanceMethod yX2_words, Cond.selects RX2 yX2_words yX2_words, Cond.initialized RX2, Cond.code yX2_words cX2_words 1 (some .int), Cond.fieldLink RX2 21 "HeatedStories$Shelf" "starts" "[I", Cond.fieldLink RX2 43 "HeatedStories$Shelf" "stories" "I", Cond.methodLink RX3 196 yX2_isPair, Cond.instanceMethod yX2_isPair, Cond.selects RX2 yX2_isPair yX2_isPair, Cond.code yX2_isPair cX2_isPair 4 (some .boolean), Cond.fieldLink RX2 15 "HeatedStories$Shelf" "letters" "[I", Cond.methodLink RX2 71 yX2_storyAt, Cond.instanceMethod yX2_storyAt, Cond.selects RX2 yX2_storyAt yX2_storyAt, Cond.code yX2_storyAt cX2_storyAt 3 (some .int)]
def wsX3_sideBySide_r2 : List Cond := [Cond.methodLink RX3 199 yX2_storyAt, Cond.methodLink RX3 202 yX2_placeOf, Cond.instanceMethod yX2_placeOf, Cond.selects RX2 yX2_placeOf yX2_placeOf, Cond.code yX2_placeOf cX2_placeOf 2 (some .int)]
def wsX3_sideBySide : List Cond := .code yX3_sideBySide cX3_sideBySide 7 (some .int) :: ((wsX3_sideBySide_r1 ++ wsX3_sideBySide_r2) ++ wsX30 ++ wsX20)
def wsX3_common_r1 : List Cond := [Cond.fieldLink RX3 10 "HeatedStories" "now" "LHeatedStories$Shelf;", Cond.fieldLink RX3 98 "HeatedStories$Shelf" "starts" "[I", Cond.fieldLink RX3 41 "HeatedStories" "runs" "[I", Cond.fieldLink RX3 142 "HeatedStories$Shelf" "letters" "[I", Cond.methodLink RX3 127 Lib.Math.max.name, Cond.static Lib.Math.max.name, Cond.initialized "java/lang/Math", Cond.code Lib.Math.max.name Lib.Math.max.code 2 (some .int), Cond.methodLink RX3 105 yX2_hasStory, Cond.instanceMethod yX2_hasStory, Cond.selects RX2 yX2_hasStory yX2_hasStory, Cond.initialized RX2, Cond.code yX2_hasStory cX2_hasStory 2 (some .boolean), Cond.fieldLink RX2 43 "HeatedStories$Shelf" "stories" "I", Cond.static yX3_isWithin, Cond.initialized RX3, Cond.code yX3_isWithin cX3_isWithin 3 (some .boolean), Cond.methodLink RX3 139 yX2_sizeOf, Cond.instanceMethod yX2_sizeOf, Cond.selects RX2 yX2_sizeOf yX2_sizeOf, Cond.code yX2_sizeOf cX2_sizeOf 2 (some .int), Cond.fieldLink RX2 21 "HeatedStories$Shelf" "starts" "[I", Cond.methodLink RX3 205 yJ7_fill_53178, Cond.static yJ7_fill_53178]
def wsX3_common_r2 : List Cond := [Cond.initialized RJ7, Cond.code yJ7_fill_53178 cJ7_fill_53178 4 none]
def wsX3_common : List Cond := .code yX3_common cX3_common 10 (some .int) :: ((wsX3_common_r1 ++ wsX3_common_r2) ++ wsX30 ++ wsX20)
def wsX3_tryHeating_r1 : List Cond := [Cond.fieldLink RX3 16 "HeatedStories" "trial" "LHeatedStories$Shelf;", Cond.fieldLink RX3 10 "HeatedStories" "now" "LHeatedStories$Shelf;", Cond.methodLink RX3 113 yX2_copyFrom, Cond.instanceMethod yX2_copyFrom, Cond.selects RX2 yX2_copyFrom yX2_copyFrom, Cond.initialized RX2, Cond.code yX2_copyFrom cX2_copyFrom 3 none, Cond.fieldLink RX2 9 "HeatedStories$Shelf" "settings" "[I", Cond.methodLink RX2 37 arraycopyName, Cond.native arraycopyName, Cond.static arraycopyName, Cond.initialized "java/lang/System", Cond.fieldLink RX2 15 "HeatedStories$Shelf" "letters" "[I", Cond.fieldLink RX2 18 "HeatedStories$Shelf" "heats" "[I", Cond.fieldLink RX2 21 "HeatedStories$Shelf" "starts" "[I", Cond.fieldLink RX2 43 "HeatedStories$Shelf" "stories" "I", Cond.fieldLink RX2 24 "HeatedStories$Shelf" "families" "[I", Cond.fieldLink RX2 27 "HeatedStories$Shelf" "generations" "[I", Cond.fieldLink RX2 47 "HeatedStories$Shelf" "nextFamily" "I", Cond.fieldLink RX2 50 "HeatedStories$Shelf" "splits" "I", Cond.fieldLink RX2 53 "HeatedStories$Shelf" "boilings" "I", Cond.fieldLink RX2 56 "HeatedStories$Shelf" "fizzles" "I", Cond.methodLink RX2 33 yX2_words, Cond.instanceMethod yX2_words]
def wsX3_tryHeating_r2 : List Cond := [Cond.selects RX2 yX2_words yX2_words, Cond.code yX2_words cX2_words 1 (some .int), Cond.methodLink RX3 101 yX2_warm, Cond.instanceMethod yX2_warm, Cond.selects RX2 yX2_warm yX2_warm, Cond.code yX2_warm cX2_warm 3 none, Cond.methodLink RX2 74 Lib.Math.min.name, Cond.static Lib.Math.min.name, Cond.initialized "java/lang/Math", Cond.code Lib.Math.min.name Lib.Math.min.code 2 (some .int), Cond.methodLink RX3 91 yX2_react, Cond.instanceMethod yX2_react, Cond.selects RX2 yX2_react yX2_react, Cond.code yX2_react cX2_react 4 (some .int), Cond.constant RX2 80 (1000000), Cond.methodLink RX2 85 Lib.Math.max.name, Cond.static Lib.Math.max.name, Cond.code Lib.Math.max.name Lib.Math.max.code 2 (some .int), Cond.methodLink RX2 81 yX2_reactAt, Cond.instanceMethod yX2_reactAt, Cond.selects RX2 yX2_reactAt yX2_reactAt, Cond.code yX2_reactAt cX2_reactAt 5 none, Cond.methodLink RX2 71 yX2_storyAt, Cond.instanceMethod yX2_storyAt]
def wsX3_tryHeating_r3 : List Cond := [Cond.selects RX2 yX2_storyAt yX2_storyAt, Cond.code yX2_storyAt cX2_storyAt 3 (some .int), Cond.methodLink RX2 88 yX2_split, Cond.instanceMethod yX2_split, Cond.selects RX2 yX2_split yX2_split, Cond.code yX2_split cX2_split 4 none, Cond.methodLink RX2 92 yX2_warm]
def wsX3_tryHeating : List Cond := .code yX3_tryHeating cX3_tryHeating 3 (some .int) :: ((wsX3_tryHeating_r1 ++ (wsX3_tryHeating_r2 ++ wsX3_tryHeating_r3)) ++ wsX30 ++ wsX20)
def wsX3_ifHeated_r1 : List Cond := [Cond.fieldLink RX3 10 "HeatedStories" "now" "LHeatedStories$Shelf;", Cond.fieldLink RX3 98 "HeatedStories$Shelf" "starts" "[I", Cond.fieldLink RX3 16 "HeatedStories" "trial" "LHeatedStories$Shelf;", Cond.fieldLink RX3 166 "HeatedStories$Shelf" "splits" "I", Cond.fieldLink RX3 72 "HeatedStories$Shelf" "stories" "I", Cond.methodLink RX3 94 yX2_hasWord, Cond.instanceMethod yX2_hasWord, Cond.selects RX2 yX2_hasWord yX2_hasWord, Cond.initialized RX2, Cond.code yX2_hasWord cX2_hasWord 3 (some .boolean), Cond.methodLink RX2 63 yX2_hasStory, Cond.instanceMethod yX2_hasStory, Cond.selects RX2 yX2_hasStory yX2_hasStory, Cond.code yX2_hasStory cX2_hasStory 2 (some .boolean), Cond.fieldLink RX2 43 "HeatedStories$Shelf" "stories" "I", Cond.static yX3_isWithin, Cond.initialized RX3, Cond.code yX3_isWithin cX3_isWithin 3 (some .boolean), Cond.methodLink RX2 67 yX2_sizeOf, Cond.instanceMethod yX2_sizeOf, Cond.selects RX2 yX2_sizeOf yX2_sizeOf, Cond.code yX2_sizeOf cX2_sizeOf 2 (some .int), Cond.fieldLink RX2 21 "HeatedStories$Shelf" "starts" "[I", Cond.methodLink RX3 51 yX3_isWithin]
def wsX3_ifHeated_r2 : List Cond := [Cond.methodLink RX3 211 yX3_tryHeating, Cond.instanceMethod yX3_tryHeating, Cond.selects RX3 yX3_tryHeating yX3_tryHeating, Cond.code yX3_tryHeating cX3_tryHeating 3 (some .int), Cond.methodLink RX3 113 yX2_copyFrom, Cond.instanceMethod yX2_copyFrom, Cond.selects RX2 yX2_copyFrom yX2_copyFrom, Cond.code yX2_copyFrom cX2_copyFrom 3 none, Cond.fieldLink RX2 9 "HeatedStories$Shelf" "settings" "[I", Cond.methodLink RX2 37 arraycopyName, Cond.native arraycopyName, Cond.static arraycopyName, Cond.initialized "java/lang/System", Cond.fieldLink RX2 15 "HeatedStories$Shelf" "letters" "[I", Cond.fieldLink RX2 18 "HeatedStories$Shelf" "heats" "[I", Cond.fieldLink RX2 24 "HeatedStories$Shelf" "families" "[I", Cond.fieldLink RX2 27 "HeatedStories$Shelf" "generations" "[I", Cond.fieldLink RX2 47 "HeatedStories$Shelf" "nextFamily" "I", Cond.fieldLink RX2 50 "HeatedStories$Shelf" "splits" "I", Cond.fieldLink RX2 53 "HeatedStories$Shelf" "boilings" "I", Cond.fieldLink RX2 56 "HeatedStories$Shelf" "fizzles" "I", Cond.methodLink RX2 33 yX2_words, Cond.instanceMethod yX2_words, Cond.selects RX2 yX2_words yX2_words]
def wsX3_ifHeated_r3 : List Cond := [Cond.code yX2_words cX2_words 1 (some .int), Cond.methodLink RX3 101 yX2_warm, Cond.instanceMethod yX2_warm, Cond.selects RX2 yX2_warm yX2_warm, Cond.code yX2_warm cX2_warm 3 none, Cond.methodLink RX2 74 Lib.Math.min.name, Cond.static Lib.Math.min.name, Cond.initialized "java/lang/Math", Cond.code Lib.Math.min.name Lib.Math.min.code 2 (some .int), Cond.methodLink RX3 91 yX2_react, Cond.instanceMethod yX2_react, Cond.selects RX2 yX2_react yX2_react, Cond.code yX2_react cX2_react 4 (some .int), Cond.constant RX2 80 (1000000), Cond.methodLink RX2 85 Lib.Math.max.name, Cond.static Lib.Math.max.name, Cond.code Lib.Math.max.name Lib.Math.max.code 2 (some .int), Cond.methodLink RX2 81 yX2_reactAt, Cond.instanceMethod yX2_reactAt, Cond.selects RX2 yX2_reactAt yX2_reactAt, Cond.code yX2_reactAt cX2_reactAt 5 none, Cond.methodLink RX2 71 yX2_storyAt, Cond.instanceMethod yX2_storyAt, Cond.selects RX2 yX2_storyAt yX2_storyAt]
def wsX3_ifHeated_r4 : List Cond := [Cond.code yX2_storyAt cX2_storyAt 3 (some .int), Cond.methodLink RX2 88 yX2_split, Cond.instanceMethod yX2_split, Cond.selects RX2 yX2_split yX2_split, Cond.code yX2_split cX2_split 4 none, Cond.methodLink RX2 92 yX2_warm, Cond.methodLink RX3 136 yX2_heatOfAll, Cond.instanceMethod yX2_heatOfAll, Cond.selects RX2 yX2_heatOfAll yX2_heatOfAll, Cond.code yX2_heatOfAll cX2_heatOfAll 1 (some .int), Cond.methodLink RX2 95 yX2_heatBetween, Cond.instanceMethod yX2_heatBetween, Cond.selects RX2 yX2_heatBetween yX2_heatBetween, Cond.code yX2_heatBetween cX2_heatBetween 5 (some .int)]
def wsX3_ifHeated : List Cond := .code yX3_ifHeated cX3_ifHeated 6 (some .int) :: ((wsX3_ifHeated_r1 ++ (wsX3_ifHeated_r2 ++ (wsX3_ifHeated_r3 ++ wsX3_ifHeated_r4))) ++ wsX30 ++ wsX20)
def wsX3_critical_r1 : List Cond := [Cond.fieldLink RX3 10 "HeatedStories" "now" "LHeatedStories$Shelf;", Cond.fieldLink RX3 98 "HeatedStories$Shelf" "starts" "[I", Cond.fieldLink RX3 65 "HeatedStories$Shelf" "settings" "[I", Cond.fieldLink RX3 133 "HeatedStories$Shelf" "heats" "[I", Cond.methodLink RX3 127 Lib.Math.max.name, Cond.static Lib.Math.max.name, Cond.initialized "java/lang/Math", Cond.code Lib.Math.max.name Lib.Math.max.code 2 (some .int), Cond.fieldLink RX3 16 "HeatedStories" "trial" "LHeatedStories$Shelf;", Cond.fieldLink RX3 166 "HeatedStories$Shelf" "splits" "I", Cond.methodLink RX3 94 yX2_hasWord, Cond.instanceMethod yX2_hasWord, Cond.selects RX2 yX2_hasWord yX2_hasWord, Cond.initialized RX2, Cond.code yX2_hasWord cX2_hasWord 3 (some .boolean), Cond.methodLink RX2 63 yX2_hasStory, Cond.instanceMethod yX2_hasStory, Cond.selects RX2 yX2_hasStory yX2_hasStory, Cond.code yX2_hasStory cX2_hasStory 2 (some .boolean), Cond.fieldLink RX2 43 "HeatedStories$Shelf" "stories" "I", Cond.static yX3_isWithin, Cond.initialized RX3, Cond.code yX3_isWithin cX3_isWithin 3 (some .boolean), Cond.methodLink RX2 67 yX2_sizeOf]
def wsX3_critical_r2 : List Cond := [Cond.instanceMethod yX2_sizeOf, Cond.selects RX2 yX2_sizeOf yX2_sizeOf, Cond.code yX2_sizeOf cX2_sizeOf 2 (some .int), Cond.fieldLink RX2 21 "HeatedStories$Shelf" "starts" "[I", Cond.methodLink RX3 214 yX2_isCalm, Cond.instanceMethod yX2_isCalm, Cond.selects RX2 yX2_isCalm yX2_isCalm, Cond.code yX2_isCalm cX2_isCalm 2 (some .boolean), Cond.fieldLink RX2 18 "HeatedStories$Shelf" "heats" "[I", Cond.fieldLink RX2 9 "HeatedStories$Shelf" "settings" "[I", Cond.methodLink RX2 33 yX2_words, Cond.instanceMethod yX2_words, Cond.selects RX2 yX2_words yX2_words, Cond.code yX2_words cX2_words 1 (some .int), Cond.methodLink RX3 211 yX3_tryHeating, Cond.instanceMethod yX3_tryHeating, Cond.selects RX3 yX3_tryHeating yX3_tryHeating, Cond.code yX3_tryHeating cX3_tryHeating 3 (some .int), Cond.methodLink RX3 113 yX2_copyFrom, Cond.instanceMethod yX2_copyFrom, Cond.selects RX2 yX2_copyFrom yX2_copyFrom, Cond.code yX2_copyFrom cX2_copyFrom 3 none, Cond.methodLink RX2 37 arraycopyName, Cond.native arraycopyName]
def wsX3_critical_r3 : List Cond := [Cond.static arraycopyName, Cond.initialized "java/lang/System", Cond.fieldLink RX2 15 "HeatedStories$Shelf" "letters" "[I", Cond.fieldLink RX2 24 "HeatedStories$Shelf" "families" "[I", Cond.fieldLink RX2 27 "HeatedStories$Shelf" "generations" "[I", Cond.fieldLink RX2 47 "HeatedStories$Shelf" "nextFamily" "I", Cond.fieldLink RX2 50 "HeatedStories$Shelf" "splits" "I", Cond.fieldLink RX2 53 "HeatedStories$Shelf" "boilings" "I", Cond.fieldLink RX2 56 "HeatedStories$Shelf" "fizzles" "I", Cond.methodLink RX3 101 yX2_warm, Cond.instanceMethod yX2_warm, Cond.selects RX2 yX2_warm yX2_warm, Cond.code yX2_warm cX2_warm 3 none, Cond.methodLink RX2 74 Lib.Math.min.name, Cond.static Lib.Math.min.name, Cond.code Lib.Math.min.name Lib.Math.min.code 2 (some .int), Cond.methodLink RX3 91 yX2_react, Cond.instanceMethod yX2_react, Cond.selects RX2 yX2_react yX2_react, Cond.code yX2_react cX2_react 4 (some .int), Cond.constant RX2 80 (1000000), Cond.methodLink RX2 85 Lib.Math.max.name, Cond.methodLink RX2 81 yX2_reactAt, Cond.instanceMethod yX2_reactAt]
def wsX3_critical_r4 : List Cond := [Cond.selects RX2 yX2_reactAt yX2_reactAt, Cond.code yX2_reactAt cX2_reactAt 5 none, Cond.methodLink RX2 71 yX2_storyAt, Cond.instanceMethod yX2_storyAt, Cond.selects RX2 yX2_storyAt yX2_storyAt, Cond.code yX2_storyAt cX2_storyAt 3 (some .int), Cond.methodLink RX2 88 yX2_split, Cond.instanceMethod yX2_split, Cond.selects RX2 yX2_split yX2_split, Cond.code yX2_split cX2_split 4 none, Cond.methodLink RX2 92 yX2_warm]
def wsX3_critical : List Cond := .code yX3_critical cX3_critical 7 (some .int) :: ((wsX3_critical_r1 ++ (wsX3_critical_r2 ++ (wsX3_critical_r3 ++ wsX3_critical_r4))) ++ wsX30 ++ wsX20)
def wsX3_touchiest_r1 : List Cond := [Cond.fieldLink RX3 10 "HeatedStories" "now" "LHeatedStories$Shelf;", Cond.fieldLink RX3 72 "HeatedStories$Shelf" "stories" "I", Cond.fieldLink RX3 133 "HeatedStories$Shelf" "heats" "[I", Cond.fieldLink RX3 65 "HeatedStories$Shelf" "settings" "[I", Cond.methodLink RX3 51 yX3_isWithin, Cond.static yX3_isWithin, Cond.initialized RX3, Cond.code yX3_isWithin cX3_isWithin 3 (some .boolean), Cond.methodLink RX3 214 yX2_isCalm, Cond.instanceMethod yX2_isCalm, Cond.selects RX2 yX2_isCalm yX2_isCalm, Cond.initialized RX2, Cond.code yX2_isCalm cX2_isCalm 2 (some .boolean), Cond.fieldLink RX2 18 "HeatedStories$Shelf" "heats" "[I", Cond.fieldLink RX2 9 "HeatedStories$Shelf" "settings" "[I", Cond.methodLink RX2 33 yX2_words, Cond.instanceMethod yX2_words, Cond.selects RX2 yX2_words yX2_words, Cond.code yX2_words cX2_words 1 (some .int), Cond.fieldLink RX2 21 "HeatedStories$Shelf" "starts" "[I", Cond.fieldLink RX2 43 "HeatedStories$Shelf" "stories" "I", Cond.methodLink RX3 79 yX2_words, Cond.methodLink RX3 211 yX3_tryHeating, Cond.instanceMethod yX3_tryHeating]
def wsX3_touchiest_r2 : List Cond := [Cond.selects RX3 yX3_tryHeating yX3_tryHeating, Cond.code yX3_tryHeating cX3_tryHeating 3 (some .int), Cond.fieldLink RX3 16 "HeatedStories" "trial" "LHeatedStories$Shelf;", Cond.methodLink RX3 113 yX2_copyFrom, Cond.instanceMethod yX2_copyFrom, Cond.selects RX2 yX2_copyFrom yX2_copyFrom, Cond.code yX2_copyFrom cX2_copyFrom 3 none, Cond.methodLink RX2 37 arraycopyName, Cond.native arraycopyName, Cond.static arraycopyName, Cond.initialized "java/lang/System", Cond.fieldLink RX2 15 "HeatedStories$Shelf" "letters" "[I", Cond.fieldLink RX2 24 "HeatedStories$Shelf" "families" "[I", Cond.fieldLink RX2 27 "HeatedStories$Shelf" "generations" "[I", Cond.fieldLink RX2 47 "HeatedStories$Shelf" "nextFamily" "I", Cond.fieldLink RX2 50 "HeatedStories$Shelf" "splits" "I", Cond.fieldLink RX2 53 "HeatedStories$Shelf" "boilings" "I", Cond.fieldLink RX2 56 "HeatedStories$Shelf" "fizzles" "I", Cond.methodLink RX3 101 yX2_warm, Cond.instanceMethod yX2_warm, Cond.selects RX2 yX2_warm yX2_warm, Cond.code yX2_warm cX2_warm 3 none, Cond.methodLink RX2 74 Lib.Math.min.name, Cond.static Lib.Math.min.name]
def wsX3_touchiest_r3 : List Cond := [Cond.initialized "java/lang/Math", Cond.code Lib.Math.min.name Lib.Math.min.code 2 (some .int), Cond.methodLink RX3 91 yX2_react, Cond.instanceMethod yX2_react, Cond.selects RX2 yX2_react yX2_react, Cond.code yX2_react cX2_react 4 (some .int), Cond.constant RX2 80 (1000000), Cond.methodLink RX2 85 Lib.Math.max.name, Cond.static Lib.Math.max.name, Cond.code Lib.Math.max.name Lib.Math.max.code 2 (some .int), Cond.methodLink RX2 81 yX2_reactAt, Cond.instanceMethod yX2_reactAt, Cond.selects RX2 yX2_reactAt yX2_reactAt, Cond.code yX2_reactAt cX2_reactAt 5 none, Cond.methodLink RX2 71 yX2_storyAt, Cond.instanceMethod yX2_storyAt, Cond.selects RX2 yX2_storyAt yX2_storyAt, Cond.code yX2_storyAt cX2_storyAt 3 (some .int), Cond.methodLink RX2 88 yX2_split, Cond.instanceMethod yX2_split, Cond.selects RX2 yX2_split yX2_split, Cond.code yX2_split cX2_split 4 none, Cond.methodLink RX2 92 yX2_warm, Cond.methodLink RX3 199 yX2_storyAt]
def wsX3_touchiest_r4 : List Cond := [Cond.methodLink RX3 202 yX2_placeOf, Cond.instanceMethod yX2_placeOf, Cond.selects RX2 yX2_placeOf yX2_placeOf, Cond.code yX2_placeOf cX2_placeOf 2 (some .int)]
def wsX3_touchiest : List Cond := .code yX3_touchiest cX3_touchiest 9 (some .int) :: ((wsX3_touchiest_r1 ++ (wsX3_touchiest_r2 ++ (wsX3_touchiest_r3 ++ wsX3_touchiest_r4))) ++ wsX30 ++ wsX20)
def wsX3_coolestPair_r1 : List Cond := [Cond.fieldLink RX3 10 "HeatedStories" "now" "LHeatedStories$Shelf;", Cond.fieldLink RX3 72 "HeatedStories$Shelf" "stories" "I", Cond.fieldLink RX3 45 "HeatedStories" "themes" "[I", Cond.fieldLink RX3 48 "HeatedStories" "storyHeats" "[I", Cond.methodLink RX3 51 yX3_isWithin, Cond.static yX3_isWithin, Cond.initialized RX3, Cond.code yX3_isWithin cX3_isWithin 3 (some .boolean), Cond.methodLink RX3 109 yX2_themeOf, Cond.instanceMethod yX2_themeOf, Cond.selects RX2 yX2_themeOf yX2_themeOf, Cond.initialized RX2, Cond.code yX2_themeOf cX2_themeOf 4 (some .int), Cond.fieldLink RX2 30 "HeatedStories$Shelf" "tally" "[I", Cond.methodLink RX2 108 yX2_tallyOf, Cond.instanceMethod yX2_tallyOf, Cond.selects RX2 yX2_tallyOf yX2_tallyOf, Cond.code yX2_tallyOf cX2_tallyOf 3 none, Cond.fieldLink RX2 21 "HeatedStories$Shelf" "starts" "[I", Cond.fieldLink RX2 15 "HeatedStories$Shelf" "letters" "[I", Cond.methodLink RX2 102 yJ7_fill_53178, Cond.static yJ7_fill_53178, Cond.initialized RJ7, Cond.code yJ7_fill_53178 cJ7_fill_53178 4 none]
def wsX3_coolestPair_r2 : List Cond := [Cond.methodLink RX3 148 yX2_heatOf, Cond.instanceMethod yX2_heatOf, Cond.selects RX2 yX2_heatOf yX2_heatOf, Cond.code yX2_heatOf cX2_heatOf 2 (some .int), Cond.methodLink RX2 95 yX2_heatBetween, Cond.instanceMethod yX2_heatBetween, Cond.selects RX2 yX2_heatBetween yX2_heatBetween, Cond.code yX2_heatBetween cX2_heatBetween 5 (some .int), Cond.fieldLink RX2 18 "HeatedStories$Shelf" "heats" "[I"]
def wsX3_coolestPair : List Cond := .code yX3_coolestPair cX3_coolestPair 8 (some .int) :: ((wsX3_coolestPair_r1 ++ wsX3_coolestPair_r2) ++ wsX30 ++ wsX20)
def wsX3_put : List Cond := .code yX3_put cX3_put 4 (some .int) :: ([.fieldLink RX3 37 "HeatedStories" "pad" "LHeatedStories$Pad;", .fieldLink RX3 88 "HeatedStories$Pad" "length" "I", .methodLink RX3 218 yX1_charactersIn, .static yX1_charactersIn, .initialized RX1, .code yX1_charactersIn cX1_charactersIn 5 (some .int), .constantLong RX1 15 (255), .static yX3_isWithin, .initialized RX3, .code yX3_isWithin cX3_isWithin 3 (some .boolean), .methodLink RX3 222 yX1_add, .instanceMethod yX1_add, .selects RX1 yX1_add yX1_add, .code yX1_add cX1_add 5 none, .fieldLink RX1 11 "HeatedStories$Pad" "characters" "[C", .fieldLink RX1 21 "HeatedStories$Pad" "length" "I"] ++ wsX30 ++ wsX10)
def wsX3_wipe : List Cond := .code yX3_wipe cX3_wipe 2 (some .int) :: ([.fieldLink RX3 37 "HeatedStories" "pad" "LHeatedStories$Pad;", .fieldLink RX3 88 "HeatedStories$Pad" "length" "I"] ++ wsX30 ++ wsX10)
def wsX3_fault : List Cond := .code yX3_fault cX3_fault 1 (some .int) :: ([.fieldLink RX3 37 "HeatedStories" "pad" "LHeatedStories$Pad;", .methodLink RX3 68 yX1_firstFault, .instanceMethod yX1_firstFault, .selects RX1 yX1_firstFault yX1_firstFault, .initialized RX1, .code yX1_firstFault cX1_firstFault 3 (some .int), .fieldLink RX1 21 "HeatedStories$Pad" "length" "I", .fieldLink RX1 11 "HeatedStories$Pad" "characters" "[C", .methodLink RX1 25 yX1_placeBehind, .static yX1_placeBehind, .code yX1_placeBehind cX1_placeBehind 2 (some .int), .methodLink RX1 29 yX1_isWord, .static yX1_isWord, .code yX1_isWord cX1_isWord 1 (some .boolean), .static yX3_isWithin, .initialized RX3, .code yX3_isWithin cX3_isWithin 3 (some .boolean)] ++ wsX30 ++ wsX10)
def wsX3_undo_r1 : List Cond := [Cond.fieldLink RX3 22 "HeatedStories" "history" "LHeatedStories$History;", Cond.fieldLink RX3 178 "HeatedStories$History" "size" "I", Cond.fieldLink RX3 10 "HeatedStories" "now" "LHeatedStories$Shelf;", Cond.methodLink RX3 226 yX0_takeBack, Cond.instanceMethod yX0_takeBack, Cond.selects RX0 yX0_takeBack yX0_takeBack, Cond.initialized RX0, Cond.code yX0_takeBack cX0_takeBack 2 none, Cond.fieldLink RX0 22 "HeatedStories$History" "size" "I", Cond.fieldLink RX0 11 "HeatedStories$History" "states" "[LHeatedStories$Shelf;", Cond.fieldLink RX0 18 "HeatedStories$History" "oldest" "I", Cond.methodLink RX0 25 yX2_copyFrom, Cond.instanceMethod yX2_copyFrom, Cond.selects RX2 yX2_copyFrom yX2_copyFrom, Cond.initialized RX2, Cond.code yX2_copyFrom cX2_copyFrom 3 none, Cond.fieldLink RX2 9 "HeatedStories$Shelf" "settings" "[I", Cond.methodLink RX2 37 arraycopyName, Cond.native arraycopyName, Cond.static arraycopyName, Cond.initialized "java/lang/System", Cond.fieldLink RX2 15 "HeatedStories$Shelf" "letters" "[I", Cond.fieldLink RX2 18 "HeatedStories$Shelf" "heats" "[I", Cond.fieldLink RX2 21 "HeatedStories$Shelf" "starts" "[I"]
def wsX3_undo_r2 : List Cond := [Cond.fieldLink RX2 43 "HeatedStories$Shelf" "stories" "I", Cond.fieldLink RX2 24 "HeatedStories$Shelf" "families" "[I", Cond.fieldLink RX2 27 "HeatedStories$Shelf" "generations" "[I", Cond.fieldLink RX2 47 "HeatedStories$Shelf" "nextFamily" "I", Cond.fieldLink RX2 50 "HeatedStories$Shelf" "splits" "I", Cond.fieldLink RX2 53 "HeatedStories$Shelf" "boilings" "I", Cond.fieldLink RX2 56 "HeatedStories$Shelf" "fizzles" "I", Cond.methodLink RX2 33 yX2_words, Cond.instanceMethod yX2_words, Cond.selects RX2 yX2_words yX2_words, Cond.code yX2_words cX2_words 1 (some .int)]
def wsX3_undo : List Cond := .code yX3_undo cX3_undo 1 (some .int) :: ((wsX3_undo_r1 ++ wsX3_undo_r2) ++ wsX30 ++ wsX00 ++ wsX20)
def wsX3_save_r1 : List Cond := [Cond.fieldLink RX3 26 "HeatedStories" "slots" "[LHeatedStories$Shelf;", Cond.fieldLink RX3 10 "HeatedStories" "now" "LHeatedStories$Shelf;", Cond.fieldLink RX3 30 "HeatedStories" "saved" "[Z", Cond.fieldLink RX3 72 "HeatedStories$Shelf" "stories" "I", Cond.methodLink RX3 51 yX3_isWithin, Cond.static yX3_isWithin, Cond.initialized RX3, Cond.code yX3_isWithin cX3_isWithin 3 (some .boolean), Cond.methodLink RX3 113 yX2_copyFrom, Cond.instanceMethod yX2_copyFrom, Cond.selects RX2 yX2_copyFrom yX2_copyFrom, Cond.initialized RX2, Cond.code yX2_copyFrom cX2_copyFrom 3 none, Cond.fieldLink RX2 9 "HeatedStories$Shelf" "settings" "[I", Cond.methodLink RX2 37 arraycopyName, Cond.native arraycopyName, Cond.static arraycopyName, Cond.initialized "java/lang/System", Cond.fieldLink RX2 15 "HeatedStories$Shelf" "letters" "[I", Cond.fieldLink RX2 18 "HeatedStories$Shelf" "heats" "[I", Cond.fieldLink RX2 21 "HeatedStories$Shelf" "starts" "[I", Cond.fieldLink RX2 43 "HeatedStories$Shelf" "stories" "I", Cond.fieldLink RX2 24 "HeatedStories$Shelf" "families" "[I", Cond.fieldLink RX2 27 "HeatedStories$Shelf" "generations" "[I"]
def wsX3_save_r2 : List Cond := [Cond.fieldLink RX2 47 "HeatedStories$Shelf" "nextFamily" "I", Cond.fieldLink RX2 50 "HeatedStories$Shelf" "splits" "I", Cond.fieldLink RX2 53 "HeatedStories$Shelf" "boilings" "I", Cond.fieldLink RX2 56 "HeatedStories$Shelf" "fizzles" "I", Cond.methodLink RX2 33 yX2_words, Cond.instanceMethod yX2_words, Cond.selects RX2 yX2_words yX2_words, Cond.code yX2_words cX2_words 1 (some .int)]
def wsX3_save : List Cond := .code yX3_save cX3_save 2 (some .int) :: ((wsX3_save_r1 ++ wsX3_save_r2) ++ wsX30 ++ wsX20)
def wsX3_restore_r1 : List Cond := [Cond.fieldLink RX3 30 "HeatedStories" "saved" "[Z", Cond.fieldLink RX3 22 "HeatedStories" "history" "LHeatedStories$History;", Cond.fieldLink RX3 10 "HeatedStories" "now" "LHeatedStories$Shelf;", Cond.fieldLink RX3 26 "HeatedStories" "slots" "[LHeatedStories$Shelf;", Cond.fieldLink RX3 72 "HeatedStories$Shelf" "stories" "I", Cond.methodLink RX3 51 yX3_isWithin, Cond.static yX3_isWithin, Cond.initialized RX3, Cond.code yX3_isWithin cX3_isWithin 3 (some .boolean), Cond.methodLink RX3 61 yX0_record, Cond.instanceMethod yX0_record, Cond.selects RX0 yX0_record yX0_record, Cond.initialized RX0, Cond.code yX0_record cX0_record 2 none, Cond.fieldLink RX0 11 "HeatedStories$History" "states" "[LHeatedStories$Shelf;", Cond.fieldLink RX0 18 "HeatedStories$History" "oldest" "I", Cond.fieldLink RX0 22 "HeatedStories$History" "size" "I", Cond.methodLink RX0 25 yX2_copyFrom, Cond.instanceMethod yX2_copyFrom, Cond.selects RX2 yX2_copyFrom yX2_copyFrom, Cond.initialized RX2, Cond.code yX2_copyFrom cX2_copyFrom 3 none, Cond.fieldLink RX2 9 "HeatedStories$Shelf" "settings" "[I", Cond.methodLink RX2 37 arraycopyName]
def wsX3_restore_r2 : List Cond := [Cond.native arraycopyName, Cond.static arraycopyName, Cond.initialized "java/lang/System", Cond.fieldLink RX2 15 "HeatedStories$Shelf" "letters" "[I", Cond.fieldLink RX2 18 "HeatedStories$Shelf" "heats" "[I", Cond.fieldLink RX2 21 "HeatedStories$Shelf" "starts" "[I", Cond.fieldLink RX2 43 "HeatedStories$Shelf" "stories" "I", Cond.fieldLink RX2 24 "HeatedStories$Shelf" "families" "[I", Cond.fieldLink RX2 27 "HeatedStories$Shelf" "generations" "[I", Cond.fieldLink RX2 47 "HeatedStories$Shelf" "nextFamily" "I", Cond.fieldLink RX2 50 "HeatedStories$Shelf" "splits" "I", Cond.fieldLink RX2 53 "HeatedStories$Shelf" "boilings" "I", Cond.fieldLink RX2 56 "HeatedStories$Shelf" "fizzles" "I", Cond.methodLink RX2 33 yX2_words, Cond.instanceMethod yX2_words, Cond.selects RX2 yX2_words yX2_words, Cond.code yX2_words cX2_words 1 (some .int), Cond.methodLink RX3 113 yX2_copyFrom]
def wsX3_restore : List Cond := .code yX3_restore cX3_restore 2 (some .int) :: ((wsX3_restore_r1 ++ wsX3_restore_r2) ++ wsX30 ++ wsX20 ++ wsX00)
def wsX4_init : List Cond := .code yX4_init cX4_init 1 none :: ([.methodLink RX4 1 objectInit, .instanceMethod objectInit, .code objectInit ⟨#[0xb1]⟩ 1 none, .arrayClass .int, .fieldLink RX4 7 "HeatedStoriesModel" "s" "[I", .fieldLink RX4 13 "HeatedStoriesModel" "aside" "[I", .fieldLink RX4 16 "HeatedStoriesModel" "before" "[I", .fieldLink RX4 19 "HeatedStoriesModel" "slots" "[I", .arrayClass .boolean, .fieldLink RX4 22 "HeatedStoriesModel" "isSaved" "[Z", .fieldLink RX4 26 "HeatedStoriesModel" "pad" "[I", .fieldLink RX4 29 "HeatedStoriesModel" "letters" "[I", .fieldLink RX4 32 "HeatedStoriesModel" "heats" "[I", .fieldLink RX4 35 "HeatedStoriesModel" "toldLetter" "[I", .fieldLink RX4 38 "HeatedStoriesModel" "toldHeat" "[I", .fieldLink RX4 41 "HeatedStoriesModel" "toldStory" "[I"] ++ wsX40)
def wsX4_in : List Cond := .code yX4_in cX4_in 3 (some .boolean) :: ([])
def wsX4_isStory : List Cond := .code yX4_isStory cX4_isStory 2 (some .boolean) :: ([.fieldLink RX4 7 "HeatedStoriesModel" "s" "[I", .methodLink RX4 44 yX4_in, .static yX4_in, .initialized RX4, .code yX4_in cX4_in 3 (some .boolean)] ++ wsX40)
def wsX4_isWord : List Cond := .code yX4_isWord cX4_isWord 3 (some .boolean) :: ([.fieldLink RX4 7 "HeatedStoriesModel" "s" "[I", .methodLink RX4 48 yX4_isStory, .instanceMethod yX4_isStory, .selects RX4 yX4_isStory yX4_isStory, .initialized RX4, .code yX4_isStory cX4_isStory 2 (some .boolean), .methodLink RX4 44 yX4_in, .static yX4_in, .code yX4_in cX4_in 3 (some .boolean)] ++ wsX40)
def wsX4_first : List Cond := .code yX4_first cX4_first 4 (some .int) :: ([.fieldLink RX4 7 "HeatedStoriesModel" "s" "[I"] ++ wsX40)
def wsX4_know : List Cond := .code yX4_know cX4_know 2 none :: ([.fieldLink RX4 52 "HeatedStoriesModel" "known" "I", .fieldLink RX4 16 "HeatedStoriesModel" "before" "[I", .fieldLink RX4 7 "HeatedStoriesModel" "s" "[I"] ++ wsX40)
def wsX4_putAside : List Cond := .code yX4_putAside cX4_putAside 2 none :: ([.fieldLink RX4 13 "HeatedStoriesModel" "aside" "[I", .fieldLink RX4 7 "HeatedStoriesModel" "s" "[I"] ++ wsX40)
def wsX4_putBack : List Cond := .code yX4_putBack cX4_putBack 2 none :: ([.fieldLink RX4 7 "HeatedStoriesModel" "s" "[I", .fieldLink RX4 13 "HeatedStoriesModel" "aside" "[I"] ++ wsX40)
def wsX4_warm : List Cond := .code yX4_warm cX4_warm 4 none :: ([.fieldLink RX4 7 "HeatedStoriesModel" "s" "[I"] ++ wsX40)
def wsX4_storyOf : List Cond := .code yX4_storyOf cX4_storyOf 4 (some .int) :: ([.fieldLink RX4 7 "HeatedStoriesModel" "s" "[I"] ++ wsX40)
def wsX4_split : List Cond := .code yX4_split cX4_split 4 none :: ([.fieldLink RX4 7 "HeatedStoriesModel" "s" "[I"] ++ wsX40)
def wsX4_reactOne : List Cond := .code yX4_reactOne cX4_reactOne 5 none :: ([.fieldLink RX4 7 "HeatedStoriesModel" "s" "[I", .methodLink RX4 56 yX4_storyOf, .instanceMethod yX4_storyOf, .selects RX4 yX4_storyOf yX4_storyOf, .initialized RX4, .code yX4_storyOf cX4_storyOf 4 (some .int), .methodLink RX4 60 yX4_first, .instanceMethod yX4_first, .selects RX4 yX4_first yX4_first, .code yX4_first cX4_first 4 (some .int), .methodLink RX4 63 yX4_split, .instanceMethod yX4_split, .selects RX4 yX4_split yX4_split, .code yX4_split cX4_split 4 none, .methodLink RX4 67 yX4_warm, .instanceMethod yX4_warm, .selects RX4 yX4_warm yX4_warm, .code yX4_warm cX4_warm 4 none] ++ wsX40)
def wsX4_react : List Cond := .code yX4_react cX4_react 3 (some .int) :: ([.fieldLink RX4 7 "HeatedStoriesModel" "s" "[I", .methodLink RX4 70 yX4_reactOne, .instanceMethod yX4_reactOne, .selects RX4 yX4_reactOne yX4_reactOne, .initialized RX4, .code yX4_reactOne cX4_reactOne 5 none, .methodLink RX4 56 yX4_storyOf, .instanceMethod yX4_storyOf, .selects RX4 yX4_storyOf yX4_storyOf, .code yX4_storyOf cX4_storyOf 4 (some .int), .methodLink RX4 60 yX4_first, .instanceMethod yX4_first, .selects RX4 yX4_first yX4_first, .code yX4_first cX4_first 4 (some .int), .methodLink RX4 63 yX4_split, .instanceMethod yX4_split, .selects RX4 yX4_split yX4_split, .code yX4_split cX4_split 4 none, .methodLink RX4 67 yX4_warm, .instanceMethod yX4_warm, .selects RX4 yX4_warm yX4_warm, .code yX4_warm cX4_warm 4 none] ++ wsX40)
def wsX4_removeStory : List Cond := .code yX4_removeStory cX4_removeStory 3 none :: ([.fieldLink RX4 7 "HeatedStoriesModel" "s" "[I"] ++ wsX40)
def wsX4_removeWords : List Cond := .code yX4_removeWords cX4_removeWords 4 none :: ([.fieldLink RX4 7 "HeatedStoriesModel" "s" "[I"] ++ wsX40)
def wsX4_times : List Cond := .code yX4_times cX4_times 5 (some .int) :: ([.fieldLink RX4 7 "HeatedStoriesModel" "s" "[I", .methodLink RX4 60 yX4_first, .instanceMethod yX4_first, .selects RX4 yX4_first yX4_first, .initialized RX4, .code yX4_first cX4_first 4 (some .int)] ++ wsX40)
def wsX4_theme : List Cond := .code yX4_theme cX4_theme 4 (some .int) :: ([.methodLink RX4 74 yX4_times, .instanceMethod yX4_times, .selects RX4 yX4_times yX4_times, .initialized RX4, .code yX4_times cX4_times 5 (some .int), .fieldLink RX4 7 "HeatedStoriesModel" "s" "[I", .methodLink RX4 60 yX4_first, .instanceMethod yX4_first, .selects RX4 yX4_first yX4_first, .code yX4_first cX4_first 4 (some .int)] ++ wsX40)
def wsX4_heatOf : List Cond := .code yX4_heatOf cX4_heatOf 4 (some .int) :: ([.fieldLink RX4 7 "HeatedStoriesModel" "s" "[I", .methodLink RX4 60 yX4_first, .instanceMethod yX4_first, .selects RX4 yX4_first yX4_first, .initialized RX4, .code yX4_first cX4_first 4 (some .int)] ++ wsX40)
def wsX4_allHeat : List Cond := .code yX4_allHeat cX4_allHeat 3 (some .int) :: ([.fieldLink RX4 7 "HeatedStoriesModel" "s" "[I"] ++ wsX40)
def wsX4_set : List Cond := .code yX4_set cX4_set 6 (some .int) :: ([.fieldLink RX4 7 "HeatedStoriesModel" "s" "[I", .methodLink RX4 44 yX4_in, .static yX4_in, .initialized RX4, .code yX4_in cX4_in 3 (some .boolean), .methodLink RX4 78 yX4_know, .instanceMethod yX4_know, .selects RX4 yX4_know yX4_know, .code yX4_know cX4_know 2 none, .fieldLink RX4 52 "HeatedStoriesModel" "known" "I", .fieldLink RX4 16 "HeatedStoriesModel" "before" "[I"] ++ wsX40)
def wsX4_heat_r1 : List Cond := [Cond.methodLink RX4 81 yX4_isWord, Cond.instanceMethod yX4_isWord, Cond.selects RX4 yX4_isWord yX4_isWord, Cond.initialized RX4, Cond.code yX4_isWord cX4_isWord 3 (some .boolean), Cond.fieldLink RX4 7 "HeatedStoriesModel" "s" "[I", Cond.methodLink RX4 48 yX4_isStory, Cond.instanceMethod yX4_isStory, Cond.selects RX4 yX4_isStory yX4_isStory, Cond.code yX4_isStory cX4_isStory 2 (some .boolean), Cond.methodLink RX4 44 yX4_in, Cond.static yX4_in, Cond.code yX4_in cX4_in 3 (some .boolean), Cond.methodLink RX4 78 yX4_know, Cond.instanceMethod yX4_know, Cond.selects RX4 yX4_know yX4_know, Cond.code yX4_know cX4_know 2 none, Cond.fieldLink RX4 52 "HeatedStoriesModel" "known" "I", Cond.fieldLink RX4 16 "HeatedStoriesModel" "before" "[I", Cond.methodLink RX4 60 yX4_first, Cond.instanceMethod yX4_first, Cond.selects RX4 yX4_first yX4_first, Cond.code yX4_first cX4_first 4 (some .int), Cond.methodLink RX4 67 yX4_warm]
def wsX4_heat_r2 : List Cond := [Cond.instanceMethod yX4_warm, Cond.selects RX4 yX4_warm yX4_warm, Cond.code yX4_warm cX4_warm 4 none, Cond.methodLink RX4 85 yX4_react, Cond.instanceMethod yX4_react, Cond.selects RX4 yX4_react yX4_react, Cond.code yX4_react cX4_react 3 (some .int), Cond.methodLink RX4 70 yX4_reactOne, Cond.instanceMethod yX4_reactOne, Cond.selects RX4 yX4_reactOne yX4_reactOne, Cond.code yX4_reactOne cX4_reactOne 5 none, Cond.methodLink RX4 56 yX4_storyOf, Cond.instanceMethod yX4_storyOf, Cond.selects RX4 yX4_storyOf yX4_storyOf, Cond.code yX4_storyOf cX4_storyOf 4 (some .int), Cond.methodLink RX4 63 yX4_split, Cond.instanceMethod yX4_split, Cond.selects RX4 yX4_split yX4_split, Cond.code yX4_split cX4_split 4 none]
def wsX4_heat : List Cond := .code yX4_heat cX4_heat 4 (some .int) :: ((wsX4_heat_r1 ++ wsX4_heat_r2) ++ wsX40)
def wsX4_read_r1 : List Cond := [Cond.fieldLink RX4 7 "HeatedStoriesModel" "s" "[I", Cond.methodLink RX4 48 yX4_isStory, Cond.instanceMethod yX4_isStory, Cond.selects RX4 yX4_isStory yX4_isStory, Cond.initialized RX4, Cond.code yX4_isStory cX4_isStory 2 (some .boolean), Cond.methodLink RX4 44 yX4_in, Cond.static yX4_in, Cond.code yX4_in cX4_in 3 (some .boolean), Cond.methodLink RX4 78 yX4_know, Cond.instanceMethod yX4_know, Cond.selects RX4 yX4_know yX4_know, Cond.code yX4_know cX4_know 2 none, Cond.fieldLink RX4 52 "HeatedStoriesModel" "known" "I", Cond.fieldLink RX4 16 "HeatedStoriesModel" "before" "[I", Cond.methodLink RX4 60 yX4_first, Cond.instanceMethod yX4_first, Cond.selects RX4 yX4_first yX4_first, Cond.code yX4_first cX4_first 4 (some .int), Cond.methodLink RX4 67 yX4_warm, Cond.instanceMethod yX4_warm, Cond.selects RX4 yX4_warm yX4_warm, Cond.code yX4_warm cX4_warm 4 none, Cond.methodLink RX4 85 yX4_react]
def wsX4_read_r2 : List Cond := [Cond.instanceMethod yX4_react, Cond.selects RX4 yX4_react yX4_react, Cond.code yX4_react cX4_react 3 (some .int), Cond.methodLink RX4 70 yX4_reactOne, Cond.instanceMethod yX4_reactOne, Cond.selects RX4 yX4_reactOne yX4_reactOne, Cond.code yX4_reactOne cX4_reactOne 5 none, Cond.methodLink RX4 56 yX4_storyOf, Cond.instanceMethod yX4_storyOf, Cond.selects RX4 yX4_storyOf yX4_storyOf, Cond.code yX4_storyOf cX4_storyOf 4 (some .int), Cond.methodLink RX4 63 yX4_split, Cond.instanceMethod yX4_split, Cond.selects RX4 yX4_split yX4_split, Cond.code yX4_split cX4_split 4 none]
def wsX4_read : List Cond := .code yX4_read cX4_read 4 (some .int) :: ((wsX4_read_r1 ++ wsX4_read_r2) ++ wsX40)
def wsX4_fuse_r1 : List Cond := [Cond.fieldLink RX4 7 "HeatedStoriesModel" "s" "[I", Cond.fieldLink RX4 29 "HeatedStoriesModel" "letters" "[I", Cond.fieldLink RX4 32 "HeatedStoriesModel" "heats" "[I", Cond.methodLink RX4 48 yX4_isStory, Cond.instanceMethod yX4_isStory, Cond.selects RX4 yX4_isStory yX4_isStory, Cond.initialized RX4, Cond.code yX4_isStory cX4_isStory 2 (some .boolean), Cond.methodLink RX4 44 yX4_in, Cond.static yX4_in, Cond.code yX4_in cX4_in 3 (some .boolean), Cond.methodLink RX4 89 yX4_theme, Cond.instanceMethod yX4_theme, Cond.selects RX4 yX4_theme yX4_theme, Cond.code yX4_theme cX4_theme 4 (some .int), Cond.methodLink RX4 74 yX4_times, Cond.instanceMethod yX4_times, Cond.selects RX4 yX4_times yX4_times, Cond.code yX4_times cX4_times 5 (some .int), Cond.methodLink RX4 60 yX4_first, Cond.instanceMethod yX4_first, Cond.selects RX4 yX4_first yX4_first, Cond.code yX4_first cX4_first 4 (some .int), Cond.methodLink RX4 78 yX4_know]
def wsX4_fuse_r2 : List Cond := [Cond.instanceMethod yX4_know, Cond.selects RX4 yX4_know yX4_know, Cond.code yX4_know cX4_know 2 none, Cond.fieldLink RX4 52 "HeatedStoriesModel" "known" "I", Cond.fieldLink RX4 16 "HeatedStoriesModel" "before" "[I", Cond.methodLink RX4 92 yX4_removeWords, Cond.instanceMethod yX4_removeWords, Cond.selects RX4 yX4_removeWords yX4_removeWords, Cond.code yX4_removeWords cX4_removeWords 4 none, Cond.methodLink RX4 95 yX4_removeStory, Cond.instanceMethod yX4_removeStory, Cond.selects RX4 yX4_removeStory yX4_removeStory, Cond.code yX4_removeStory cX4_removeStory 3 none, Cond.methodLink RX4 67 yX4_warm, Cond.instanceMethod yX4_warm, Cond.selects RX4 yX4_warm yX4_warm, Cond.code yX4_warm cX4_warm 4 none, Cond.methodLink RX4 85 yX4_react, Cond.instanceMethod yX4_react, Cond.selects RX4 yX4_react yX4_react, Cond.code yX4_react cX4_react 3 (some .int), Cond.methodLink RX4 70 yX4_reactOne, Cond.instanceMethod yX4_reactOne, Cond.selects RX4 yX4_reactOne yX4_reactOne]
def wsX4_fuse_r3 : List Cond := [Cond.code yX4_reactOne cX4_reactOne 5 none, Cond.methodLink RX4 56 yX4_storyOf, Cond.instanceMethod yX4_storyOf, Cond.selects RX4 yX4_storyOf yX4_storyOf, Cond.code yX4_storyOf cX4_storyOf 4 (some .int), Cond.methodLink RX4 63 yX4_split, Cond.instanceMethod yX4_split, Cond.selects RX4 yX4_split yX4_split, Cond.code yX4_split cX4_split 4 none]
def wsX4_fuse : List Cond := .code yX4_fuse cX4_fuse 8 (some .int) :: ((wsX4_fuse_r1 ++ (wsX4_fuse_r2 ++ wsX4_fuse_r3)) ++ wsX40)
def wsX4_pass : List Cond := .code yX4_pass cX4_pass 4 (some .int) :: ([.fieldLink RX4 7 "HeatedStoriesModel" "s" "[I", .methodLink RX4 44 yX4_in, .static yX4_in, .initialized RX4, .code yX4_in cX4_in 3 (some .boolean), .methodLink RX4 78 yX4_know, .instanceMethod yX4_know, .selects RX4 yX4_know yX4_know, .code yX4_know cX4_know 2 none, .fieldLink RX4 52 "HeatedStoriesModel" "known" "I", .fieldLink RX4 16 "HeatedStoriesModel" "before" "[I", .methodLink RX4 98 yX4_allHeat, .instanceMethod yX4_allHeat, .selects RX4 yX4_allHeat yX4_allHeat, .code yX4_allHeat cX4_allHeat 3 (some .int)] ++ wsX40)
def wsX4_burn_r1 : List Cond := [Cond.fieldLink RX4 7 "HeatedStoriesModel" "s" "[I", Cond.methodLink RX4 48 yX4_isStory, Cond.instanceMethod yX4_isStory, Cond.selects RX4 yX4_isStory yX4_isStory, Cond.initialized RX4, Cond.code yX4_isStory cX4_isStory 2 (some .boolean), Cond.methodLink RX4 44 yX4_in, Cond.static yX4_in, Cond.code yX4_in cX4_in 3 (some .boolean), Cond.methodLink RX4 78 yX4_know, Cond.instanceMethod yX4_know, Cond.selects RX4 yX4_know yX4_know, Cond.code yX4_know cX4_know 2 none, Cond.fieldLink RX4 52 "HeatedStoriesModel" "known" "I", Cond.fieldLink RX4 16 "HeatedStoriesModel" "before" "[I", Cond.methodLink RX4 60 yX4_first, Cond.instanceMethod yX4_first, Cond.selects RX4 yX4_first yX4_first, Cond.code yX4_first cX4_first 4 (some .int), Cond.methodLink RX4 92 yX4_removeWords, Cond.instanceMethod yX4_removeWords, Cond.selects RX4 yX4_removeWords yX4_removeWords, Cond.code yX4_removeWords cX4_removeWords 4 none, Cond.methodLink RX4 95 yX4_removeStory]
def wsX4_burn_r2 : List Cond := [Cond.instanceMethod yX4_removeStory, Cond.selects RX4 yX4_removeStory yX4_removeStory, Cond.code yX4_removeStory cX4_removeStory 3 none]
def wsX4_burn : List Cond := .code yX4_burn cX4_burn 3 (some .int) :: ((wsX4_burn_r1 ++ wsX4_burn_r2) ++ wsX40)
def wsX4_word : List Cond := .code yX4_word cX4_word 5 (some .int) :: ([.fieldLink RX4 7 "HeatedStoriesModel" "s" "[I", .methodLink RX4 81 yX4_isWord, .instanceMethod yX4_isWord, .selects RX4 yX4_isWord yX4_isWord, .initialized RX4, .code yX4_isWord cX4_isWord 3 (some .boolean), .methodLink RX4 48 yX4_isStory, .instanceMethod yX4_isStory, .selects RX4 yX4_isStory yX4_isStory, .code yX4_isStory cX4_isStory 2 (some .boolean), .methodLink RX4 44 yX4_in, .static yX4_in, .code yX4_in cX4_in 3 (some .boolean), .methodLink RX4 60 yX4_first, .instanceMethod yX4_first, .selects RX4 yX4_first yX4_first, .code yX4_first cX4_first 4 (some .int), .methodLink RX4 74 yX4_times, .instanceMethod yX4_times, .selects RX4 yX4_times yX4_times, .code yX4_times cX4_times 5 (some .int)] ++ wsX40)
def wsX4_hottest : List Cond := .code yX4_hottest cX4_hottest 4 (some .int) :: ([.fieldLink RX4 7 "HeatedStoriesModel" "s" "[I", .methodLink RX4 60 yX4_first, .instanceMethod yX4_first, .selects RX4 yX4_first yX4_first, .initialized RX4, .code yX4_first cX4_first 4 (some .int)] ++ wsX40)
def wsX4_unlike : List Cond := .code yX4_unlike cX4_unlike 4 (some .int) :: ([.methodLink RX4 74 yX4_times, .instanceMethod yX4_times, .selects RX4 yX4_times yX4_times, .initialized RX4, .code yX4_times cX4_times 5 (some .int), .fieldLink RX4 7 "HeatedStoriesModel" "s" "[I", .methodLink RX4 60 yX4_first, .instanceMethod yX4_first, .selects RX4 yX4_first yX4_first, .code yX4_first cX4_first 4 (some .int)] ++ wsX40)
def wsX4_isSameBackwards : List Cond := .code yX4_isSameBackwards cX4_isSameBackwards 6 (some .int) :: ([.fieldLink RX4 7 "HeatedStoriesModel" "s" "[I", .methodLink RX4 60 yX4_first, .instanceMethod yX4_first, .selects RX4 yX4_first yX4_first, .initialized RX4, .code yX4_first cX4_first 4 (some .int)] ++ wsX40)
def wsX4_story_r1 : List Cond := [Cond.fieldLink RX4 7 "HeatedStoriesModel" "s" "[I", Cond.methodLink RX4 48 yX4_isStory, Cond.instanceMethod yX4_isStory, Cond.selects RX4 yX4_isStory yX4_isStory, Cond.initialized RX4, Cond.code yX4_isStory cX4_isStory 2 (some .boolean), Cond.methodLink RX4 44 yX4_in, Cond.static yX4_in, Cond.code yX4_in cX4_in 3 (some .boolean), Cond.methodLink RX4 101 yX4_heatOf, Cond.instanceMethod yX4_heatOf, Cond.selects RX4 yX4_heatOf yX4_heatOf, Cond.code yX4_heatOf cX4_heatOf 4 (some .int), Cond.methodLink RX4 60 yX4_first, Cond.instanceMethod yX4_first, Cond.selects RX4 yX4_first yX4_first, Cond.code yX4_first cX4_first 4 (some .int), Cond.methodLink RX4 89 yX4_theme, Cond.instanceMethod yX4_theme, Cond.selects RX4 yX4_theme yX4_theme, Cond.code yX4_theme cX4_theme 4 (some .int), Cond.methodLink RX4 74 yX4_times, Cond.instanceMethod yX4_times, Cond.selects RX4 yX4_times yX4_times]
def wsX4_story_r2 : List Cond := [Cond.code yX4_times cX4_times 5 (some .int), Cond.methodLink RX4 104 yX4_hottest, Cond.instanceMethod yX4_hottest, Cond.selects RX4 yX4_hottest yX4_hottest, Cond.code yX4_hottest cX4_hottest 4 (some .int), Cond.methodLink RX4 107 yX4_unlike, Cond.instanceMethod yX4_unlike, Cond.selects RX4 yX4_unlike yX4_unlike, Cond.code yX4_unlike cX4_unlike 4 (some .int), Cond.methodLink RX4 110 yX4_isSameBackwards, Cond.instanceMethod yX4_isSameBackwards, Cond.selects RX4 yX4_isSameBackwards yX4_isSameBackwards, Cond.code yX4_isSameBackwards cX4_isSameBackwards 6 (some .int)]
def wsX4_story : List Cond := .code yX4_story cX4_story 3 (some .int) :: ((wsX4_story_r1 ++ wsX4_story_r2) ++ wsX40)
def wsX4_families : List Cond := .code yX4_families cX4_families 5 (some .int) :: ([.fieldLink RX4 7 "HeatedStoriesModel" "s" "[I"] ++ wsX40)
def wsX4_greatest : List Cond := .code yX4_greatest cX4_greatest 3 (some .int) :: ([.fieldLink RX4 7 "HeatedStoriesModel" "s" "[I"] ++ wsX40)
def wsX4_count : List Cond := .code yX4_count cX4_count 2 (some .int) :: ([.fieldLink RX4 7 "HeatedStoriesModel" "s" "[I", .fieldLink RX4 119 "HeatedStoriesModel" "length" "I", .fieldLink RX4 52 "HeatedStoriesModel" "known" "I", .methodLink RX4 98 yX4_allHeat, .instanceMethod yX4_allHeat, .selects RX4 yX4_allHeat yX4_allHeat, .initialized RX4, .code yX4_allHeat cX4_allHeat 3 (some .int), .methodLink RX4 113 yX4_families, .instanceMethod yX4_families, .selects RX4 yX4_families yX4_families, .code yX4_families cX4_families 5 (some .int), .methodLink RX4 116 yX4_greatest, .instanceMethod yX4_greatest, .selects RX4 yX4_greatest yX4_greatest, .code yX4_greatest cX4_greatest 3 (some .int)] ++ wsX40)
def wsX4_letter : List Cond := .code yX4_letter cX4_letter 5 (some .int) :: ([.fieldLink RX4 7 "HeatedStoriesModel" "s" "[I", .methodLink RX4 44 yX4_in, .static yX4_in, .initialized RX4, .code yX4_in cX4_in 3 (some .boolean), .methodLink RX4 74 yX4_times, .instanceMethod yX4_times, .selects RX4 yX4_times yX4_times, .code yX4_times cX4_times 5 (some .int), .methodLink RX4 60 yX4_first, .instanceMethod yX4_first, .selects RX4 yX4_first yX4_first, .code yX4_first cX4_first 4 (some .int), .methodLink RX4 89 yX4_theme, .instanceMethod yX4_theme, .selects RX4 yX4_theme yX4_theme, .code yX4_theme cX4_theme 4 (some .int)] ++ wsX40)
def wsX4_sideBySide : List Cond := .code yX4_sideBySide cX4_sideBySide 11 (some .int) :: ([.fieldLink RX4 7 "HeatedStoriesModel" "s" "[I", .methodLink RX4 44 yX4_in, .static yX4_in, .initialized RX4, .code yX4_in cX4_in 3 (some .boolean), .methodLink RX4 60 yX4_first, .instanceMethod yX4_first, .selects RX4 yX4_first yX4_first, .code yX4_first cX4_first 4 (some .int)] ++ wsX40)
def wsX4_common : List Cond := .code yX4_common cX4_common 9 (some .int) :: ([.fieldLink RX4 7 "HeatedStoriesModel" "s" "[I", .methodLink RX4 48 yX4_isStory, .instanceMethod yX4_isStory, .selects RX4 yX4_isStory yX4_isStory, .initialized RX4, .code yX4_isStory cX4_isStory 2 (some .boolean), .methodLink RX4 44 yX4_in, .static yX4_in, .code yX4_in cX4_in 3 (some .boolean), .methodLink RX4 60 yX4_first, .instanceMethod yX4_first, .selects RX4 yX4_first yX4_first, .code yX4_first cX4_first 4 (some .int)] ++ wsX40)
def wsX4_tryHeat_r1 : List Cond := [Cond.fieldLink RX4 125 "HeatedStoriesModel" "reactions" "I", Cond.fieldLink RX4 7 "HeatedStoriesModel" "s" "[I", Cond.fieldLink RX4 13 "HeatedStoriesModel" "aside" "[I", Cond.fieldLink RX4 128 "HeatedStoriesModel" "newSplits" "I", Cond.fieldLink RX4 131 "HeatedStoriesModel" "storiesThen" "I", Cond.fieldLink RX4 134 "HeatedStoriesModel" "heatThen" "I", Cond.methodLink RX4 122 yX4_putAside, Cond.instanceMethod yX4_putAside, Cond.selects RX4 yX4_putAside yX4_putAside, Cond.initialized RX4, Cond.code yX4_putAside cX4_putAside 2 none, Cond.methodLink RX4 67 yX4_warm, Cond.instanceMethod yX4_warm, Cond.selects RX4 yX4_warm yX4_warm, Cond.code yX4_warm cX4_warm 4 none, Cond.methodLink RX4 85 yX4_react, Cond.instanceMethod yX4_react, Cond.selects RX4 yX4_react yX4_react, Cond.code yX4_react cX4_react 3 (some .int), Cond.methodLink RX4 70 yX4_reactOne, Cond.instanceMethod yX4_reactOne, Cond.selects RX4 yX4_reactOne yX4_reactOne, Cond.code yX4_reactOne cX4_reactOne 5 none, Cond.methodLink RX4 56 yX4_storyOf]
def wsX4_tryHeat_r2 : List Cond := [Cond.instanceMethod yX4_storyOf, Cond.selects RX4 yX4_storyOf yX4_storyOf, Cond.code yX4_storyOf cX4_storyOf 4 (some .int), Cond.methodLink RX4 60 yX4_first, Cond.instanceMethod yX4_first, Cond.selects RX4 yX4_first yX4_first, Cond.code yX4_first cX4_first 4 (some .int), Cond.methodLink RX4 63 yX4_split, Cond.instanceMethod yX4_split, Cond.selects RX4 yX4_split yX4_split, Cond.code yX4_split cX4_split 4 none, Cond.methodLink RX4 98 yX4_allHeat, Cond.instanceMethod yX4_allHeat, Cond.selects RX4 yX4_allHeat yX4_allHeat, Cond.code yX4_allHeat cX4_allHeat 3 (some .int), Cond.methodLink RX4 137 yX4_putBack, Cond.instanceMethod yX4_putBack, Cond.selects RX4 yX4_putBack yX4_putBack, Cond.code yX4_putBack cX4_putBack 2 none]
def wsX4_tryHeat : List Cond := .code yX4_tryHeat cX4_tryHeat 3 none :: ((wsX4_tryHeat_r1 ++ wsX4_tryHeat_r2) ++ wsX40)
def wsX4_ifHeated_r1 : List Cond := [Cond.fieldLink RX4 125 "HeatedStoriesModel" "reactions" "I", Cond.fieldLink RX4 128 "HeatedStoriesModel" "newSplits" "I", Cond.fieldLink RX4 131 "HeatedStoriesModel" "storiesThen" "I", Cond.fieldLink RX4 134 "HeatedStoriesModel" "heatThen" "I", Cond.methodLink RX4 81 yX4_isWord, Cond.instanceMethod yX4_isWord, Cond.selects RX4 yX4_isWord yX4_isWord, Cond.initialized RX4, Cond.code yX4_isWord cX4_isWord 3 (some .boolean), Cond.fieldLink RX4 7 "HeatedStoriesModel" "s" "[I", Cond.methodLink RX4 48 yX4_isStory, Cond.instanceMethod yX4_isStory, Cond.selects RX4 yX4_isStory yX4_isStory, Cond.code yX4_isStory cX4_isStory 2 (some .boolean), Cond.methodLink RX4 44 yX4_in, Cond.static yX4_in, Cond.code yX4_in cX4_in 3 (some .boolean), Cond.methodLink RX4 60 yX4_first, Cond.instanceMethod yX4_first, Cond.selects RX4 yX4_first yX4_first, Cond.code yX4_first cX4_first 4 (some .int), Cond.methodLink RX4 140 yX4_tryHeat, Cond.instanceMethod yX4_tryHeat, Cond.selects RX4 yX4_tryHeat yX4_tryHeat]
def wsX4_ifHeated_r2 : List Cond := [Cond.code yX4_tryHeat cX4_tryHeat 3 none, Cond.fieldLink RX4 13 "HeatedStoriesModel" "aside" "[I", Cond.methodLink RX4 122 yX4_putAside, Cond.instanceMethod yX4_putAside, Cond.selects RX4 yX4_putAside yX4_putAside, Cond.code yX4_putAside cX4_putAside 2 none, Cond.methodLink RX4 67 yX4_warm, Cond.instanceMethod yX4_warm, Cond.selects RX4 yX4_warm yX4_warm, Cond.code yX4_warm cX4_warm 4 none, Cond.methodLink RX4 85 yX4_react, Cond.instanceMethod yX4_react, Cond.selects RX4 yX4_react yX4_react, Cond.code yX4_react cX4_react 3 (some .int), Cond.methodLink RX4 70 yX4_reactOne, Cond.instanceMethod yX4_reactOne, Cond.selects RX4 yX4_reactOne yX4_reactOne, Cond.code yX4_reactOne cX4_reactOne 5 none, Cond.methodLink RX4 56 yX4_storyOf, Cond.instanceMethod yX4_storyOf, Cond.selects RX4 yX4_storyOf yX4_storyOf, Cond.code yX4_storyOf cX4_storyOf 4 (some .int), Cond.methodLink RX4 63 yX4_split, Cond.instanceMethod yX4_split]
def wsX4_ifHeated_r3 : List Cond := [Cond.selects RX4 yX4_split yX4_split, Cond.code yX4_split cX4_split 4 none, Cond.methodLink RX4 98 yX4_allHeat, Cond.instanceMethod yX4_allHeat, Cond.selects RX4 yX4_allHeat yX4_allHeat, Cond.code yX4_allHeat cX4_allHeat 3 (some .int), Cond.methodLink RX4 137 yX4_putBack, Cond.instanceMethod yX4_putBack, Cond.selects RX4 yX4_putBack yX4_putBack, Cond.code yX4_putBack cX4_putBack 2 none]
def wsX4_ifHeated : List Cond := .code yX4_ifHeated cX4_ifHeated 5 (some .int) :: ((wsX4_ifHeated_r1 ++ (wsX4_ifHeated_r2 ++ wsX4_ifHeated_r3)) ++ wsX40)
def wsX4_critical_r1 : List Cond := [Cond.fieldLink RX4 128 "HeatedStoriesModel" "newSplits" "I", Cond.methodLink RX4 81 yX4_isWord, Cond.instanceMethod yX4_isWord, Cond.selects RX4 yX4_isWord yX4_isWord, Cond.initialized RX4, Cond.code yX4_isWord cX4_isWord 3 (some .boolean), Cond.fieldLink RX4 7 "HeatedStoriesModel" "s" "[I", Cond.methodLink RX4 48 yX4_isStory, Cond.instanceMethod yX4_isStory, Cond.selects RX4 yX4_isStory yX4_isStory, Cond.code yX4_isStory cX4_isStory 2 (some .boolean), Cond.methodLink RX4 44 yX4_in, Cond.static yX4_in, Cond.code yX4_in cX4_in 3 (some .boolean), Cond.methodLink RX4 60 yX4_first, Cond.instanceMethod yX4_first, Cond.selects RX4 yX4_first yX4_first, Cond.code yX4_first cX4_first 4 (some .int), Cond.methodLink RX4 140 yX4_tryHeat, Cond.instanceMethod yX4_tryHeat, Cond.selects RX4 yX4_tryHeat yX4_tryHeat, Cond.code yX4_tryHeat cX4_tryHeat 3 none, Cond.fieldLink RX4 125 "HeatedStoriesModel" "reactions" "I", Cond.fieldLink RX4 13 "HeatedStoriesModel" "aside" "[I"]
def wsX4_critical_r2 : List Cond := [Cond.fieldLink RX4 131 "HeatedStoriesModel" "storiesThen" "I", Cond.fieldLink RX4 134 "HeatedStoriesModel" "heatThen" "I", Cond.methodLink RX4 122 yX4_putAside, Cond.instanceMethod yX4_putAside, Cond.selects RX4 yX4_putAside yX4_putAside, Cond.code yX4_putAside cX4_putAside 2 none, Cond.methodLink RX4 67 yX4_warm, Cond.instanceMethod yX4_warm, Cond.selects RX4 yX4_warm yX4_warm, Cond.code yX4_warm cX4_warm 4 none, Cond.methodLink RX4 85 yX4_react, Cond.instanceMethod yX4_react, Cond.selects RX4 yX4_react yX4_react, Cond.code yX4_react cX4_react 3 (some .int), Cond.methodLink RX4 70 yX4_reactOne, Cond.instanceMethod yX4_reactOne, Cond.selects RX4 yX4_reactOne yX4_reactOne, Cond.code yX4_reactOne cX4_reactOne 5 none, Cond.methodLink RX4 56 yX4_storyOf, Cond.instanceMethod yX4_storyOf, Cond.selects RX4 yX4_storyOf yX4_storyOf, Cond.code yX4_storyOf cX4_storyOf 4 (some .int), Cond.methodLink RX4 63 yX4_split, Cond.instanceMethod yX4_split]
def wsX4_critical_r3 : List Cond := [Cond.selects RX4 yX4_split yX4_split, Cond.code yX4_split cX4_split 4 none, Cond.methodLink RX4 98 yX4_allHeat, Cond.instanceMethod yX4_allHeat, Cond.selects RX4 yX4_allHeat yX4_allHeat, Cond.code yX4_allHeat cX4_allHeat 3 (some .int), Cond.methodLink RX4 137 yX4_putBack, Cond.instanceMethod yX4_putBack, Cond.selects RX4 yX4_putBack yX4_putBack, Cond.code yX4_putBack cX4_putBack 2 none]
def wsX4_critical : List Cond := .code yX4_critical cX4_critical 4 (some .int) :: ((wsX4_critical_r1 ++ (wsX4_critical_r2 ++ wsX4_critical_r3)) ++ wsX40)
def wsX4_touchiest_r1 : List Cond := [Cond.fieldLink RX4 7 "HeatedStoriesModel" "s" "[I", Cond.fieldLink RX4 125 "HeatedStoriesModel" "reactions" "I", Cond.methodLink RX4 44 yX4_in, Cond.static yX4_in, Cond.initialized RX4, Cond.code yX4_in cX4_in 3 (some .boolean), Cond.methodLink RX4 140 yX4_tryHeat, Cond.instanceMethod yX4_tryHeat, Cond.selects RX4 yX4_tryHeat yX4_tryHeat, Cond.code yX4_tryHeat cX4_tryHeat 3 none, Cond.fieldLink RX4 13 "HeatedStoriesModel" "aside" "[I", Cond.fieldLink RX4 128 "HeatedStoriesModel" "newSplits" "I", Cond.fieldLink RX4 131 "HeatedStoriesModel" "storiesThen" "I", Cond.fieldLink RX4 134 "HeatedStoriesModel" "heatThen" "I", Cond.methodLink RX4 122 yX4_putAside, Cond.instanceMethod yX4_putAside, Cond.selects RX4 yX4_putAside yX4_putAside, Cond.code yX4_putAside cX4_putAside 2 none, Cond.methodLink RX4 67 yX4_warm, Cond.instanceMethod yX4_warm, Cond.selects RX4 yX4_warm yX4_warm, Cond.code yX4_warm cX4_warm 4 none, Cond.methodLink RX4 85 yX4_react, Cond.instanceMethod yX4_react]
def wsX4_touchiest_r2 : List Cond := [Cond.selects RX4 yX4_react yX4_react, Cond.code yX4_react cX4_react 3 (some .int), Cond.methodLink RX4 70 yX4_reactOne, Cond.instanceMethod yX4_reactOne, Cond.selects RX4 yX4_reactOne yX4_reactOne, Cond.code yX4_reactOne cX4_reactOne 5 none, Cond.methodLink RX4 56 yX4_storyOf, Cond.instanceMethod yX4_storyOf, Cond.selects RX4 yX4_storyOf yX4_storyOf, Cond.code yX4_storyOf cX4_storyOf 4 (some .int), Cond.methodLink RX4 60 yX4_first, Cond.instanceMethod yX4_first, Cond.selects RX4 yX4_first yX4_first, Cond.code yX4_first cX4_first 4 (some .int), Cond.methodLink RX4 63 yX4_split, Cond.instanceMethod yX4_split, Cond.selects RX4 yX4_split yX4_split, Cond.code yX4_split cX4_split 4 none, Cond.methodLink RX4 98 yX4_allHeat, Cond.instanceMethod yX4_allHeat, Cond.selects RX4 yX4_allHeat yX4_allHeat, Cond.code yX4_allHeat cX4_allHeat 3 (some .int), Cond.methodLink RX4 137 yX4_putBack, Cond.instanceMethod yX4_putBack]
def wsX4_touchiest_r3 : List Cond := [Cond.selects RX4 yX4_putBack yX4_putBack, Cond.code yX4_putBack cX4_putBack 2 none]
def wsX4_touchiest : List Cond := .code yX4_touchiest cX4_touchiest 6 (some .int) :: ((wsX4_touchiest_r1 ++ (wsX4_touchiest_r2 ++ wsX4_touchiest_r3)) ++ wsX40)
def wsX4_coolestPair : List Cond := .code yX4_coolestPair cX4_coolestPair 9 (some .int) :: ([.fieldLink RX4 7 "HeatedStoriesModel" "s" "[I", .methodLink RX4 44 yX4_in, .static yX4_in, .initialized RX4, .code yX4_in cX4_in 3 (some .boolean), .methodLink RX4 101 yX4_heatOf, .instanceMethod yX4_heatOf, .selects RX4 yX4_heatOf yX4_heatOf, .code yX4_heatOf cX4_heatOf 4 (some .int), .methodLink RX4 60 yX4_first, .instanceMethod yX4_first, .selects RX4 yX4_first yX4_first, .code yX4_first cX4_first 4 (some .int), .methodLink RX4 89 yX4_theme, .instanceMethod yX4_theme, .selects RX4 yX4_theme yX4_theme, .code yX4_theme cX4_theme 4 (some .int), .methodLink RX4 74 yX4_times, .instanceMethod yX4_times, .selects RX4 yX4_times yX4_times, .code yX4_times cX4_times 5 (some .int)] ++ wsX40)
def wsX4_put : List Cond := .code yX4_put cX4_put 8 (some .int) :: ([.constantLong RX4 143 (255), .fieldLink RX4 119 "HeatedStoriesModel" "length" "I", .fieldLink RX4 26 "HeatedStoriesModel" "pad" "[I", .methodLink RX4 44 yX4_in, .static yX4_in, .initialized RX4, .code yX4_in cX4_in 3 (some .boolean)] ++ wsX40)
def wsX4_wipe : List Cond := .code yX4_wipe cX4_wipe 2 (some .int) :: ([.fieldLink RX4 119 "HeatedStoriesModel" "length" "I"] ++ wsX40)
def wsX4_sign : List Cond := .code yX4_sign cX4_sign 4 (some .int) :: ([.fieldLink RX4 145 "HeatedStoriesModel" "place" "I", .fieldLink RX4 119 "HeatedStoriesModel" "length" "I", .fieldLink RX4 26 "HeatedStoriesModel" "pad" "[I", .fieldLink RX4 148 "HeatedStoriesModel" "isWrong" "Z", .methodLink RX4 44 yX4_in, .static yX4_in, .initialized RX4, .code yX4_in cX4_in 3 (some .boolean)] ++ wsX40)
def wsX4_isNext : List Cond := .code yX4_isNext cX4_isNext 3 (some .boolean) :: ([.fieldLink RX4 148 "HeatedStoriesModel" "isWrong" "Z", .fieldLink RX4 145 "HeatedStoriesModel" "place" "I", .fieldLink RX4 119 "HeatedStoriesModel" "length" "I", .fieldLink RX4 26 "HeatedStoriesModel" "pad" "[I", .methodLink RX4 44 yX4_in, .static yX4_in, .initialized RX4, .code yX4_in cX4_in 3 (some .boolean)] ++ wsX40)
def wsX4_readPad : List Cond := .code yX4_readPad cX4_readPad 5 none :: ([.fieldLink RX4 145 "HeatedStoriesModel" "place" "I", .fieldLink RX4 148 "HeatedStoriesModel" "isWrong" "Z", .fieldLink RX4 152 "HeatedStoriesModel" "toldWords" "I", .fieldLink RX4 155 "HeatedStoriesModel" "toldStories" "I", .fieldLink RX4 35 "HeatedStoriesModel" "toldLetter" "[I", .fieldLink RX4 38 "HeatedStoriesModel" "toldHeat" "[I", .fieldLink RX4 41 "HeatedStoriesModel" "toldStory" "[I", .fieldLink RX4 119 "HeatedStoriesModel" "length" "I", .methodLink RX4 158 yX4_sign, .instanceMethod yX4_sign, .selects RX4 yX4_sign yX4_sign, .initialized RX4, .code yX4_sign cX4_sign 4 (some .int), .fieldLink RX4 26 "HeatedStoriesModel" "pad" "[I", .methodLink RX4 44 yX4_in, .static yX4_in, .code yX4_in cX4_in 3 (some .boolean), .methodLink RX4 161 yX4_isNext, .instanceMethod yX4_isNext, .selects RX4 yX4_isNext yX4_isNext, .code yX4_isNext cX4_isNext 3 (some .boolean)] ++ wsX40)
def wsX4_fault_r1 : List Cond := [Cond.fieldLink RX4 148 "HeatedStoriesModel" "isWrong" "Z", Cond.fieldLink RX4 145 "HeatedStoriesModel" "place" "I", Cond.methodLink RX4 164 yX4_readPad, Cond.instanceMethod yX4_readPad, Cond.selects RX4 yX4_readPad yX4_readPad, Cond.initialized RX4, Cond.code yX4_readPad cX4_readPad 5 none, Cond.fieldLink RX4 152 "HeatedStoriesModel" "toldWords" "I", Cond.fieldLink RX4 155 "HeatedStoriesModel" "toldStories" "I", Cond.fieldLink RX4 35 "HeatedStoriesModel" "toldLetter" "[I", Cond.fieldLink RX4 38 "HeatedStoriesModel" "toldHeat" "[I", Cond.fieldLink RX4 41 "HeatedStoriesModel" "toldStory" "[I", Cond.fieldLink RX4 119 "HeatedStoriesModel" "length" "I", Cond.methodLink RX4 158 yX4_sign, Cond.instanceMethod yX4_sign, Cond.selects RX4 yX4_sign yX4_sign, Cond.code yX4_sign cX4_sign 4 (some .int), Cond.fieldLink RX4 26 "HeatedStoriesModel" "pad" "[I", Cond.methodLink RX4 44 yX4_in, Cond.static yX4_in, Cond.code yX4_in cX4_in 3 (some .boolean), Cond.methodLink RX4 161 yX4_isNext, Cond.instanceMethod yX4_isNext, Cond.selects RX4 yX4_isNext yX4_isNext]
def wsX4_fault_r2 : List Cond := [Cond.code yX4_isNext cX4_isNext 3 (some .boolean)]
def wsX4_fault : List Cond := .code yX4_fault cX4_fault 1 (some .int) :: ((wsX4_fault_r1 ++ wsX4_fault_r2) ++ wsX40)
def wsX4_write_r1 : List Cond := [Cond.fieldLink RX4 148 "HeatedStoriesModel" "isWrong" "Z", Cond.fieldLink RX4 7 "HeatedStoriesModel" "s" "[I", Cond.fieldLink RX4 155 "HeatedStoriesModel" "toldStories" "I", Cond.fieldLink RX4 152 "HeatedStoriesModel" "toldWords" "I", Cond.fieldLink RX4 35 "HeatedStoriesModel" "toldLetter" "[I", Cond.fieldLink RX4 38 "HeatedStoriesModel" "toldHeat" "[I", Cond.fieldLink RX4 41 "HeatedStoriesModel" "toldStory" "[I", Cond.fieldLink RX4 119 "HeatedStoriesModel" "length" "I", Cond.methodLink RX4 164 yX4_readPad, Cond.instanceMethod yX4_readPad, Cond.selects RX4 yX4_readPad yX4_readPad, Cond.initialized RX4, Cond.code yX4_readPad cX4_readPad 5 none, Cond.fieldLink RX4 145 "HeatedStoriesModel" "place" "I", Cond.methodLink RX4 158 yX4_sign, Cond.instanceMethod yX4_sign, Cond.selects RX4 yX4_sign yX4_sign, Cond.code yX4_sign cX4_sign 4 (some .int), Cond.fieldLink RX4 26 "HeatedStoriesModel" "pad" "[I", Cond.methodLink RX4 44 yX4_in, Cond.static yX4_in, Cond.code yX4_in cX4_in 3 (some .boolean), Cond.methodLink RX4 161 yX4_isNext, Cond.instanceMethod yX4_isNext]
def wsX4_write_r2 : List Cond := [Cond.selects RX4 yX4_isNext yX4_isNext, Cond.code yX4_isNext cX4_isNext 3 (some .boolean), Cond.methodLink RX4 78 yX4_know, Cond.instanceMethod yX4_know, Cond.selects RX4 yX4_know yX4_know, Cond.code yX4_know cX4_know 2 none, Cond.fieldLink RX4 52 "HeatedStoriesModel" "known" "I", Cond.fieldLink RX4 16 "HeatedStoriesModel" "before" "[I", Cond.methodLink RX4 85 yX4_react, Cond.instanceMethod yX4_react, Cond.selects RX4 yX4_react yX4_react, Cond.code yX4_react cX4_react 3 (some .int), Cond.methodLink RX4 70 yX4_reactOne, Cond.instanceMethod yX4_reactOne, Cond.selects RX4 yX4_reactOne yX4_reactOne, Cond.code yX4_reactOne cX4_reactOne 5 none, Cond.methodLink RX4 56 yX4_storyOf, Cond.instanceMethod yX4_storyOf, Cond.selects RX4 yX4_storyOf yX4_storyOf, Cond.code yX4_storyOf cX4_storyOf 4 (some .int), Cond.methodLink RX4 60 yX4_first, Cond.instanceMethod yX4_first, Cond.selects RX4 yX4_first yX4_first, Cond.code yX4_first cX4_first 4 (some .int)]
def wsX4_write_r3 : List Cond := [Cond.methodLink RX4 63 yX4_split, Cond.instanceMethod yX4_split, Cond.selects RX4 yX4_split yX4_split, Cond.code yX4_split cX4_split 4 none, Cond.methodLink RX4 67 yX4_warm, Cond.instanceMethod yX4_warm, Cond.selects RX4 yX4_warm yX4_warm, Cond.code yX4_warm cX4_warm 4 none]
def wsX4_write : List Cond := .code yX4_write cX4_write 3 (some .int) :: ((wsX4_write_r1 ++ (wsX4_write_r2 ++ wsX4_write_r3)) ++ wsX40)
def wsX4_undo : List Cond := .code yX4_undo cX4_undo 2 (some .int) :: ([.fieldLink RX4 52 "HeatedStoriesModel" "known" "I", .fieldLink RX4 7 "HeatedStoriesModel" "s" "[I", .fieldLink RX4 16 "HeatedStoriesModel" "before" "[I"] ++ wsX40)
def wsX4_save : List Cond := .code yX4_save cX4_save 3 (some .int) :: ([.fieldLink RX4 19 "HeatedStoriesModel" "slots" "[I", .fieldLink RX4 7 "HeatedStoriesModel" "s" "[I", .fieldLink RX4 22 "HeatedStoriesModel" "isSaved" "[Z", .methodLink RX4 44 yX4_in, .static yX4_in, .initialized RX4, .code yX4_in cX4_in 3 (some .boolean)] ++ wsX40)
def wsX4_restore : List Cond := .code yX4_restore cX4_restore 3 (some .int) :: ([.fieldLink RX4 22 "HeatedStoriesModel" "isSaved" "[Z", .fieldLink RX4 7 "HeatedStoriesModel" "s" "[I", .fieldLink RX4 19 "HeatedStoriesModel" "slots" "[I", .methodLink RX4 44 yX4_in, .static yX4_in, .initialized RX4, .code yX4_in cX4_in 3 (some .boolean), .methodLink RX4 78 yX4_know, .instanceMethod yX4_know, .selects RX4 yX4_know yX4_know, .code yX4_know cX4_know 2 none, .fieldLink RX4 52 "HeatedStoriesModel" "known" "I", .fieldLink RX4 16 "HeatedStoriesModel" "before" "[I"] ++ wsX40)
def wsJ9_max_7cf53 : List Cond := .code yJ9_max_7cf53 cJ9_max_7cf53 2 (some .int) :: ([])
def wsJ9_min_7cf53 : List Cond := .code yJ9_min_7cf53 cJ9_min_7cf53 2 (some .int) :: ([])
def wsL_law_r1 : List Cond := [Cond.classLink RL 7 RX3, Cond.instantiable RX3 9, Cond.initialized RX3, Cond.classLink RL 10 RX4, Cond.instantiable RX4 21, Cond.initialized RX4, Cond.constantLong RL 86 (4294967295), Cond.methodLink RL 9 yX3_init, Cond.instanceMethod yX3_init, Cond.code yX3_init cX3_init 2 none, Cond.methodLink RX3 1 objectInit, Cond.instanceMethod objectInit, Cond.code objectInit ⟨#[0xb1]⟩ 1 none, Cond.classLink RX3 7 RX2, Cond.instantiable RX2 12, Cond.initialized RX2, Cond.fieldLink RX3 10 "HeatedStories" "now" "LHeatedStories$Shelf;", Cond.fieldLink RX3 16 "HeatedStories" "trial" "LHeatedStories$Shelf;", Cond.classLink RX3 19 RX0, Cond.instantiable RX0 3, Cond.initialized RX0, Cond.fieldLink RX3 22 "HeatedStories" "history" "LHeatedStories$History;", Cond.fieldLink RX3 26 "HeatedStories" "slots" "[LHeatedStories$Shelf;", Cond.arrayClass .boolean]
def wsL_law_r2 : List Cond := [Cond.fieldLink RX3 30 "HeatedStories" "saved" "[Z", Cond.classLink RX3 34 RX1, Cond.instantiable RX1 2, Cond.initialized RX1, Cond.fieldLink RX3 37 "HeatedStories" "pad" "LHeatedStories$Pad;", Cond.arrayClass .int, Cond.fieldLink RX3 41 "HeatedStories" "runs" "[I", Cond.fieldLink RX3 45 "HeatedStories" "themes" "[I", Cond.fieldLink RX3 48 "HeatedStories" "storyHeats" "[I", Cond.instanceMethod yX2_init, Cond.code yX2_init cX2_init 1 none, Cond.methodLink RX2 3 objectInit, Cond.fieldLink RX2 9 "HeatedStories$Shelf" "settings" "[I", Cond.fieldLink RX2 15 "HeatedStories$Shelf" "letters" "[I", Cond.fieldLink RX2 18 "HeatedStories$Shelf" "heats" "[I", Cond.fieldLink RX2 21 "HeatedStories$Shelf" "starts" "[I", Cond.fieldLink RX2 24 "HeatedStories$Shelf" "families" "[I", Cond.fieldLink RX2 27 "HeatedStories$Shelf" "generations" "[I", Cond.fieldLink RX2 30 "HeatedStories$Shelf" "tally" "[I", Cond.methodLink RX3 21 yX0_init, Cond.instanceMethod yX0_init, Cond.code yX0_init cX0_init 2 none, Cond.methodLink RX0 3 objectInit, Cond.classLink RX0 9 RX2]
def wsL_law_r3 : List Cond := [Cond.fieldLink RX0 11 "HeatedStories$History" "states" "[LHeatedStories$Shelf;", Cond.instanceMethod yX1_init, Cond.code yX1_init cX1_init 1 none, Cond.methodLink RX1 3 objectInit, Cond.arrayClass .char, Cond.fieldLink RX1 11 "HeatedStories$Pad" "characters" "[C", Cond.methodLink RL 12 yX4_init, Cond.instanceMethod yX4_init, Cond.code yX4_init cX4_init 1 none, Cond.methodLink RX4 1 objectInit, Cond.fieldLink RX4 7 "HeatedStoriesModel" "s" "[I", Cond.fieldLink RX4 13 "HeatedStoriesModel" "aside" "[I", Cond.fieldLink RX4 16 "HeatedStoriesModel" "before" "[I", Cond.fieldLink RX4 19 "HeatedStoriesModel" "slots" "[I", Cond.fieldLink RX4 22 "HeatedStoriesModel" "isSaved" "[Z", Cond.fieldLink RX4 26 "HeatedStoriesModel" "pad" "[I", Cond.fieldLink RX4 29 "HeatedStoriesModel" "letters" "[I", Cond.fieldLink RX4 32 "HeatedStoriesModel" "heats" "[I", Cond.fieldLink RX4 35 "HeatedStoriesModel" "toldLetter" "[I", Cond.fieldLink RX4 38 "HeatedStoriesModel" "toldHeat" "[I", Cond.fieldLink RX4 41 "HeatedStoriesModel" "toldStory" "[I", Cond.methodLink RL 13 yX3_set, Cond.instanceMethod yX3_set, Cond.selects RX3 yX3_set yX3_set]
def wsL_law_r4 : List Cond := [Cond.code yX3_set cX3_set 4 (some .int), Cond.fieldLink RX3 55 "HeatedStories" "LOWEST" "[I", Cond.fieldLink RX3 58 "HeatedStories" "HIGHEST" "[I", Cond.fieldLink RX3 65 "HeatedStories$Shelf" "settings" "[I", Cond.methodLink RX3 51 yX3_isWithin, Cond.static yX3_isWithin, Cond.code yX3_isWithin cX3_isWithin 3 (some .boolean), Cond.methodLink RX3 61 yX0_record, Cond.instanceMethod yX0_record, Cond.selects RX0 yX0_record yX0_record, Cond.code yX0_record cX0_record 2 none, Cond.fieldLink RX0 18 "HeatedStories$History" "oldest" "I", Cond.fieldLink RX0 22 "HeatedStories$History" "size" "I", Cond.methodLink RX0 25 yX2_copyFrom, Cond.instanceMethod yX2_copyFrom, Cond.selects RX2 yX2_copyFrom yX2_copyFrom, Cond.code yX2_copyFrom cX2_copyFrom 3 none, Cond.methodLink RX2 37 arraycopyName, Cond.native arraycopyName, Cond.static arraycopyName, Cond.initialized "java/lang/System", Cond.fieldLink RX2 43 "HeatedStories$Shelf" "stories" "I", Cond.fieldLink RX2 47 "HeatedStories$Shelf" "nextFamily" "I", Cond.fieldLink RX2 50 "HeatedStories$Shelf" "splits" "I"]
def wsL_law_r5 : List Cond := [Cond.fieldLink RX2 53 "HeatedStories$Shelf" "boilings" "I", Cond.fieldLink RX2 56 "HeatedStories$Shelf" "fizzles" "I", Cond.methodLink RX2 33 yX2_words, Cond.instanceMethod yX2_words, Cond.selects RX2 yX2_words yX2_words, Cond.code yX2_words cX2_words 1 (some .int), Cond.methodLink RL 17 yX4_set, Cond.instanceMethod yX4_set, Cond.selects RX4 yX4_set yX4_set, Cond.code yX4_set cX4_set 6 (some .int), Cond.methodLink RX4 44 yX4_in, Cond.static yX4_in, Cond.code yX4_in cX4_in 3 (some .boolean), Cond.methodLink RX4 78 yX4_know, Cond.instanceMethod yX4_know, Cond.selects RX4 yX4_know yX4_know, Cond.code yX4_know cX4_know 2 none, Cond.fieldLink RX4 52 "HeatedStoriesModel" "known" "I", Cond.methodLink RL 18 yX3_write, Cond.instanceMethod yX3_write, Cond.selects RX3 yX3_write yX3_write, Cond.code yX3_write cX3_write 1 (some .int), Cond.fieldLink RX3 72 "HeatedStories$Shelf" "stories" "I", Cond.fieldLink RX3 88 "HeatedStories$Pad" "length" "I"]
def wsL_law_r6 : List Cond := [Cond.methodLink RX3 68 yX1_firstFault, Cond.instanceMethod yX1_firstFault, Cond.selects RX1 yX1_firstFault yX1_firstFault, Cond.code yX1_firstFault cX1_firstFault 3 (some .int), Cond.fieldLink RX1 21 "HeatedStories$Pad" "length" "I", Cond.methodLink RX1 25 yX1_placeBehind, Cond.static yX1_placeBehind, Cond.code yX1_placeBehind cX1_placeBehind 2 (some .int), Cond.methodLink RX1 29 yX1_isWord, Cond.static yX1_isWord, Cond.code yX1_isWord cX1_isWord 1 (some .boolean), Cond.methodLink RX3 76 yX1_storiesIn, Cond.instanceMethod yX1_storiesIn, Cond.selects RX1 yX1_storiesIn yX1_storiesIn, Cond.code yX1_storiesIn cX1_storiesIn 3 (some .int), Cond.methodLink RX3 79 yX2_words, Cond.methodLink RX3 82 yX1_wordsIn, Cond.instanceMethod yX1_wordsIn, Cond.selects RX1 yX1_wordsIn yX1_wordsIn, Cond.code yX1_wordsIn cX1_wordsIn 3 (some .int), Cond.methodLink RX3 85 yX1_writeTo, Cond.instanceMethod yX1_writeTo, Cond.selects RX1 yX1_writeTo yX1_writeTo, Cond.code yX1_writeTo cX1_writeTo 4 none]
def wsL_law_r7 : List Cond := [Cond.methodLink RX1 33 yX2_addStory, Cond.instanceMethod yX2_addStory, Cond.selects RX2 yX2_addStory yX2_addStory, Cond.code yX2_addStory cX2_addStory 1 none, Cond.methodLink RX1 38 yX2_addWord, Cond.instanceMethod yX2_addWord, Cond.selects RX2 yX2_addWord yX2_addWord, Cond.code yX2_addWord cX2_addWord 3 none, Cond.methodLink RX1 42 yX2_addDigit, Cond.instanceMethod yX2_addDigit, Cond.selects RX2 yX2_addDigit yX2_addDigit, Cond.code yX2_addDigit cX2_addDigit 3 none, Cond.methodLink RX3 91 yX2_react, Cond.instanceMethod yX2_react, Cond.selects RX2 yX2_react yX2_react, Cond.code yX2_react cX2_react 4 (some .int), Cond.constant RX2 80 (1000000), Cond.methodLink RX2 85 Lib.Math.max.name, Cond.static Lib.Math.max.name, Cond.initialized "java/lang/Math", Cond.code Lib.Math.max.name Lib.Math.max.code 2 (some .int), Cond.methodLink RX2 81 yX2_reactAt, Cond.instanceMethod yX2_reactAt, Cond.selects RX2 yX2_reactAt yX2_reactAt]
def wsL_law_r8 : List Cond := [Cond.code yX2_reactAt cX2_reactAt 5 none, Cond.methodLink RX2 71 yX2_storyAt, Cond.instanceMethod yX2_storyAt, Cond.selects RX2 yX2_storyAt yX2_storyAt, Cond.code yX2_storyAt cX2_storyAt 3 (some .int), Cond.methodLink RX2 88 yX2_split, Cond.instanceMethod yX2_split, Cond.selects RX2 yX2_split yX2_split, Cond.code yX2_split cX2_split 4 none, Cond.methodLink RX2 92 yX2_warm, Cond.instanceMethod yX2_warm, Cond.selects RX2 yX2_warm yX2_warm, Cond.code yX2_warm cX2_warm 3 none, Cond.methodLink RX2 74 Lib.Math.min.name, Cond.static Lib.Math.min.name, Cond.code Lib.Math.min.name Lib.Math.min.code 2 (some .int), Cond.methodLink RL 22 yX4_write, Cond.instanceMethod yX4_write, Cond.selects RX4 yX4_write yX4_write, Cond.code yX4_write cX4_write 3 (some .int), Cond.fieldLink RX4 148 "HeatedStoriesModel" "isWrong" "Z", Cond.fieldLink RX4 155 "HeatedStoriesModel" "toldStories" "I", Cond.fieldLink RX4 152 "HeatedStoriesModel" "toldWords" "I", Cond.fieldLink RX4 119 "HeatedStoriesModel" "length" "I"]
def wsL_law_r9 : List Cond := [Cond.methodLink RX4 164 yX4_readPad, Cond.instanceMethod yX4_readPad, Cond.selects RX4 yX4_readPad yX4_readPad, Cond.code yX4_readPad cX4_readPad 5 none, Cond.fieldLink RX4 145 "HeatedStoriesModel" "place" "I", Cond.methodLink RX4 158 yX4_sign, Cond.instanceMethod yX4_sign, Cond.selects RX4 yX4_sign yX4_sign, Cond.code yX4_sign cX4_sign 4 (some .int), Cond.methodLink RX4 161 yX4_isNext, Cond.instanceMethod yX4_isNext, Cond.selects RX4 yX4_isNext yX4_isNext, Cond.code yX4_isNext cX4_isNext 3 (some .boolean), Cond.methodLink RX4 85 yX4_react, Cond.instanceMethod yX4_react, Cond.selects RX4 yX4_react yX4_react, Cond.code yX4_react cX4_react 3 (some .int), Cond.methodLink RX4 70 yX4_reactOne, Cond.instanceMethod yX4_reactOne, Cond.selects RX4 yX4_reactOne yX4_reactOne, Cond.code yX4_reactOne cX4_reactOne 5 none, Cond.methodLink RX4 56 yX4_storyOf, Cond.instanceMethod yX4_storyOf, Cond.selects RX4 yX4_storyOf yX4_storyOf]
def wsL_law_r10 : List Cond := [Cond.code yX4_storyOf cX4_storyOf 4 (some .int), Cond.methodLink RX4 60 yX4_first, Cond.instanceMethod yX4_first, Cond.selects RX4 yX4_first yX4_first, Cond.code yX4_first cX4_first 4 (some .int), Cond.methodLink RX4 63 yX4_split, Cond.instanceMethod yX4_split, Cond.selects RX4 yX4_split yX4_split, Cond.code yX4_split cX4_split 4 none, Cond.methodLink RX4 67 yX4_warm, Cond.instanceMethod yX4_warm, Cond.selects RX4 yX4_warm yX4_warm, Cond.code yX4_warm cX4_warm 4 none, Cond.methodLink RL 23 yX3_heat, Cond.instanceMethod yX3_heat, Cond.selects RX3 yX3_heat yX3_heat, Cond.code yX3_heat cX3_heat 4 (some .int), Cond.fieldLink RX3 98 "HeatedStories$Shelf" "starts" "[I", Cond.methodLink RX3 94 yX2_hasWord, Cond.instanceMethod yX2_hasWord, Cond.selects RX2 yX2_hasWord yX2_hasWord, Cond.code yX2_hasWord cX2_hasWord 3 (some .boolean), Cond.methodLink RX2 63 yX2_hasStory, Cond.instanceMethod yX2_hasStory]
def wsL_law_r11 : List Cond := [Cond.selects RX2 yX2_hasStory yX2_hasStory, Cond.code yX2_hasStory cX2_hasStory 2 (some .boolean), Cond.methodLink RX2 67 yX2_sizeOf, Cond.instanceMethod yX2_sizeOf, Cond.selects RX2 yX2_sizeOf yX2_sizeOf, Cond.code yX2_sizeOf cX2_sizeOf 2 (some .int), Cond.methodLink RX3 101 yX2_warm, Cond.methodLink RL 27 yX4_heat, Cond.instanceMethod yX4_heat, Cond.selects RX4 yX4_heat yX4_heat, Cond.code yX4_heat cX4_heat 4 (some .int), Cond.methodLink RX4 81 yX4_isWord, Cond.instanceMethod yX4_isWord, Cond.selects RX4 yX4_isWord yX4_isWord, Cond.code yX4_isWord cX4_isWord 3 (some .boolean), Cond.methodLink RX4 48 yX4_isStory, Cond.instanceMethod yX4_isStory, Cond.selects RX4 yX4_isStory yX4_isStory, Cond.code yX4_isStory cX4_isStory 2 (some .boolean), Cond.methodLink RL 28 yX3_read, Cond.instanceMethod yX3_read, Cond.selects RX3 yX3_read yX3_read, Cond.code yX3_read cX3_read 4 (some .int), Cond.methodLink RX3 105 yX2_hasStory]
def wsL_law_r12 : List Cond := [Cond.methodLink RL 31 yX4_read, Cond.instanceMethod yX4_read, Cond.selects RX4 yX4_read yX4_read, Cond.code yX4_read cX4_read 4 (some .int), Cond.methodLink RL 32 yX3_fuse, Cond.instanceMethod yX3_fuse, Cond.selects RX3 yX3_fuse yX3_fuse, Cond.code yX3_fuse cX3_fuse 5 (some .int), Cond.fieldLink RX3 124 "HeatedStories$Shelf" "generations" "[I", Cond.methodLink RX3 127 Lib.Math.max.name, Cond.methodLink RX3 109 yX2_themeOf, Cond.instanceMethod yX2_themeOf, Cond.selects RX2 yX2_themeOf yX2_themeOf, Cond.code yX2_themeOf cX2_themeOf 4 (some .int), Cond.methodLink RX2 108 yX2_tallyOf, Cond.instanceMethod yX2_tallyOf, Cond.selects RX2 yX2_tallyOf yX2_tallyOf, Cond.code yX2_tallyOf cX2_tallyOf 3 none, Cond.methodLink RX2 102 yJ7_fill_53178, Cond.static yJ7_fill_53178, Cond.initialized RJ7, Cond.code yJ7_fill_53178 cJ7_fill_53178 4 none, Cond.methodLink RX3 113 yX2_copyFrom, Cond.methodLink RX3 116 yX2_remove]
def wsL_law_r13 : List Cond := [Cond.instanceMethod yX2_remove, Cond.selects RX2 yX2_remove yX2_remove, Cond.code yX2_remove cX2_remove 7 none, Cond.methodLink RX3 120 yX2_append, Cond.instanceMethod yX2_append, Cond.selects RX2 yX2_append yX2_append, Cond.code yX2_append cX2_append 9 none, Cond.methodLink RL 35 yX4_fuse, Cond.instanceMethod yX4_fuse, Cond.selects RX4 yX4_fuse yX4_fuse, Cond.code yX4_fuse cX4_fuse 8 (some .int), Cond.methodLink RX4 89 yX4_theme, Cond.instanceMethod yX4_theme, Cond.selects RX4 yX4_theme yX4_theme, Cond.code yX4_theme cX4_theme 4 (some .int), Cond.methodLink RX4 74 yX4_times, Cond.instanceMethod yX4_times, Cond.selects RX4 yX4_times yX4_times, Cond.code yX4_times cX4_times 5 (some .int), Cond.methodLink RX4 92 yX4_removeWords, Cond.instanceMethod yX4_removeWords, Cond.selects RX4 yX4_removeWords yX4_removeWords, Cond.code yX4_removeWords cX4_removeWords 4 none, Cond.methodLink RX4 95 yX4_removeStory]
def wsL_law_r14 : List Cond := [Cond.instanceMethod yX4_removeStory, Cond.selects RX4 yX4_removeStory yX4_removeStory, Cond.code yX4_removeStory cX4_removeStory 3 none, Cond.methodLink RL 36 yX3_pass, Cond.instanceMethod yX3_pass, Cond.selects RX3 yX3_pass yX3_pass, Cond.code yX3_pass cX3_pass 4 (some .int), Cond.fieldLink RX3 133 "HeatedStories$Shelf" "heats" "[I", Cond.methodLink RX3 136 yX2_heatOfAll, Cond.instanceMethod yX2_heatOfAll, Cond.selects RX2 yX2_heatOfAll yX2_heatOfAll, Cond.code yX2_heatOfAll cX2_heatOfAll 1 (some .int), Cond.methodLink RX2 95 yX2_heatBetween, Cond.instanceMethod yX2_heatBetween, Cond.selects RX2 yX2_heatBetween yX2_heatBetween, Cond.code yX2_heatBetween cX2_heatBetween 5 (some .int), Cond.methodLink RL 40 yX4_pass, Cond.instanceMethod yX4_pass, Cond.selects RX4 yX4_pass yX4_pass, Cond.code yX4_pass cX4_pass 4 (some .int), Cond.methodLink RX4 98 yX4_allHeat, Cond.instanceMethod yX4_allHeat, Cond.selects RX4 yX4_allHeat yX4_allHeat, Cond.code yX4_allHeat cX4_allHeat 3 (some .int)]
def wsL_law_r15 : List Cond := [Cond.methodLink RL 41 yX3_burn, Cond.instanceMethod yX3_burn, Cond.selects RX3 yX3_burn yX3_burn, Cond.code yX3_burn cX3_burn 3 (some .int), Cond.methodLink RX3 139 yX2_sizeOf, Cond.methodLink RL 44 yX4_burn, Cond.instanceMethod yX4_burn, Cond.selects RX4 yX4_burn yX4_burn, Cond.code yX4_burn cX4_burn 3 (some .int), Cond.methodLink RL 45 yX3_word, Cond.instanceMethod yX3_word, Cond.selects RX3 yX3_word yX3_word, Cond.code yX3_word cX3_word 5 (some .int), Cond.fieldLink RX3 142 "HeatedStories$Shelf" "letters" "[I", Cond.methodLink RX3 145 yX2_timesIn, Cond.instanceMethod yX2_timesIn, Cond.selects RX2 yX2_timesIn yX2_timesIn, Cond.code yX2_timesIn cX2_timesIn 3 (some .int), Cond.methodLink RX2 98 yX2_timesBetween, Cond.instanceMethod yX2_timesBetween, Cond.selects RX2 yX2_timesBetween yX2_timesBetween, Cond.code yX2_timesBetween cX2_timesBetween 6 (some .int), Cond.methodLink RL 48 yX4_word, Cond.instanceMethod yX4_word]
def wsL_law_r16 : List Cond := [Cond.selects RX4 yX4_word yX4_word, Cond.code yX4_word cX4_word 5 (some .int), Cond.methodLink RL 49 yX3_story, Cond.instanceMethod yX3_story, Cond.selects RX3 yX3_story yX3_story, Cond.code yX3_story cX3_story 3 (some .int), Cond.fieldLink RX3 151 "HeatedStories$Shelf" "families" "[I", Cond.methodLink RX3 148 yX2_heatOf, Cond.instanceMethod yX2_heatOf, Cond.selects RX2 yX2_heatOf yX2_heatOf, Cond.code yX2_heatOf cX2_heatOf 2 (some .int), Cond.methodLink RX3 154 yX2_hottestOf, Cond.instanceMethod yX2_hottestOf, Cond.selects RX2 yX2_hottestOf yX2_hottestOf, Cond.code yX2_hottestOf cX2_hottestOf 4 (some .int), Cond.methodLink RX3 157 yX2_unlikeLettersOf, Cond.instanceMethod yX2_unlikeLettersOf, Cond.selects RX2 yX2_unlikeLettersOf yX2_unlikeLettersOf, Cond.code yX2_unlikeLettersOf cX2_unlikeLettersOf 4 (some .int), Cond.methodLink RX3 160 yX2_readsFromBothEnds, Cond.instanceMethod yX2_readsFromBothEnds, Cond.selects RX2 yX2_readsFromBothEnds yX2_readsFromBothEnds, Cond.code yX2_readsFromBothEnds cX2_readsFromBothEnds 4 (some .boolean), Cond.methodLink RL 52 yX4_story]
def wsL_law_r17 : List Cond := [Cond.instanceMethod yX4_story, Cond.selects RX4 yX4_story yX4_story, Cond.code yX4_story cX4_story 3 (some .int), Cond.methodLink RX4 101 yX4_heatOf, Cond.instanceMethod yX4_heatOf, Cond.selects RX4 yX4_heatOf yX4_heatOf, Cond.code yX4_heatOf cX4_heatOf 4 (some .int), Cond.methodLink RX4 104 yX4_hottest, Cond.instanceMethod yX4_hottest, Cond.selects RX4 yX4_hottest yX4_hottest, Cond.code yX4_hottest cX4_hottest 4 (some .int), Cond.methodLink RX4 107 yX4_unlike, Cond.instanceMethod yX4_unlike, Cond.selects RX4 yX4_unlike yX4_unlike, Cond.code yX4_unlike cX4_unlike 4 (some .int), Cond.methodLink RX4 110 yX4_isSameBackwards, Cond.instanceMethod yX4_isSameBackwards, Cond.selects RX4 yX4_isSameBackwards yX4_isSameBackwards, Cond.code yX4_isSameBackwards cX4_isSameBackwards 6 (some .int), Cond.methodLink RL 53 yX3_count, Cond.instanceMethod yX3_count, Cond.selects RX3 yX3_count yX3_count, Cond.code yX3_count cX3_count 2 (some .int), Cond.fieldLink RX3 166 "HeatedStories$Shelf" "splits" "I"]
def wsL_law_r18 : List Cond := [Cond.fieldLink RX3 169 "HeatedStories$Shelf" "boilings" "I", Cond.fieldLink RX3 172 "HeatedStories$Shelf" "fizzles" "I", Cond.fieldLink RX3 178 "HeatedStories$History" "size" "I", Cond.methodLink RX3 163 yX2_unlikeFamilies, Cond.instanceMethod yX2_unlikeFamilies, Cond.selects RX2 yX2_unlikeFamilies yX2_unlikeFamilies, Cond.code yX2_unlikeFamilies cX2_unlikeFamilies 3 (some .int), Cond.methodLink RX2 111 yX2_isFirstOfFamily, Cond.instanceMethod yX2_isFirstOfFamily, Cond.selects RX2 yX2_isFirstOfFamily yX2_isFirstOfFamily, Cond.code yX2_isFirstOfFamily cX2_isFirstOfFamily 3 (some .boolean), Cond.methodLink RX3 175 yX2_greatestGeneration, Cond.instanceMethod yX2_greatestGeneration, Cond.selects RX2 yX2_greatestGeneration yX2_greatestGeneration, Cond.code yX2_greatestGeneration cX2_greatestGeneration 3 (some .int), Cond.methodLink RL 56 yX4_count, Cond.instanceMethod yX4_count, Cond.selects RX4 yX4_count yX4_count, Cond.code yX4_count cX4_count 2 (some .int), Cond.methodLink RX4 113 yX4_families, Cond.instanceMethod yX4_families, Cond.selects RX4 yX4_families yX4_families, Cond.code yX4_families cX4_families 5 (some .int), Cond.methodLink RX4 116 yX4_greatest]
def wsL_law_r19 : List Cond := [Cond.instanceMethod yX4_greatest, Cond.selects RX4 yX4_greatest yX4_greatest, Cond.code yX4_greatest cX4_greatest 3 (some .int), Cond.methodLink RL 57 yX3_letter, Cond.instanceMethod yX3_letter, Cond.selects RX3 yX3_letter yX3_letter, Cond.code yX3_letter cX3_letter 3 (some .int), Cond.methodLink RX3 181 yX3_isLetter, Cond.static yX3_isLetter, Cond.code yX3_isLetter cX3_isLetter 1 (some .boolean), Cond.methodLink RX3 184 yX2_timesInAll, Cond.instanceMethod yX2_timesInAll, Cond.selects RX2 yX2_timesInAll yX2_timesInAll, Cond.code yX2_timesInAll cX2_timesInAll 2 (some .int), Cond.methodLink RX3 187 yX2_storiesWith, Cond.instanceMethod yX2_storiesWith, Cond.selects RX2 yX2_storiesWith yX2_storiesWith, Cond.code yX2_storiesWith cX2_storiesWith 4 (some .int), Cond.methodLink RX2 114 yX2_timesIn, Cond.methodLink RX3 190 yX2_storiesOfTheme, Cond.instanceMethod yX2_storiesOfTheme, Cond.selects RX2 yX2_storiesOfTheme yX2_storiesOfTheme, Cond.code yX2_storiesOfTheme cX2_storiesOfTheme 4 (some .int), Cond.methodLink RX2 117 yX2_themeOf]
def wsL_law_r20 : List Cond := [Cond.methodLink RX3 193 yX2_heatOfLetter, Cond.instanceMethod yX2_heatOfLetter, Cond.selects RX2 yX2_heatOfLetter yX2_heatOfLetter, Cond.code yX2_heatOfLetter cX2_heatOfLetter 4 (some .int), Cond.methodLink RL 60 yX4_letter, Cond.instanceMethod yX4_letter, Cond.selects RX4 yX4_letter yX4_letter, Cond.code yX4_letter cX4_letter 5 (some .int), Cond.methodLink RL 61 yX3_sideBySide, Cond.instanceMethod yX3_sideBySide, Cond.selects RX3 yX3_sideBySide yX3_sideBySide, Cond.code yX3_sideBySide cX3_sideBySide 7 (some .int), Cond.methodLink RX3 196 yX2_isPair, Cond.instanceMethod yX2_isPair, Cond.selects RX2 yX2_isPair yX2_isPair, Cond.code yX2_isPair cX2_isPair 4 (some .boolean), Cond.methodLink RX3 199 yX2_storyAt, Cond.methodLink RX3 202 yX2_placeOf, Cond.instanceMethod yX2_placeOf, Cond.selects RX2 yX2_placeOf yX2_placeOf, Cond.code yX2_placeOf cX2_placeOf 2 (some .int), Cond.methodLink RL 64 yX4_sideBySide, Cond.instanceMethod yX4_sideBySide, Cond.selects RX4 yX4_sideBySide yX4_sideBySide]
def wsL_law_r21 : List Cond := [Cond.code yX4_sideBySide cX4_sideBySide 11 (some .int), Cond.methodLink RL 65 yX3_common, Cond.instanceMethod yX3_common, Cond.selects RX3 yX3_common yX3_common, Cond.code yX3_common cX3_common 10 (some .int), Cond.methodLink RX3 205 yJ7_fill_53178, Cond.methodLink RL 68 yX4_common, Cond.instanceMethod yX4_common, Cond.selects RX4 yX4_common yX4_common, Cond.code yX4_common cX4_common 9 (some .int), Cond.methodLink RL 69 yX3_ifHeated, Cond.instanceMethod yX3_ifHeated, Cond.selects RX3 yX3_ifHeated yX3_ifHeated, Cond.code yX3_ifHeated cX3_ifHeated 6 (some .int), Cond.methodLink RX3 211 yX3_tryHeating, Cond.instanceMethod yX3_tryHeating, Cond.selects RX3 yX3_tryHeating yX3_tryHeating, Cond.code yX3_tryHeating cX3_tryHeating 3 (some .int), Cond.methodLink RL 73 yX4_ifHeated, Cond.instanceMethod yX4_ifHeated, Cond.selects RX4 yX4_ifHeated yX4_ifHeated, Cond.code yX4_ifHeated cX4_ifHeated 5 (some .int), Cond.fieldLink RX4 125 "HeatedStoriesModel" "reactions" "I", Cond.fieldLink RX4 128 "HeatedStoriesModel" "newSplits" "I"]
def wsL_law_r22 : List Cond := [Cond.fieldLink RX4 131 "HeatedStoriesModel" "storiesThen" "I", Cond.fieldLink RX4 134 "HeatedStoriesModel" "heatThen" "I", Cond.methodLink RX4 140 yX4_tryHeat, Cond.instanceMethod yX4_tryHeat, Cond.selects RX4 yX4_tryHeat yX4_tryHeat, Cond.code yX4_tryHeat cX4_tryHeat 3 none, Cond.methodLink RX4 122 yX4_putAside, Cond.instanceMethod yX4_putAside, Cond.selects RX4 yX4_putAside yX4_putAside, Cond.code yX4_putAside cX4_putAside 2 none, Cond.methodLink RX4 137 yX4_putBack, Cond.instanceMethod yX4_putBack, Cond.selects RX4 yX4_putBack yX4_putBack, Cond.code yX4_putBack cX4_putBack 2 none, Cond.methodLink RL 74 yX3_critical, Cond.instanceMethod yX3_critical, Cond.selects RX3 yX3_critical yX3_critical, Cond.code yX3_critical cX3_critical 7 (some .int), Cond.methodLink RX3 214 yX2_isCalm, Cond.instanceMethod yX2_isCalm, Cond.selects RX2 yX2_isCalm yX2_isCalm, Cond.code yX2_isCalm cX2_isCalm 2 (some .boolean), Cond.methodLink RL 77 yX4_critical, Cond.instanceMethod yX4_critical]
def wsL_law_r23 : List Cond := [Cond.selects RX4 yX4_critical yX4_critical, Cond.code yX4_critical cX4_critical 4 (some .int), Cond.methodLink RL 78 yX3_touchiest, Cond.instanceMethod yX3_touchiest, Cond.selects RX3 yX3_touchiest yX3_touchiest, Cond.code yX3_touchiest cX3_touchiest 9 (some .int), Cond.methodLink RL 81 yX4_touchiest, Cond.instanceMethod yX4_touchiest, Cond.selects RX4 yX4_touchiest yX4_touchiest, Cond.code yX4_touchiest cX4_touchiest 6 (some .int), Cond.methodLink RL 82 yX3_coolestPair, Cond.instanceMethod yX3_coolestPair, Cond.selects RX3 yX3_coolestPair yX3_coolestPair, Cond.code yX3_coolestPair cX3_coolestPair 8 (some .int), Cond.methodLink RL 85 yX4_coolestPair, Cond.instanceMethod yX4_coolestPair, Cond.selects RX4 yX4_coolestPair yX4_coolestPair, Cond.code yX4_coolestPair cX4_coolestPair 9 (some .int), Cond.methodLink RL 88 yX3_put, Cond.instanceMethod yX3_put, Cond.selects RX3 yX3_put yX3_put, Cond.code yX3_put cX3_put 4 (some .int), Cond.methodLink RX3 218 yX1_charactersIn, Cond.static yX1_charactersIn]
def wsL_law_r24 : List Cond := [Cond.code yX1_charactersIn cX1_charactersIn 5 (some .int), Cond.constantLong RX1 15 (255), Cond.methodLink RX3 222 yX1_add, Cond.instanceMethod yX1_add, Cond.selects RX1 yX1_add yX1_add, Cond.code yX1_add cX1_add 5 none, Cond.methodLink RL 92 yX4_put, Cond.instanceMethod yX4_put, Cond.selects RX4 yX4_put yX4_put, Cond.code yX4_put cX4_put 8 (some .int), Cond.constantLong RX4 143 (255), Cond.methodLink RL 93 yX3_wipe, Cond.instanceMethod yX3_wipe, Cond.selects RX3 yX3_wipe yX3_wipe, Cond.code yX3_wipe cX3_wipe 2 (some .int), Cond.methodLink RL 96 yX4_wipe, Cond.instanceMethod yX4_wipe, Cond.selects RX4 yX4_wipe yX4_wipe, Cond.code yX4_wipe cX4_wipe 2 (some .int), Cond.methodLink RL 97 yX3_fault, Cond.instanceMethod yX3_fault, Cond.selects RX3 yX3_fault yX3_fault, Cond.code yX3_fault cX3_fault 1 (some .int), Cond.methodLink RL 100 yX4_fault]
def wsL_law_r25 : List Cond := [Cond.instanceMethod yX4_fault, Cond.selects RX4 yX4_fault yX4_fault, Cond.code yX4_fault cX4_fault 1 (some .int), Cond.methodLink RL 101 yX3_undo, Cond.instanceMethod yX3_undo, Cond.selects RX3 yX3_undo yX3_undo, Cond.code yX3_undo cX3_undo 1 (some .int), Cond.methodLink RX3 226 yX0_takeBack, Cond.instanceMethod yX0_takeBack, Cond.selects RX0 yX0_takeBack yX0_takeBack, Cond.code yX0_takeBack cX0_takeBack 2 none, Cond.methodLink RL 104 yX4_undo, Cond.instanceMethod yX4_undo, Cond.selects RX4 yX4_undo yX4_undo, Cond.code yX4_undo cX4_undo 2 (some .int), Cond.methodLink RL 105 yX3_save, Cond.instanceMethod yX3_save, Cond.selects RX3 yX3_save yX3_save, Cond.code yX3_save cX3_save 2 (some .int), Cond.methodLink RL 108 yX4_save, Cond.instanceMethod yX4_save, Cond.selects RX4 yX4_save yX4_save, Cond.code yX4_save cX4_save 3 (some .int), Cond.methodLink RL 109 yX3_restore]
def wsL_law_r26 : List Cond := [Cond.instanceMethod yX3_restore, Cond.selects RX3 yX3_restore yX3_restore, Cond.code yX3_restore cX3_restore 2 (some .int), Cond.methodLink RL 112 yX4_restore, Cond.instanceMethod yX4_restore, Cond.selects RX4 yX4_restore yX4_restore, Cond.code yX4_restore cX4_restore 3 (some .int)]
def wsL_law : List Cond := (wsL_law_r1 ++ (wsL_law_r2 ++ (wsL_law_r3 ++ (wsL_law_r4 ++ (wsL_law_r5 ++ (wsL_law_r6 ++ (wsL_law_r7 ++ (wsL_law_r8 ++ (wsL_law_r9 ++ (wsL_law_r10 ++ (wsL_law_r11 ++ (wsL_law_r12 ++ (wsL_law_r13 ++ (wsL_law_r14 ++ (wsL_law_r15 ++ (wsL_law_r16 ++ (wsL_law_r17 ++ (wsL_law_r18 ++ (wsL_law_r19 ++ (wsL_law_r20 ++ (wsL_law_r21 ++ (wsL_law_r22 ++ (wsL_law_r23 ++ (wsL_law_r24 ++ (wsL_law_r25 ++ wsL_law_r26))))))))))))))))))))))))) ++ wsX30 ++ wsX40 ++ wsX20 ++ wsX00 ++ wsX10 ++ ([] : List Cond)
abbrev vwCl : List vw_C := [(RX0, TX0, 3), (RX1, TX1, 2), (RX2, TX2, 12), (RX3, TX3, 9), (RX4, TX4, 21)]
end
section
/-! BASE: one hypothesis for a world (GG), Option combinators for what the bytecode computes, entry and call lemmas -/
abbrev Ar : Type := Nat → Int32
def ix (i : Int32) (n : Nat) : Bool := !decide (i < 0) && decide (i.toNatClampNeg < n)
theorem ix_in {i : Int32} {n : Nat} (h : ix i n = true) : vp_in i n := by
  simp only [ix, Bool.and_eq_true, Bool.not_eq_true', decide_eq_false_iff_not, decide_eq_true_eq] at h
  intro hc
  rcases hc with hc | hc
  · exact h.1 hc
  · omega
theorem ix_lt {i : Int32} {n : Nat} (h : ix i n = true) : i.toNatClampNeg < n := by
  simp only [ix, Bool.and_eq_true, decide_eq_true_eq] at h
  exact h.2
theorem lt2 {k : Nat} (h : k < 2) : k = 0 ∨ k = 1 := by omega
theorem lt6 {k : Nat} (h : k < 6) : k = 0 ∨ k = 1 ∨ k = 2 ∨ k = 3 ∨ k = 4 ∨ k = 5 := by omega
abbrev lushr (x : Int64) (y : Int32) : Int64 := (x.toUInt64 >>> (y.toInt64.toUInt64 &&& Int64.toUInt64 63)).toInt64
abbrev lshl (x : Int64) (y : Int32) : Int64 := x <<< (y.toInt64 &&& 63)
abbrev i2c (x : Int32) : Int32 := (x.toUInt32 % 65536).toInt32
theorem ix_nI {i n : Nat} (h : i < n) (hn : n < 2 ^ 31) : ix (nI i) n = true := by
  have h2 : ¬ nI i < 0 := nI_pos (by omega)
  simp only [ix, h2, nI_clamp (show i < 2 ^ 31 by omega), h, decide_true, decide_false, Bool.not_false, Bool.and_self]
def gd {α : Type} (c : Bool) (x : Option α) : Option α := match c with
  | true => x
  | false => none
theorem gd_e {α : Type} {c : Bool} {x : Option α} {o : α} (h : gd c x = some o) : c = true ∧ x = some o := by
  cases c with
  | true => exact ⟨rfl, h⟩
  | false => exact absurd h (by simp [gd])
theorem gd_t {α : Type} {c : Bool} (h : c = true) (x : Option α) : gd c x = x := by subst h; rfl
def bd1 {α1 β : Type} (x : Option (α1)) (k : α1 → Option β) : Option β := match x with
  | none => none
  | some a => k a
theorem bd1_e {α1 β : Type} {x : Option (α1)} {k : α1 → Option β} {o : β} (h : bd1 x k = some o) : ∃ a1, x = some (a1) ∧ k a1 = some o := by
  cases x with
  | none => exact absurd h (by simp [bd1])
  | some a => exact ⟨a, rfl, h⟩
def bd2 {α1 α2 β : Type} (x : Option (α1 × α2)) (k : α1 → α2 → Option β) : Option β := match x with
  | none => none
  | some a => k a.1 a.2
theorem bd2_e {α1 α2 β : Type} {x : Option (α1 × α2)} {k : α1 → α2 → Option β} {o : β} (h : bd2 x k = some o) : ∃ a1 a2, x = some (a1, a2) ∧ k a1 a2 = some o := by
  cases x with
  | none => exact absurd h (by simp [bd2])
  | some a => exact ⟨a.1, a.2, rfl, h⟩
def bd3 {α1 α2 α3 β : Type} (x : Option (α1 × α2 × α3)) (k : α1 → α2 → α3 → Option β) : Option β := match x with
  | none => none
  | some a => k a.1 a.2.1 a.2.2
theorem bd3_e {α1 α2 α3 β : Type} {x : Option (α1 × α2 × α3)} {k : α1 → α2 → α3 → Option β} {o : β} (h : bd3 x k = some o) : ∃ a1 a2 a3, x = some (a1, a2, a3) ∧ k a1 a2 a3 = some o := by
  cases x with
  | none => exact absurd h (by simp [bd3])
  | some a => exact ⟨a.1, a.2.1, a.2.2, rfl, h⟩
def bd4 {α1 α2 α3 α4 β : Type} (x : Option (α1 × α2 × α3 × α4)) (k : α1 → α2 → α3 → α4 → Option β) : Option β := match x with
  | none => none
  | some a => k a.1 a.2.1 a.2.2.1 a.2.2.2
theorem bd4_e {α1 α2 α3 α4 β : Type} {x : Option (α1 × α2 × α3 × α4)} {k : α1 → α2 → α3 → α4 → Option β} {o : β} (h : bd4 x k = some o) : ∃ a1 a2 a3 a4, x = some (a1, a2, a3, a4) ∧ k a1 a2 a3 a4 = some o := by
  cases x with
  | none => exact absurd h (by simp [bd4])
  | some a => exact ⟨a.1, a.2.1, a.2.2.1, a.2.2.2, rfl, h⟩
def bd5 {α1 α2 α3 α4 α5 β : Type} (x : Option (α1 × α2 × α3 × α4 × α5)) (k : α1 → α2 → α3 → α4 → α5 → Option β) : Option β := match x with
  | none => none
  | some a => k a.1 a.2.1 a.2.2.1 a.2.2.2.1 a.2.2.2.2
theorem bd5_e {α1 α2 α3 α4 α5 β : Type} {x : Option (α1 × α2 × α3 × α4 × α5)} {k : α1 → α2 → α3 → α4 → α5 → Option β} {o : β} (h : bd5 x k = some o) : ∃ a1 a2 a3 a4 a5, x = some (a1, a2, a3, a4, a5) ∧ k a1 a2 a3 a4 a5 = some o := by
  cases x with
  | none => exact absurd h (by simp [bd5])
  | some a => exact ⟨a.1, a.2.1, a.2.2.1, a.2.2.2.1, a.2.2.2.2, rfl, h⟩
def bd6 {α1 α2 α3 α4 α5 α6 β : Type} (x : Option (α1 × α2 × α3 × α4 × α5 × α6)) (k : α1 → α2 → α3 → α4 → α5 → α6 → Option β) : Option β := match x with
  | none => none
  | some a => k a.1 a.2.1 a.2.2.1 a.2.2.2.1 a.2.2.2.2.1 a.2.2.2.2.2
theorem bd6_e {α1 α2 α3 α4 α5 α6 β : Type} {x : Option (α1 × α2 × α3 × α4 × α5 × α6)} {k : α1 → α2 → α3 → α4 → α5 → α6 → Option β} {o : β} (h : bd6 x k = some o) : ∃ a1 a2 a3 a4 a5 a6, x = some (a1, a2, a3, a4, a5, a6) ∧ k a1 a2 a3 a4 a5 a6 = some o := by
  cases x with
  | none => exact absurd h (by simp [bd6])
  | some a => exact ⟨a.1, a.2.1, a.2.2.1, a.2.2.2.1, a.2.2.2.2.1, a.2.2.2.2.2, rfl, h⟩
def bd7 {α1 α2 α3 α4 α5 α6 α7 β : Type} (x : Option (α1 × α2 × α3 × α4 × α5 × α6 × α7)) (k : α1 → α2 → α3 → α4 → α5 → α6 → α7 → Option β) : Option β := match x with
  | none => none
  | some a => k a.1 a.2.1 a.2.2.1 a.2.2.2.1 a.2.2.2.2.1 a.2.2.2.2.2.1 a.2.2.2.2.2.2
theorem bd7_e {α1 α2 α3 α4 α5 α6 α7 β : Type} {x : Option (α1 × α2 × α3 × α4 × α5 × α6 × α7)} {k : α1 → α2 → α3 → α4 → α5 → α6 → α7 → Option β} {o : β} (h : bd7 x k = some o) : ∃ a1 a2 a3 a4 a5 a6 a7, x = some (a1, a2, a3, a4, a5, a6, a7) ∧ k a1 a2 a3 a4 a5 a6 a7 = some o := by
  cases x with
  | none => exact absurd h (by simp [bd7])
  | some a => exact ⟨a.1, a.2.1, a.2.2.1, a.2.2.2.1, a.2.2.2.2.1, a.2.2.2.2.2.1, a.2.2.2.2.2.2, rfl, h⟩
def bd8 {α1 α2 α3 α4 α5 α6 α7 α8 β : Type} (x : Option (α1 × α2 × α3 × α4 × α5 × α6 × α7 × α8)) (k : α1 → α2 → α3 → α4 → α5 → α6 → α7 → α8 → Option β) : Option β := match x with
  | none => none
  | some a => k a.1 a.2.1 a.2.2.1 a.2.2.2.1 a.2.2.2.2.1 a.2.2.2.2.2.1 a.2.2.2.2.2.2.1 a.2.2.2.2.2.2.2
theorem bd8_e {α1 α2 α3 α4 α5 α6 α7 α8 β : Type} {x : Option (α1 × α2 × α3 × α4 × α5 × α6 × α7 × α8)} {k : α1 → α2 → α3 → α4 → α5 → α6 → α7 → α8 → Option β} {o : β} (h : bd8 x k = some o) : ∃ a1 a2 a3 a4 a5 a6 a7 a8, x = some (a1, a2, a3, a4, a5, a6, a7, a8) ∧ k a1 a2 a3 a4 a5 a6 a7 a8 = some o := by
  cases x with
  | none => exact absurd h (by simp [bd8])
  | some a => exact ⟨a.1, a.2.1, a.2.2.1, a.2.2.2.1, a.2.2.2.2.1, a.2.2.2.2.2.1, a.2.2.2.2.2.2.1, a.2.2.2.2.2.2.2, rfl, h⟩
def bd9 {α1 α2 α3 α4 α5 α6 α7 α8 α9 β : Type} (x : Option (α1 × α2 × α3 × α4 × α5 × α6 × α7 × α8 × α9)) (k : α1 → α2 → α3 → α4 → α5 → α6 → α7 → α8 → α9 → Option β) : Option β := match x with
  | none => none
  | some a => k a.1 a.2.1 a.2.2.1 a.2.2.2.1 a.2.2.2.2.1 a.2.2.2.2.2.1 a.2.2.2.2.2.2.1 a.2.2.2.2.2.2.2.1 a.2.2.2.2.2.2.2.2
theorem bd9_e {α1 α2 α3 α4 α5 α6 α7 α8 α9 β : Type} {x : Option (α1 × α2 × α3 × α4 × α5 × α6 × α7 × α8 × α9)} {k : α1 → α2 → α3 → α4 → α5 → α6 → α7 → α8 → α9 → Option β} {o : β} (h : bd9 x k = some o) : ∃ a1 a2 a3 a4 a5 a6 a7 a8 a9, x = some (a1, a2, a3, a4, a5, a6, a7, a8, a9) ∧ k a1 a2 a3 a4 a5 a6 a7 a8 a9 = some o := by
  cases x with
  | none => exact absurd h (by simp [bd9])
  | some a => exact ⟨a.1, a.2.1, a.2.2.1, a.2.2.2.1, a.2.2.2.2.1, a.2.2.2.2.2.1, a.2.2.2.2.2.2.1, a.2.2.2.2.2.2.2.1, a.2.2.2.2.2.2.2.2, rfl, h⟩
def bd10 {α1 α2 α3 α4 α5 α6 α7 α8 α9 α10 β : Type} (x : Option (α1 × α2 × α3 × α4 × α5 × α6 × α7 × α8 × α9 × α10)) (k : α1 → α2 → α3 → α4 → α5 → α6 → α7 → α8 → α9 → α10 → Option β) : Option β := match x with
  | none => none
  | some a => k a.1 a.2.1 a.2.2.1 a.2.2.2.1 a.2.2.2.2.1 a.2.2.2.2.2.1 a.2.2.2.2.2.2.1 a.2.2.2.2.2.2.2.1 a.2.2.2.2.2.2.2.2.1 a.2.2.2.2.2.2.2.2.2
theorem bd10_e {α1 α2 α3 α4 α5 α6 α7 α8 α9 α10 β : Type} {x : Option (α1 × α2 × α3 × α4 × α5 × α6 × α7 × α8 × α9 × α10)} {k : α1 → α2 → α3 → α4 → α5 → α6 → α7 → α8 → α9 → α10 → Option β} {o : β} (h : bd10 x k = some o) : ∃ a1 a2 a3 a4 a5 a6 a7 a8 a9 a10, x = some (a1, a2, a3, a4, a5, a6, a7, a8, a9, a10) ∧ k a1 a2 a3 a4 a5 a6 a7 a8 a9 a10 = some o := by
  cases x with
  | none => exact absurd h (by simp [bd10])
  | some a => exact ⟨a.1, a.2.1, a.2.2.1, a.2.2.2.1, a.2.2.2.2.1, a.2.2.2.2.2.1, a.2.2.2.2.2.2.1, a.2.2.2.2.2.2.2.1, a.2.2.2.2.2.2.2.2.1, a.2.2.2.2.2.2.2.2.2, rfl, h⟩
def bd11 {α1 α2 α3 α4 α5 α6 α7 α8 α9 α10 α11 β : Type} (x : Option (α1 × α2 × α3 × α4 × α5 × α6 × α7 × α8 × α9 × α10 × α11)) (k : α1 → α2 → α3 → α4 → α5 → α6 → α7 → α8 → α9 → α10 → α11 → Option β) : Option β := match x with
  | none => none
  | some a => k a.1 a.2.1 a.2.2.1 a.2.2.2.1 a.2.2.2.2.1 a.2.2.2.2.2.1 a.2.2.2.2.2.2.1 a.2.2.2.2.2.2.2.1 a.2.2.2.2.2.2.2.2.1 a.2.2.2.2.2.2.2.2.2.1 a.2.2.2.2.2.2.2.2.2.2
theorem bd11_e {α1 α2 α3 α4 α5 α6 α7 α8 α9 α10 α11 β : Type} {x : Option (α1 × α2 × α3 × α4 × α5 × α6 × α7 × α8 × α9 × α10 × α11)} {k : α1 → α2 → α3 → α4 → α5 → α6 → α7 → α8 → α9 → α10 → α11 → Option β} {o : β} (h : bd11 x k = some o) : ∃ a1 a2 a3 a4 a5 a6 a7 a8 a9 a10 a11, x = some (a1, a2, a3, a4, a5, a6, a7, a8, a9, a10, a11) ∧ k a1 a2 a3 a4 a5 a6 a7 a8 a9 a10 a11 = some o := by
  cases x with
  | none => exact absurd h (by simp [bd11])
  | some a => exact ⟨a.1, a.2.1, a.2.2.1, a.2.2.2.1, a.2.2.2.2.1, a.2.2.2.2.2.1, a.2.2.2.2.2.2.1, a.2.2.2.2.2.2.2.1, a.2.2.2.2.2.2.2.2.1, a.2.2.2.2.2.2.2.2.2.1, a.2.2.2.2.2.2.2.2.2.2, rfl, h⟩
def bd12 {α1 α2 α3 α4 α5 α6 α7 α8 α9 α10 α11 α12 β : Type} (x : Option (α1 × α2 × α3 × α4 × α5 × α6 × α7 × α8 × α9 × α10 × α11 × α12)) (k : α1 → α2 → α3 → α4 → α5 → α6 → α7 → α8 → α9 → α10 → α11 → α12 → Option β) : Option β := match x with
  | none => none
  | some a => k a.1 a.2.1 a.2.2.1 a.2.2.2.1 a.2.2.2.2.1 a.2.2.2.2.2.1 a.2.2.2.2.2.2.1 a.2.2.2.2.2.2.2.1 a.2.2.2.2.2.2.2.2.1 a.2.2.2.2.2.2.2.2.2.1 a.2.2.2.2.2.2.2.2.2.2.1 a.2.2.2.2.2.2.2.2.2.2.2
theorem bd12_e {α1 α2 α3 α4 α5 α6 α7 α8 α9 α10 α11 α12 β : Type} {x : Option (α1 × α2 × α3 × α4 × α5 × α6 × α7 × α8 × α9 × α10 × α11 × α12)} {k : α1 → α2 → α3 → α4 → α5 → α6 → α7 → α8 → α9 → α10 → α11 → α12 → Option β} {o : β} (h : bd12 x k = some o) : ∃ a1 a2 a3 a4 a5 a6 a7 a8 a9 a10 a11 a12, x = some (a1, a2, a3, a4, a5, a6, a7, a8, a9, a10, a11, a12) ∧ k a1 a2 a3 a4 a5 a6 a7 a8 a9 a10 a11 a12 = some o := by
  cases x with
  | none => exact absurd h (by simp [bd12])
  | some a => exact ⟨a.1, a.2.1, a.2.2.1, a.2.2.2.1, a.2.2.2.2.1, a.2.2.2.2.2.1, a.2.2.2.2.2.2.1, a.2.2.2.2.2.2.2.1, a.2.2.2.2.2.2.2.2.1, a.2.2.2.2.2.2.2.2.2.1, a.2.2.2.2.2.2.2.2.2.2.1, a.2.2.2.2.2.2.2.2.2.2.2, rfl, h⟩
def bd13 {α1 α2 α3 α4 α5 α6 α7 α8 α9 α10 α11 α12 α13 β : Type} (x : Option (α1 × α2 × α3 × α4 × α5 × α6 × α7 × α8 × α9 × α10 × α11 × α12 × α13)) (k : α1 → α2 → α3 → α4 → α5 → α6 → α7 → α8 → α9 → α10 → α11 → α12 → α13 → Option β) : Option β := match x with
  | none => none
  | some a => k a.1 a.2.1 a.2.2.1 a.2.2.2.1 a.2.2.2.2.1 a.2.2.2.2.2.1 a.2.2.2.2.2.2.1 a.2.2.2.2.2.2.2.1 a.2.2.2.2.2.2.2.2.1 a.2.2.2.2.2.2.2.2.2.1 a.2.2.2.2.2.2.2.2.2.2.1 a.2.2.2.2.2.2.2.2.2.2.2.1 a.2.2.2.2.2.2.2.2.2.2.2.2
theorem bd13_e {α1 α2 α3 α4 α5 α6 α7 α8 α9 α10 α11 α12 α13 β : Type} {x : Option (α1 × α2 × α3 × α4 × α5 × α6 × α7 × α8 × α9 × α10 × α11 × α12 × α13)} {k : α1 → α2 → α3 → α4 → α5 → α6 → α7 → α8 → α9 → α10 → α11 → α12 → α13 → Option β} {o : β} (h : bd13 x k = some o) : ∃ a1 a2 a3 a4 a5 a6 a7 a8 a9 a10 a11 a12 a13, x = some (a1, a2, a3, a4, a5, a6, a7, a8, a9, a10, a11, a12, a13) ∧ k a1 a2 a3 a4 a5 a6 a7 a8 a9 a10 a11 a12 a13 = some o := by
  cases x with
  | none => exact absurd h (by simp [bd13])
  | some a => exact ⟨a.1, a.2.1, a.2.2.1, a.2.2.2.1, a.2.2.2.2.1, a.2.2.2.2.2.1, a.2.2.2.2.2.2.1, a.2.2.2.2.2.2.2.1, a.2.2.2.2.2.2.2.2.1, a.2.2.2.2.2.2.2.2.2.1, a.2.2.2.2.2.2.2.2.2.2.1, a.2.2.2.2.2.2.2.2.2.2.2.1, a.2.2.2.2.2.2.2.2.2.2.2.2, rfl, h⟩
def bd14 {α1 α2 α3 α4 α5 α6 α7 α8 α9 α10 α11 α12 α13 α14 β : Type} (x : Option (α1 × α2 × α3 × α4 × α5 × α6 × α7 × α8 × α9 × α10 × α11 × α12 × α13 × α14)) (k : α1 → α2 → α3 → α4 → α5 → α6 → α7 → α8 → α9 → α10 → α11 → α12 → α13 → α14 → Option β) : Option β := match x with
  | none => none
  | some a => k a.1 a.2.1 a.2.2.1 a.2.2.2.1 a.2.2.2.2.1 a.2.2.2.2.2.1 a.2.2.2.2.2.2.1 a.2.2.2.2.2.2.2.1 a.2.2.2.2.2.2.2.2.1 a.2.2.2.2.2.2.2.2.2.1 a.2.2.2.2.2.2.2.2.2.2.1 a.2.2.2.2.2.2.2.2.2.2.2.1 a.2.2.2.2.2.2.2.2.2.2.2.2.1 a.2.2.2.2.2.2.2.2.2.2.2.2.2
theorem bd14_e {α1 α2 α3 α4 α5 α6 α7 α8 α9 α10 α11 α12 α13 α14 β : Type} {x : Option (α1 × α2 × α3 × α4 × α5 × α6 × α7 × α8 × α9 × α10 × α11 × α12 × α13 × α14)} {k : α1 → α2 → α3 → α4 → α5 → α6 → α7 → α8 → α9 → α10 → α11 → α12 → α13 → α14 → Option β} {o : β} (h : bd14 x k = some o) : ∃ a1 a2 a3 a4 a5 a6 a7 a8 a9 a10 a11 a12 a13 a14, x = some (a1, a2, a3, a4, a5, a6, a7, a8, a9, a10, a11, a12, a13, a14) ∧ k a1 a2 a3 a4 a5 a6 a7 a8 a9 a10 a11 a12 a13 a14 = some o := by
  cases x with
  | none => exact absurd h (by simp [bd14])
  | some a => exact ⟨a.1, a.2.1, a.2.2.1, a.2.2.2.1, a.2.2.2.2.1, a.2.2.2.2.2.1, a.2.2.2.2.2.2.1, a.2.2.2.2.2.2.2.1, a.2.2.2.2.2.2.2.2.1, a.2.2.2.2.2.2.2.2.2.1, a.2.2.2.2.2.2.2.2.2.2.1, a.2.2.2.2.2.2.2.2.2.2.2.1, a.2.2.2.2.2.2.2.2.2.2.2.2.1, a.2.2.2.2.2.2.2.2.2.2.2.2.2, rfl, h⟩
def bd15 {α1 α2 α3 α4 α5 α6 α7 α8 α9 α10 α11 α12 α13 α14 α15 β : Type} (x : Option (α1 × α2 × α3 × α4 × α5 × α6 × α7 × α8 × α9 × α10 × α11 × α12 × α13 × α14 × α15)) (k : α1 → α2 → α3 → α4 → α5 → α6 → α7 → α8 → α9 → α10 → α11 → α12 → α13 → α14 → α15 → Option β) : Option β := match x with
  | none => none
  | some a => k a.1 a.2.1 a.2.2.1 a.2.2.2.1 a.2.2.2.2.1 a.2.2.2.2.2.1 a.2.2.2.2.2.2.1 a.2.2.2.2.2.2.2.1 a.2.2.2.2.2.2.2.2.1 a.2.2.2.2.2.2.2.2.2.1 a.2.2.2.2.2.2.2.2.2.2.1 a.2.2.2.2.2.2.2.2.2.2.2.1 a.2.2.2.2.2.2.2.2.2.2.2.2.1 a.2.2.2.2.2.2.2.2.2.2.2.2.2.1 a.2.2.2.2.2.2.2.2.2.2.2.2.2.2
theorem bd15_e {α1 α2 α3 α4 α5 α6 α7 α8 α9 α10 α11 α12 α13 α14 α15 β : Type} {x : Option (α1 × α2 × α3 × α4 × α5 × α6 × α7 × α8 × α9 × α10 × α11 × α12 × α13 × α14 × α15)} {k : α1 → α2 → α3 → α4 → α5 → α6 → α7 → α8 → α9 → α10 → α11 → α12 → α13 → α14 → α15 → Option β} {o : β} (h : bd15 x k = some o) : ∃ a1 a2 a3 a4 a5 a6 a7 a8 a9 a10 a11 a12 a13 a14 a15, x = some (a1, a2, a3, a4, a5, a6, a7, a8, a9, a10, a11, a12, a13, a14, a15) ∧ k a1 a2 a3 a4 a5 a6 a7 a8 a9 a10 a11 a12 a13 a14 a15 = some o := by
  cases x with
  | none => exact absurd h (by simp [bd15])
  | some a => exact ⟨a.1, a.2.1, a.2.2.1, a.2.2.2.1, a.2.2.2.2.1, a.2.2.2.2.2.1, a.2.2.2.2.2.2.1, a.2.2.2.2.2.2.2.1, a.2.2.2.2.2.2.2.2.1, a.2.2.2.2.2.2.2.2.2.1, a.2.2.2.2.2.2.2.2.2.2.1, a.2.2.2.2.2.2.2.2.2.2.2.1, a.2.2.2.2.2.2.2.2.2.2.2.2.1, a.2.2.2.2.2.2.2.2.2.2.2.2.2.1, a.2.2.2.2.2.2.2.2.2.2.2.2.2.2, rfl, h⟩
def bd16 {α1 α2 α3 α4 α5 α6 α7 α8 α9 α10 α11 α12 α13 α14 α15 α16 β : Type} (x : Option (α1 × α2 × α3 × α4 × α5 × α6 × α7 × α8 × α9 × α10 × α11 × α12 × α13 × α14 × α15 × α16)) (k : α1 → α2 → α3 → α4 → α5 → α6 → α7 → α8 → α9 → α10 → α11 → α12 → α13 → α14 → α15 → α16 → Option β) : Option β := match x with
  | none => none
  | some a => k a.1 a.2.1 a.2.2.1 a.2.2.2.1 a.2.2.2.2.1 a.2.2.2.2.2.1 a.2.2.2.2.2.2.1 a.2.2.2.2.2.2.2.1 a.2.2.2.2.2.2.2.2.1 a.2.2.2.2.2.2.2.2.2.1 a.2.2.2.2.2.2.2.2.2.2.1 a.2.2.2.2.2.2.2.2.2.2.2.1 a.2.2.2.2.2.2.2.2.2.2.2.2.1 a.2.2.2.2.2.2.2.2.2.2.2.2.2.1 a.2.2.2.2.2.2.2.2.2.2.2.2.2.2.1 a.2.2.2.2.2.2.2.2.2.2.2.2.2.2.2
theorem bd16_e {α1 α2 α3 α4 α5 α6 α7 α8 α9 α10 α11 α12 α13 α14 α15 α16 β : Type} {x : Option (α1 × α2 × α3 × α4 × α5 × α6 × α7 × α8 × α9 × α10 × α11 × α12 × α13 × α14 × α15 × α16)} {k : α1 → α2 → α3 → α4 → α5 → α6 → α7 → α8 → α9 → α10 → α11 → α12 → α13 → α14 → α15 → α16 → Option β} {o : β} (h : bd16 x k = some o) : ∃ a1 a2 a3 a4 a5 a6 a7 a8 a9 a10 a11 a12 a13 a14 a15 a16, x = some (a1, a2, a3, a4, a5, a6, a7, a8, a9, a10, a11, a12, a13, a14, a15, a16) ∧ k a1 a2 a3 a4 a5 a6 a7 a8 a9 a10 a11 a12 a13 a14 a15 a16 = some o := by
  cases x with
  | none => exact absurd h (by simp [bd16])
  | some a => exact ⟨a.1, a.2.1, a.2.2.1, a.2.2.2.1, a.2.2.2.2.1, a.2.2.2.2.2.1, a.2.2.2.2.2.2.1, a.2.2.2.2.2.2.2.1, a.2.2.2.2.2.2.2.2.1, a.2.2.2.2.2.2.2.2.2.1, a.2.2.2.2.2.2.2.2.2.2.1, a.2.2.2.2.2.2.2.2.2.2.2.1, a.2.2.2.2.2.2.2.2.2.2.2.2.1, a.2.2.2.2.2.2.2.2.2.2.2.2.2.1, a.2.2.2.2.2.2.2.2.2.2.2.2.2.2.1, a.2.2.2.2.2.2.2.2.2.2.2.2.2.2.2, rfl, h⟩
def bd17 {α1 α2 α3 α4 α5 α6 α7 α8 α9 α10 α11 α12 α13 α14 α15 α16 α17 β : Type} (x : Option (α1 × α2 × α3 × α4 × α5 × α6 × α7 × α8 × α9 × α10 × α11 × α12 × α13 × α14 × α15 × α16 × α17)) (k : α1 → α2 → α3 → α4 → α5 → α6 → α7 → α8 → α9 → α10 → α11 → α12 → α13 → α14 → α15 → α16 → α17 → Option β) : Option β := match x with
  | none => none
  | some a => k a.1 a.2.1 a.2.2.1 a.2.2.2.1 a.2.2.2.2.1 a.2.2.2.2.2.1 a.2.2.2.2.2.2.1 a.2.2.2.2.2.2.2.1 a.2.2.2.2.2.2.2.2.1 a.2.2.2.2.2.2.2.2.2.1 a.2.2.2.2.2.2.2.2.2.2.1 a.2.2.2.2.2.2.2.2.2.2.2.1 a.2.2.2.2.2.2.2.2.2.2.2.2.1 a.2.2.2.2.2.2.2.2.2.2.2.2.2.1 a.2.2.2.2.2.2.2.2.2.2.2.2.2.2.1 a.2.2.2.2.2.2.2.2.2.2.2.2.2.2.2.1 a.2.2.2.2.2.2.2.2.2.2.2.2.2.2.2.2
theorem bd17_e {α1 α2 α3 α4 α5 α6 α7 α8 α9 α10 α11 α12 α13 α14 α15 α16 α17 β : Type} {x : Option (α1 × α2 × α3 × α4 × α5 × α6 × α7 × α8 × α9 × α10 × α11 × α12 × α13 × α14 × α15 × α16 × α17)} {k : α1 → α2 → α3 → α4 → α5 → α6 → α7 → α8 → α9 → α10 → α11 → α12 → α13 → α14 → α15 → α16 → α17 → Option β} {o : β} (h : bd17 x k = some o) : ∃ a1 a2 a3 a4 a5 a6 a7 a8 a9 a10 a11 a12 a13 a14 a15 a16 a17, x = some (a1, a2, a3, a4, a5, a6, a7, a8, a9, a10, a11, a12, a13, a14, a15, a16, a17) ∧ k a1 a2 a3 a4 a5 a6 a7 a8 a9 a10 a11 a12 a13 a14 a15 a16 a17 = some o := by
  cases x with
  | none => exact absurd h (by simp [bd17])
  | some a => exact ⟨a.1, a.2.1, a.2.2.1, a.2.2.2.1, a.2.2.2.2.1, a.2.2.2.2.2.1, a.2.2.2.2.2.2.1, a.2.2.2.2.2.2.2.1, a.2.2.2.2.2.2.2.2.1, a.2.2.2.2.2.2.2.2.2.1, a.2.2.2.2.2.2.2.2.2.2.1, a.2.2.2.2.2.2.2.2.2.2.2.1, a.2.2.2.2.2.2.2.2.2.2.2.2.1, a.2.2.2.2.2.2.2.2.2.2.2.2.2.1, a.2.2.2.2.2.2.2.2.2.2.2.2.2.2.1, a.2.2.2.2.2.2.2.2.2.2.2.2.2.2.2.1, a.2.2.2.2.2.2.2.2.2.2.2.2.2.2.2.2, rfl, h⟩
def bd18 {α1 α2 α3 α4 α5 α6 α7 α8 α9 α10 α11 α12 α13 α14 α15 α16 α17 α18 β : Type} (x : Option (α1 × α2 × α3 × α4 × α5 × α6 × α7 × α8 × α9 × α10 × α11 × α12 × α13 × α14 × α15 × α16 × α17 × α18)) (k : α1 → α2 → α3 → α4 → α5 → α6 → α7 → α8 → α9 → α10 → α11 → α12 → α13 → α14 → α15 → α16 → α17 → α18 → Option β) : Option β := match x with
  | none => none
  | some a => k a.1 a.2.1 a.2.2.1 a.2.2.2.1 a.2.2.2.2.1 a.2.2.2.2.2.1 a.2.2.2.2.2.2.1 a.2.2.2.2.2.2.2.1 a.2.2.2.2.2.2.2.2.1 a.2.2.2.2.2.2.2.2.2.1 a.2.2.2.2.2.2.2.2.2.2.1 a.2.2.2.2.2.2.2.2.2.2.2.1 a.2.2.2.2.2.2.2.2.2.2.2.2.1 a.2.2.2.2.2.2.2.2.2.2.2.2.2.1 a.2.2.2.2.2.2.2.2.2.2.2.2.2.2.1 a.2.2.2.2.2.2.2.2.2.2.2.2.2.2.2.1 a.2.2.2.2.2.2.2.2.2.2.2.2.2.2.2.2.1 a.2.2.2.2.2.2.2.2.2.2.2.2.2.2.2.2.2
theorem bd18_e {α1 α2 α3 α4 α5 α6 α7 α8 α9 α10 α11 α12 α13 α14 α15 α16 α17 α18 β : Type} {x : Option (α1 × α2 × α3 × α4 × α5 × α6 × α7 × α8 × α9 × α10 × α11 × α12 × α13 × α14 × α15 × α16 × α17 × α18)} {k : α1 → α2 → α3 → α4 → α5 → α6 → α7 → α8 → α9 → α10 → α11 → α12 → α13 → α14 → α15 → α16 → α17 → α18 → Option β} {o : β} (h : bd18 x k = some o) : ∃ a1 a2 a3 a4 a5 a6 a7 a8 a9 a10 a11 a12 a13 a14 a15 a16 a17 a18, x = some (a1, a2, a3, a4, a5, a6, a7, a8, a9, a10, a11, a12, a13, a14, a15, a16, a17, a18) ∧ k a1 a2 a3 a4 a5 a6 a7 a8 a9 a10 a11 a12 a13 a14 a15 a16 a17 a18 = some o := by
  cases x with
  | none => exact absurd h (by simp [bd18])
  | some a => exact ⟨a.1, a.2.1, a.2.2.1, a.2.2.2.1, a.2.2.2.2.1, a.2.2.2.2.2.1, a.2.2.2.2.2.2.1, a.2.2.2.2.2.2.2.1, a.2.2.2.2.2.2.2.2.1, a.2.2.2.2.2.2.2.2.2.1, a.2.2.2.2.2.2.2.2.2.2.1, a.2.2.2.2.2.2.2.2.2.2.2.1, a.2.2.2.2.2.2.2.2.2.2.2.2.1, a.2.2.2.2.2.2.2.2.2.2.2.2.2.1, a.2.2.2.2.2.2.2.2.2.2.2.2.2.2.1, a.2.2.2.2.2.2.2.2.2.2.2.2.2.2.2.1, a.2.2.2.2.2.2.2.2.2.2.2.2.2.2.2.2.1, a.2.2.2.2.2.2.2.2.2.2.2.2.2.2.2.2.2, rfl, h⟩
def bd19 {α1 α2 α3 α4 α5 α6 α7 α8 α9 α10 α11 α12 α13 α14 α15 α16 α17 α18 α19 β : Type} (x : Option (α1 × α2 × α3 × α4 × α5 × α6 × α7 × α8 × α9 × α10 × α11 × α12 × α13 × α14 × α15 × α16 × α17 × α18 × α19)) (k : α1 → α2 → α3 → α4 → α5 → α6 → α7 → α8 → α9 → α10 → α11 → α12 → α13 → α14 → α15 → α16 → α17 → α18 → α19 → Option β) : Option β := match x with
  | none => none
  | some a => k a.1 a.2.1 a.2.2.1 a.2.2.2.1 a.2.2.2.2.1 a.2.2.2.2.2.1 a.2.2.2.2.2.2.1 a.2.2.2.2.2.2.2.1 a.2.2.2.2.2.2.2.2.1 a.2.2.2.2.2.2.2.2.2.1 a.2.2.2.2.2.2.2.2.2.2.1 a.2.2.2.2.2.2.2.2.2.2.2.1 a.2.2.2.2.2.2.2.2.2.2.2.2.1 a.2.2.2.2.2.2.2.2.2.2.2.2.2.1 a.2.2.2.2.2.2.2.2.2.2.2.2.2.2.1 a.2.2.2.2.2.2.2.2.2.2.2.2.2.2.2.1 a.2.2.2.2.2.2.2.2.2.2.2.2.2.2.2.2.1 a.2.2.2.2.2.2.2.2.2.2.2.2.2.2.2.2.2.1 a.2.2.2.2.2.2.2.2.2.2.2.2.2.2.2.2.2.2
theorem bd19_e {α1 α2 α3 α4 α5 α6 α7 α8 α9 α10 α11 α12 α13 α14 α15 α16 α17 α18 α19 β : Type} {x : Option (α1 × α2 × α3 × α4 × α5 × α6 × α7 × α8 × α9 × α10 × α11 × α12 × α13 × α14 × α15 × α16 × α17 × α18 × α19)} {k : α1 → α2 → α3 → α4 → α5 → α6 → α7 → α8 → α9 → α10 → α11 → α12 → α13 → α14 → α15 → α16 → α17 → α18 → α19 → Option β} {o : β} (h : bd19 x k = some o) : ∃ a1 a2 a3 a4 a5 a6 a7 a8 a9 a10 a11 a12 a13 a14 a15 a16 a17 a18 a19, x = some (a1, a2, a3, a4, a5, a6, a7, a8, a9, a10, a11, a12, a13, a14, a15, a16, a17, a18, a19) ∧ k a1 a2 a3 a4 a5 a6 a7 a8 a9 a10 a11 a12 a13 a14 a15 a16 a17 a18 a19 = some o := by
  cases x with
  | none => exact absurd h (by simp [bd19])
  | some a => exact ⟨a.1, a.2.1, a.2.2.1, a.2.2.2.1, a.2.2.2.2.1, a.2.2.2.2.2.1, a.2.2.2.2.2.2.1, a.2.2.2.2.2.2.2.1, a.2.2.2.2.2.2.2.2.1, a.2.2.2.2.2.2.2.2.2.1, a.2.2.2.2.2.2.2.2.2.2.1, a.2.2.2.2.2.2.2.2.2.2.2.1, a.2.2.2.2.2.2.2.2.2.2.2.2.1, a.2.2.2.2.2.2.2.2.2.2.2.2.2.1, a.2.2.2.2.2.2.2.2.2.2.2.2.2.2.1, a.2.2.2.2.2.2.2.2.2.2.2.2.2.2.2.1, a.2.2.2.2.2.2.2.2.2.2.2.2.2.2.2.2.1, a.2.2.2.2.2.2.2.2.2.2.2.2.2.2.2.2.2.1, a.2.2.2.2.2.2.2.2.2.2.2.2.2.2.2.2.2.2, rfl, h⟩
def bd20 {α1 α2 α3 α4 α5 α6 α7 α8 α9 α10 α11 α12 α13 α14 α15 α16 α17 α18 α19 α20 β : Type} (x : Option (α1 × α2 × α3 × α4 × α5 × α6 × α7 × α8 × α9 × α10 × α11 × α12 × α13 × α14 × α15 × α16 × α17 × α18 × α19 × α20)) (k : α1 → α2 → α3 → α4 → α5 → α6 → α7 → α8 → α9 → α10 → α11 → α12 → α13 → α14 → α15 → α16 → α17 → α18 → α19 → α20 → Option β) : Option β := match x with
  | none => none
  | some a => k a.1 a.2.1 a.2.2.1 a.2.2.2.1 a.2.2.2.2.1 a.2.2.2.2.2.1 a.2.2.2.2.2.2.1 a.2.2.2.2.2.2.2.1 a.2.2.2.2.2.2.2.2.1 a.2.2.2.2.2.2.2.2.2.1 a.2.2.2.2.2.2.2.2.2.2.1 a.2.2.2.2.2.2.2.2.2.2.2.1 a.2.2.2.2.2.2.2.2.2.2.2.2.1 a.2.2.2.2.2.2.2.2.2.2.2.2.2.1 a.2.2.2.2.2.2.2.2.2.2.2.2.2.2.1 a.2.2.2.2.2.2.2.2.2.2.2.2.2.2.2.1 a.2.2.2.2.2.2.2.2.2.2.2.2.2.2.2.2.1 a.2.2.2.2.2.2.2.2.2.2.2.2.2.2.2.2.2.1 a.2.2.2.2.2.2.2.2.2.2.2.2.2.2.2.2.2.2.1 a.2.2.2.2.2.2.2.2.2.2.2.2.2.2.2.2.2.2.2
theorem bd20_e {α1 α2 α3 α4 α5 α6 α7 α8 α9 α10 α11 α12 α13 α14 α15 α16 α17 α18 α19 α20 β : Type} {x : Option (α1 × α2 × α3 × α4 × α5 × α6 × α7 × α8 × α9 × α10 × α11 × α12 × α13 × α14 × α15 × α16 × α17 × α18 × α19 × α20)} {k : α1 → α2 → α3 → α4 → α5 → α6 → α7 → α8 → α9 → α10 → α11 → α12 → α13 → α14 → α15 → α16 → α17 → α18 → α19 → α20 → Option β} {o : β} (h : bd20 x k = some o) : ∃ a1 a2 a3 a4 a5 a6 a7 a8 a9 a10 a11 a12 a13 a14 a15 a16 a17 a18 a19 a20, x = some (a1, a2, a3, a4, a5, a6, a7, a8, a9, a10, a11, a12, a13, a14, a15, a16, a17, a18, a19, a20) ∧ k a1 a2 a3 a4 a5 a6 a7 a8 a9 a10 a11 a12 a13 a14 a15 a16 a17 a18 a19 a20 = some o := by
  cases x with
  | none => exact absurd h (by simp [bd20])
  | some a => exact ⟨a.1, a.2.1, a.2.2.1, a.2.2.2.1, a.2.2.2.2.1, a.2.2.2.2.2.1, a.2.2.2.2.2.2.1, a.2.2.2.2.2.2.2.1, a.2.2.2.2.2.2.2.2.1, a.2.2.2.2.2.2.2.2.2.1, a.2.2.2.2.2.2.2.2.2.2.1, a.2.2.2.2.2.2.2.2.2.2.2.1, a.2.2.2.2.2.2.2.2.2.2.2.2.1, a.2.2.2.2.2.2.2.2.2.2.2.2.2.1, a.2.2.2.2.2.2.2.2.2.2.2.2.2.2.1, a.2.2.2.2.2.2.2.2.2.2.2.2.2.2.2.1, a.2.2.2.2.2.2.2.2.2.2.2.2.2.2.2.2.1, a.2.2.2.2.2.2.2.2.2.2.2.2.2.2.2.2.2.1, a.2.2.2.2.2.2.2.2.2.2.2.2.2.2.2.2.2.2.1, a.2.2.2.2.2.2.2.2.2.2.2.2.2.2.2.2.2.2.2, rfl, h⟩
def bd21 {α1 α2 α3 α4 α5 α6 α7 α8 α9 α10 α11 α12 α13 α14 α15 α16 α17 α18 α19 α20 α21 β : Type} (x : Option (α1 × α2 × α3 × α4 × α5 × α6 × α7 × α8 × α9 × α10 × α11 × α12 × α13 × α14 × α15 × α16 × α17 × α18 × α19 × α20 × α21)) (k : α1 → α2 → α3 → α4 → α5 → α6 → α7 → α8 → α9 → α10 → α11 → α12 → α13 → α14 → α15 → α16 → α17 → α18 → α19 → α20 → α21 → Option β) : Option β := match x with
  | none => none
  | some a => k a.1 a.2.1 a.2.2.1 a.2.2.2.1 a.2.2.2.2.1 a.2.2.2.2.2.1 a.2.2.2.2.2.2.1 a.2.2.2.2.2.2.2.1 a.2.2.2.2.2.2.2.2.1 a.2.2.2.2.2.2.2.2.2.1 a.2.2.2.2.2.2.2.2.2.2.1 a.2.2.2.2.2.2.2.2.2.2.2.1 a.2.2.2.2.2.2.2.2.2.2.2.2.1 a.2.2.2.2.2.2.2.2.2.2.2.2.2.1 a.2.2.2.2.2.2.2.2.2.2.2.2.2.2.1 a.2.2.2.2.2.2.2.2.2.2.2.2.2.2.2.1 a.2.2.2.2.2.2.2.2.2.2.2.2.2.2.2.2.1 a.2.2.2.2.2.2.2.2.2.2.2.2.2.2.2.2.2.1 a.2.2.2.2.2.2.2.2.2.2.2.2.2.2.2.2.2.2.1 a.2.2.2.2.2.2.2.2.2.2.2.2.2.2.2.2.2.2.2.1 a.2.2.2.2.2.2.2.2.2.2.2.2.2.2.2.2.2.2.2.2
theorem bd21_e {α1 α2 α3 α4 α5 α6 α7 α8 α9 α10 α11 α12 α13 α14 α15 α16 α17 α18 α19 α20 α21 β : Type} {x : Option (α1 × α2 × α3 × α4 × α5 × α6 × α7 × α8 × α9 × α10 × α11 × α12 × α13 × α14 × α15 × α16 × α17 × α18 × α19 × α20 × α21)} {k : α1 → α2 → α3 → α4 → α5 → α6 → α7 → α8 → α9 → α10 → α11 → α12 → α13 → α14 → α15 → α16 → α17 → α18 → α19 → α20 → α21 → Option β} {o : β} (h : bd21 x k = some o) : ∃ a1 a2 a3 a4 a5 a6 a7 a8 a9 a10 a11 a12 a13 a14 a15 a16 a17 a18 a19 a20 a21, x = some (a1, a2, a3, a4, a5, a6, a7, a8, a9, a10, a11, a12, a13, a14, a15, a16, a17, a18, a19, a20, a21) ∧ k a1 a2 a3 a4 a5 a6 a7 a8 a9 a10 a11 a12 a13 a14 a15 a16 a17 a18 a19 a20 a21 = some o := by
  cases x with
  | none => exact absurd h (by simp [bd21])
  | some a => exact ⟨a.1, a.2.1, a.2.2.1, a.2.2.2.1, a.2.2.2.2.1, a.2.2.2.2.2.1, a.2.2.2.2.2.2.1, a.2.2.2.2.2.2.2.1, a.2.2.2.2.2.2.2.2.1, a.2.2.2.2.2.2.2.2.2.1, a.2.2.2.2.2.2.2.2.2.2.1, a.2.2.2.2.2.2.2.2.2.2.2.1, a.2.2.2.2.2.2.2.2.2.2.2.2.1, a.2.2.2.2.2.2.2.2.2.2.2.2.2.1, a.2.2.2.2.2.2.2.2.2.2.2.2.2.2.1, a.2.2.2.2.2.2.2.2.2.2.2.2.2.2.2.1, a.2.2.2.2.2.2.2.2.2.2.2.2.2.2.2.2.1, a.2.2.2.2.2.2.2.2.2.2.2.2.2.2.2.2.2.1, a.2.2.2.2.2.2.2.2.2.2.2.2.2.2.2.2.2.2.1, a.2.2.2.2.2.2.2.2.2.2.2.2.2.2.2.2.2.2.2.1, a.2.2.2.2.2.2.2.2.2.2.2.2.2.2.2.2.2.2.2.2, rfl, h⟩
def bd22 {α1 α2 α3 α4 α5 α6 α7 α8 α9 α10 α11 α12 α13 α14 α15 α16 α17 α18 α19 α20 α21 α22 β : Type} (x : Option (α1 × α2 × α3 × α4 × α5 × α6 × α7 × α8 × α9 × α10 × α11 × α12 × α13 × α14 × α15 × α16 × α17 × α18 × α19 × α20 × α21 × α22)) (k : α1 → α2 → α3 → α4 → α5 → α6 → α7 → α8 → α9 → α10 → α11 → α12 → α13 → α14 → α15 → α16 → α17 → α18 → α19 → α20 → α21 → α22 → Option β) : Option β := match x with
  | none => none
  | some a => k a.1 a.2.1 a.2.2.1 a.2.2.2.1 a.2.2.2.2.1 a.2.2.2.2.2.1 a.2.2.2.2.2.2.1 a.2.2.2.2.2.2.2.1 a.2.2.2.2.2.2.2.2.1 a.2.2.2.2.2.2.2.2.2.1 a.2.2.2.2.2.2.2.2.2.2.1 a.2.2.2.2.2.2.2.2.2.2.2.1 a.2.2.2.2.2.2.2.2.2.2.2.2.1 a.2.2.2.2.2.2.2.2.2.2.2.2.2.1 a.2.2.2.2.2.2.2.2.2.2.2.2.2.2.1 a.2.2.2.2.2.2.2.2.2.2.2.2.2.2.2.1 a.2.2.2.2.2.2.2.2.2.2.2.2.2.2.2.2.1 a.2.2.2.2.2.2.2.2.2.2.2.2.2.2.2.2.2.1 a.2.2.2.2.2.2.2.2.2.2.2.2.2.2.2.2.2.2.1 a.2.2.2.2.2.2.2.2.2.2.2.2.2.2.2.2.2.2.2.1 a.2.2.2.2.2.2.2.2.2.2.2.2.2.2.2.2.2.2.2.2.1 a.2.2.2.2.2.2.2.2.2.2.2.2.2.2.2.2.2.2.2.2.2
theorem bd22_e {α1 α2 α3 α4 α5 α6 α7 α8 α9 α10 α11 α12 α13 α14 α15 α16 α17 α18 α19 α20 α21 α22 β : Type} {x : Option (α1 × α2 × α3 × α4 × α5 × α6 × α7 × α8 × α9 × α10 × α11 × α12 × α13 × α14 × α15 × α16 × α17 × α18 × α19 × α20 × α21 × α22)} {k : α1 → α2 → α3 → α4 → α5 → α6 → α7 → α8 → α9 → α10 → α11 → α12 → α13 → α14 → α15 → α16 → α17 → α18 → α19 → α20 → α21 → α22 → Option β} {o : β} (h : bd22 x k = some o) : ∃ a1 a2 a3 a4 a5 a6 a7 a8 a9 a10 a11 a12 a13 a14 a15 a16 a17 a18 a19 a20 a21 a22, x = some (a1, a2, a3, a4, a5, a6, a7, a8, a9, a10, a11, a12, a13, a14, a15, a16, a17, a18, a19, a20, a21, a22) ∧ k a1 a2 a3 a4 a5 a6 a7 a8 a9 a10 a11 a12 a13 a14 a15 a16 a17 a18 a19 a20 a21 a22 = some o := by
  cases x with
  | none => exact absurd h (by simp [bd22])
  | some a => exact ⟨a.1, a.2.1, a.2.2.1, a.2.2.2.1, a.2.2.2.2.1, a.2.2.2.2.2.1, a.2.2.2.2.2.2.1, a.2.2.2.2.2.2.2.1, a.2.2.2.2.2.2.2.2.1, a.2.2.2.2.2.2.2.2.2.1, a.2.2.2.2.2.2.2.2.2.2.1, a.2.2.2.2.2.2.2.2.2.2.2.1, a.2.2.2.2.2.2.2.2.2.2.2.2.1, a.2.2.2.2.2.2.2.2.2.2.2.2.2.1, a.2.2.2.2.2.2.2.2.2.2.2.2.2.2.1, a.2.2.2.2.2.2.2.2.2.2.2.2.2.2.2.1, a.2.2.2.2.2.2.2.2.2.2.2.2.2.2.2.2.1, a.2.2.2.2.2.2.2.2.2.2.2.2.2.2.2.2.2.1, a.2.2.2.2.2.2.2.2.2.2.2.2.2.2.2.2.2.2.1, a.2.2.2.2.2.2.2.2.2.2.2.2.2.2.2.2.2.2.2.1, a.2.2.2.2.2.2.2.2.2.2.2.2.2.2.2.2.2.2.2.2.1, a.2.2.2.2.2.2.2.2.2.2.2.2.2.2.2.2.2.2.2.2.2, rfl, h⟩
def bd23 {α1 α2 α3 α4 α5 α6 α7 α8 α9 α10 α11 α12 α13 α14 α15 α16 α17 α18 α19 α20 α21 α22 α23 β : Type} (x : Option (α1 × α2 × α3 × α4 × α5 × α6 × α7 × α8 × α9 × α10 × α11 × α12 × α13 × α14 × α15 × α16 × α17 × α18 × α19 × α20 × α21 × α22 × α23)) (k : α1 → α2 → α3 → α4 → α5 → α6 → α7 → α8 → α9 → α10 → α11 → α12 → α13 → α14 → α15 → α16 → α17 → α18 → α19 → α20 → α21 → α22 → α23 → Option β) : Option β := match x with
  | none => none
  | some a => k a.1 a.2.1 a.2.2.1 a.2.2.2.1 a.2.2.2.2.1 a.2.2.2.2.2.1 a.2.2.2.2.2.2.1 a.2.2.2.2.2.2.2.1 a.2.2.2.2.2.2.2.2.1 a.2.2.2.2.2.2.2.2.2.1 a.2.2.2.2.2.2.2.2.2.2.1 a.2.2.2.2.2.2.2.2.2.2.2.1 a.2.2.2.2.2.2.2.2.2.2.2.2.1 a.2.2.2.2.2.2.2.2.2.2.2.2.2.1 a.2.2.2.2.2.2.2.2.2.2.2.2.2.2.1 a.2.2.2.2.2.2.2.2.2.2.2.2.2.2.2.1 a.2.2.2.2.2.2.2.2.2.2.2.2.2.2.2.2.1 a.2.2.2.2.2.2.2.2.2.2.2.2.2.2.2.2.2.1 a.2.2.2.2.2.2.2.2.2.2.2.2.2.2.2.2.2.2.1 a.2.2.2.2.2.2.2.2.2.2.2.2.2.2.2.2.2.2.2.1 a.2.2.2.2.2.2.2.2.2.2.2.2.2.2.2.2.2.2.2.2.1 a.2.2.2.2.2.2.2.2.2.2.2.2.2.2.2.2.2.2.2.2.2.1 a.2.2.2.2.2.2.2.2.2.2.2.2.2.2.2.2.2.2.2.2.2.2
theorem bd23_e {α1 α2 α3 α4 α5 α6 α7 α8 α9 α10 α11 α12 α13 α14 α15 α16 α17 α18 α19 α20 α21 α22 α23 β : Type} {x : Option (α1 × α2 × α3 × α4 × α5 × α6 × α7 × α8 × α9 × α10 × α11 × α12 × α13 × α14 × α15 × α16 × α17 × α18 × α19 × α20 × α21 × α22 × α23)} {k : α1 → α2 → α3 → α4 → α5 → α6 → α7 → α8 → α9 → α10 → α11 → α12 → α13 → α14 → α15 → α16 → α17 → α18 → α19 → α20 → α21 → α22 → α23 → Option β} {o : β} (h : bd23 x k = some o) : ∃ a1 a2 a3 a4 a5 a6 a7 a8 a9 a10 a11 a12 a13 a14 a15 a16 a17 a18 a19 a20 a21 a22 a23, x = some (a1, a2, a3, a4, a5, a6, a7, a8, a9, a10, a11, a12, a13, a14, a15, a16, a17, a18, a19, a20, a21, a22, a23) ∧ k a1 a2 a3 a4 a5 a6 a7 a8 a9 a10 a11 a12 a13 a14 a15 a16 a17 a18 a19 a20 a21 a22 a23 = some o := by
  cases x with
  | none => exact absurd h (by simp [bd23])
  | some a => exact ⟨a.1, a.2.1, a.2.2.1, a.2.2.2.1, a.2.2.2.2.1, a.2.2.2.2.2.1, a.2.2.2.2.2.2.1, a.2.2.2.2.2.2.2.1, a.2.2.2.2.2.2.2.2.1, a.2.2.2.2.2.2.2.2.2.1, a.2.2.2.2.2.2.2.2.2.2.1, a.2.2.2.2.2.2.2.2.2.2.2.1, a.2.2.2.2.2.2.2.2.2.2.2.2.1, a.2.2.2.2.2.2.2.2.2.2.2.2.2.1, a.2.2.2.2.2.2.2.2.2.2.2.2.2.2.1, a.2.2.2.2.2.2.2.2.2.2.2.2.2.2.2.1, a.2.2.2.2.2.2.2.2.2.2.2.2.2.2.2.2.1, a.2.2.2.2.2.2.2.2.2.2.2.2.2.2.2.2.2.1, a.2.2.2.2.2.2.2.2.2.2.2.2.2.2.2.2.2.2.1, a.2.2.2.2.2.2.2.2.2.2.2.2.2.2.2.2.2.2.2.1, a.2.2.2.2.2.2.2.2.2.2.2.2.2.2.2.2.2.2.2.2.1, a.2.2.2.2.2.2.2.2.2.2.2.2.2.2.2.2.2.2.2.2.2.1, a.2.2.2.2.2.2.2.2.2.2.2.2.2.2.2.2.2.2.2.2.2.2, rfl, h⟩
def bd24 {α1 α2 α3 α4 α5 α6 α7 α8 α9 α10 α11 α12 α13 α14 α15 α16 α17 α18 α19 α20 α21 α22 α23 α24 β : Type} (x : Option (α1 × α2 × α3 × α4 × α5 × α6 × α7 × α8 × α9 × α10 × α11 × α12 × α13 × α14 × α15 × α16 × α17 × α18 × α19 × α20 × α21 × α22 × α23 × α24)) (k : α1 → α2 → α3 → α4 → α5 → α6 → α7 → α8 → α9 → α10 → α11 → α12 → α13 → α14 → α15 → α16 → α17 → α18 → α19 → α20 → α21 → α22 → α23 → α24 → Option β) : Option β := match x with
  | none => none
  | some a => k a.1 a.2.1 a.2.2.1 a.2.2.2.1 a.2.2.2.2.1 a.2.2.2.2.2.1 a.2.2.2.2.2.2.1 a.2.2.2.2.2.2.2.1 a.2.2.2.2.2.2.2.2.1 a.2.2.2.2.2.2.2.2.2.1 a.2.2.2.2.2.2.2.2.2.2.1 a.2.2.2.2.2.2.2.2.2.2.2.1 a.2.2.2.2.2.2.2.2.2.2.2.2.1 a.2.2.2.2.2.2.2.2.2.2.2.2.2.1 a.2.2.2.2.2.2.2.2.2.2.2.2.2.2.1 a.2.2.2.2.2.2.2.2.2.2.2.2.2.2.2.1 a.2.2.2.2.2.2.2.2.2.2.2.2.2.2.2.2.1 a.2.2.2.2.2.2.2.2.2.2.2.2.2.2.2.2.2.1 a.2.2.2.2.2.2.2.2.2.2.2.2.2.2.2.2.2.2.1 a.2.2.2.2.2.2.2.2.2.2.2.2.2.2.2.2.2.2.2.1 a.2.2.2.2.2.2.2.2.2.2.2.2.2.2.2.2.2.2.2.2.1 a.2.2.2.2.2.2.2.2.2.2.2.2.2.2.2.2.2.2.2.2.2.1 a.2.2.2.2.2.2.2.2.2.2.2.2.2.2.2.2.2.2.2.2.2.2.1 a.2.2.2.2.2.2.2.2.2.2.2.2.2.2.2.2.2.2.2.2.2.2.2
theorem bd24_e {α1 α2 α3 α4 α5 α6 α7 α8 α9 α10 α11 α12 α13 α14 α15 α16 α17 α18 α19 α20 α21 α22 α23 α24 β : Type} {x : Option (α1 × α2 × α3 × α4 × α5 × α6 × α7 × α8 × α9 × α10 × α11 × α12 × α13 × α14 × α15 × α16 × α17 × α18 × α19 × α20 × α21 × α22 × α23 × α24)} {k : α1 → α2 → α3 → α4 → α5 → α6 → α7 → α8 → α9 → α10 → α11 → α12 → α13 → α14 → α15 → α16 → α17 → α18 → α19 → α20 → α21 → α22 → α23 → α24 → Option β} {o : β} (h : bd24 x k = some o) : ∃ a1 a2 a3 a4 a5 a6 a7 a8 a9 a10 a11 a12 a13 a14 a15 a16 a17 a18 a19 a20 a21 a22 a23 a24, x = some (a1, a2, a3, a4, a5, a6, a7, a8, a9, a10, a11, a12, a13, a14, a15, a16, a17, a18, a19, a20, a21, a22, a23, a24) ∧ k a1 a2 a3 a4 a5 a6 a7 a8 a9 a10 a11 a12 a13 a14 a15 a16 a17 a18 a19 a20 a21 a22 a23 a24 = some o := by
  cases x with
  | none => exact absurd h (by simp [bd24])
  | some a => exact ⟨a.1, a.2.1, a.2.2.1, a.2.2.2.1, a.2.2.2.2.1, a.2.2.2.2.2.1, a.2.2.2.2.2.2.1, a.2.2.2.2.2.2.2.1, a.2.2.2.2.2.2.2.2.1, a.2.2.2.2.2.2.2.2.2.1, a.2.2.2.2.2.2.2.2.2.2.1, a.2.2.2.2.2.2.2.2.2.2.2.1, a.2.2.2.2.2.2.2.2.2.2.2.2.1, a.2.2.2.2.2.2.2.2.2.2.2.2.2.1, a.2.2.2.2.2.2.2.2.2.2.2.2.2.2.1, a.2.2.2.2.2.2.2.2.2.2.2.2.2.2.2.1, a.2.2.2.2.2.2.2.2.2.2.2.2.2.2.2.2.1, a.2.2.2.2.2.2.2.2.2.2.2.2.2.2.2.2.2.1, a.2.2.2.2.2.2.2.2.2.2.2.2.2.2.2.2.2.2.1, a.2.2.2.2.2.2.2.2.2.2.2.2.2.2.2.2.2.2.2.1, a.2.2.2.2.2.2.2.2.2.2.2.2.2.2.2.2.2.2.2.2.1, a.2.2.2.2.2.2.2.2.2.2.2.2.2.2.2.2.2.2.2.2.2.1, a.2.2.2.2.2.2.2.2.2.2.2.2.2.2.2.2.2.2.2.2.2.2.1, a.2.2.2.2.2.2.2.2.2.2.2.2.2.2.2.2.2.2.2.2.2.2.2, rfl, h⟩
def bd25 {α1 α2 α3 α4 α5 α6 α7 α8 α9 α10 α11 α12 α13 α14 α15 α16 α17 α18 α19 α20 α21 α22 α23 α24 α25 β : Type} (x : Option (α1 × α2 × α3 × α4 × α5 × α6 × α7 × α8 × α9 × α10 × α11 × α12 × α13 × α14 × α15 × α16 × α17 × α18 × α19 × α20 × α21 × α22 × α23 × α24 × α25)) (k : α1 → α2 → α3 → α4 → α5 → α6 → α7 → α8 → α9 → α10 → α11 → α12 → α13 → α14 → α15 → α16 → α17 → α18 → α19 → α20 → α21 → α22 → α23 → α24 → α25 → Option β) : Option β := match x with
  | none => none
  | some a => k a.1 a.2.1 a.2.2.1 a.2.2.2.1 a.2.2.2.2.1 a.2.2.2.2.2.1 a.2.2.2.2.2.2.1 a.2.2.2.2.2.2.2.1 a.2.2.2.2.2.2.2.2.1 a.2.2.2.2.2.2.2.2.2.1 a.2.2.2.2.2.2.2.2.2.2.1 a.2.2.2.2.2.2.2.2.2.2.2.1 a.2.2.2.2.2.2.2.2.2.2.2.2.1 a.2.2.2.2.2.2.2.2.2.2.2.2.2.1 a.2.2.2.2.2.2.2.2.2.2.2.2.2.2.1 a.2.2.2.2.2.2.2.2.2.2.2.2.2.2.2.1 a.2.2.2.2.2.2.2.2.2.2.2.2.2.2.2.2.1 a.2.2.2.2.2.2.2.2.2.2.2.2.2.2.2.2.2.1 a.2.2.2.2.2.2.2.2.2.2.2.2.2.2.2.2.2.2.1 a.2.2.2.2.2.2.2.2.2.2.2.2.2.2.2.2.2.2.2.1 a.2.2.2.2.2.2.2.2.2.2.2.2.2.2.2.2.2.2.2.2.1 a.2.2.2.2.2.2.2.2.2.2.2.2.2.2.2.2.2.2.2.2.2.1 a.2.2.2.2.2.2.2.2.2.2.2.2.2.2.2.2.2.2.2.2.2.2.1 a.2.2.2.2.2.2.2.2.2.2.2.2.2.2.2.2.2.2.2.2.2.2.2.1 a.2.2.2.2.2.2.2.2.2.2.2.2.2.2.2.2.2.2.2.2.2.2.2.2
theorem bd25_e {α1 α2 α3 α4 α5 α6 α7 α8 α9 α10 α11 α12 α13 α14 α15 α16 α17 α18 α19 α20 α21 α22 α23 α24 α25 β : Type} {x : Option (α1 × α2 × α3 × α4 × α5 × α6 × α7 × α8 × α9 × α10 × α11 × α12 × α13 × α14 × α15 × α16 × α17 × α18 × α19 × α20 × α21 × α22 × α23 × α24 × α25)} {k : α1 → α2 → α3 → α4 → α5 → α6 → α7 → α8 → α9 → α10 → α11 → α12 → α13 → α14 → α15 → α16 → α17 → α18 → α19 → α20 → α21 → α22 → α23 → α24 → α25 → Option β} {o : β} (h : bd25 x k = some o) : ∃ a1 a2 a3 a4 a5 a6 a7 a8 a9 a10 a11 a12 a13 a14 a15 a16 a17 a18 a19 a20 a21 a22 a23 a24 a25, x = some (a1, a2, a3, a4, a5, a6, a7, a8, a9, a10, a11, a12, a13, a14, a15, a16, a17, a18, a19, a20, a21, a22, a23, a24, a25) ∧ k a1 a2 a3 a4 a5 a6 a7 a8 a9 a10 a11 a12 a13 a14 a15 a16 a17 a18 a19 a20 a21 a22 a23 a24 a25 = some o := by
  cases x with
  | none => exact absurd h (by simp [bd25])
  | some a => exact ⟨a.1, a.2.1, a.2.2.1, a.2.2.2.1, a.2.2.2.2.1, a.2.2.2.2.2.1, a.2.2.2.2.2.2.1, a.2.2.2.2.2.2.2.1, a.2.2.2.2.2.2.2.2.1, a.2.2.2.2.2.2.2.2.2.1, a.2.2.2.2.2.2.2.2.2.2.1, a.2.2.2.2.2.2.2.2.2.2.2.1, a.2.2.2.2.2.2.2.2.2.2.2.2.1, a.2.2.2.2.2.2.2.2.2.2.2.2.2.1, a.2.2.2.2.2.2.2.2.2.2.2.2.2.2.1, a.2.2.2.2.2.2.2.2.2.2.2.2.2.2.2.1, a.2.2.2.2.2.2.2.2.2.2.2.2.2.2.2.2.1, a.2.2.2.2.2.2.2.2.2.2.2.2.2.2.2.2.2.1, a.2.2.2.2.2.2.2.2.2.2.2.2.2.2.2.2.2.2.1, a.2.2.2.2.2.2.2.2.2.2.2.2.2.2.2.2.2.2.2.1, a.2.2.2.2.2.2.2.2.2.2.2.2.2.2.2.2.2.2.2.2.1, a.2.2.2.2.2.2.2.2.2.2.2.2.2.2.2.2.2.2.2.2.2.1, a.2.2.2.2.2.2.2.2.2.2.2.2.2.2.2.2.2.2.2.2.2.2.1, a.2.2.2.2.2.2.2.2.2.2.2.2.2.2.2.2.2.2.2.2.2.2.2.1, a.2.2.2.2.2.2.2.2.2.2.2.2.2.2.2.2.2.2.2.2.2.2.2.2, rfl, h⟩
def bd26 {α1 α2 α3 α4 α5 α6 α7 α8 α9 α10 α11 α12 α13 α14 α15 α16 α17 α18 α19 α20 α21 α22 α23 α24 α25 α26 β : Type} (x : Option (α1 × α2 × α3 × α4 × α5 × α6 × α7 × α8 × α9 × α10 × α11 × α12 × α13 × α14 × α15 × α16 × α17 × α18 × α19 × α20 × α21 × α22 × α23 × α24 × α25 × α26)) (k : α1 → α2 → α3 → α4 → α5 → α6 → α7 → α8 → α9 → α10 → α11 → α12 → α13 → α14 → α15 → α16 → α17 → α18 → α19 → α20 → α21 → α22 → α23 → α24 → α25 → α26 → Option β) : Option β := match x with
  | none => none
  | some a => k a.1 a.2.1 a.2.2.1 a.2.2.2.1 a.2.2.2.2.1 a.2.2.2.2.2.1 a.2.2.2.2.2.2.1 a.2.2.2.2.2.2.2.1 a.2.2.2.2.2.2.2.2.1 a.2.2.2.2.2.2.2.2.2.1 a.2.2.2.2.2.2.2.2.2.2.1 a.2.2.2.2.2.2.2.2.2.2.2.1 a.2.2.2.2.2.2.2.2.2.2.2.2.1 a.2.2.2.2.2.2.2.2.2.2.2.2.2.1 a.2.2.2.2.2.2.2.2.2.2.2.2.2.2.1 a.2.2.2.2.2.2.2.2.2.2.2.2.2.2.2.1 a.2.2.2.2.2.2.2.2.2.2.2.2.2.2.2.2.1 a.2.2.2.2.2.2.2.2.2.2.2.2.2.2.2.2.2.1 a.2.2.2.2.2.2.2.2.2.2.2.2.2.2.2.2.2.2.1 a.2.2.2.2.2.2.2.2.2.2.2.2.2.2.2.2.2.2.2.1 a.2.2.2.2.2.2.2.2.2.2.2.2.2.2.2.2.2.2.2.2.1 a.2.2.2.2.2.2.2.2.2.2.2.2.2.2.2.2.2.2.2.2.2.1 a.2.2.2.2.2.2.2.2.2.2.2.2.2.2.2.2.2.2.2.2.2.2.1 a.2.2.2.2.2.2.2.2.2.2.2.2.2.2.2.2.2.2.2.2.2.2.2.1 a.2.2.2.2.2.2.2.2.2.2.2.2.2.2.2.2.2.2.2.2.2.2.2.2.1 a.2.2.2.2.2.2.2.2.2.2.2.2.2.2.2.2.2.2.2.2.2.2.2.2.2
theorem bd26_e {α1 α2 α3 α4 α5 α6 α7 α8 α9 α10 α11 α12 α13 α14 α15 α16 α17 α18 α19 α20 α21 α22 α23 α24 α25 α26 β : Type} {x : Option (α1 × α2 × α3 × α4 × α5 × α6 × α7 × α8 × α9 × α10 × α11 × α12 × α13 × α14 × α15 × α16 × α17 × α18 × α19 × α20 × α21 × α22 × α23 × α24 × α25 × α26)} {k : α1 → α2 → α3 → α4 → α5 → α6 → α7 → α8 → α9 → α10 → α11 → α12 → α13 → α14 → α15 → α16 → α17 → α18 → α19 → α20 → α21 → α22 → α23 → α24 → α25 → α26 → Option β} {o : β} (h : bd26 x k = some o) : ∃ a1 a2 a3 a4 a5 a6 a7 a8 a9 a10 a11 a12 a13 a14 a15 a16 a17 a18 a19 a20 a21 a22 a23 a24 a25 a26, x = some (a1, a2, a3, a4, a5, a6, a7, a8, a9, a10, a11, a12, a13, a14, a15, a16, a17, a18, a19, a20, a21, a22, a23, a24, a25, a26) ∧ k a1 a2 a3 a4 a5 a6 a7 a8 a9 a10 a11 a12 a13 a14 a15 a16 a17 a18 a19 a20 a21 a22 a23 a24 a25 a26 = some o := by
  cases x with
  | none => exact absurd h (by simp [bd26])
  | some a => exact ⟨a.1, a.2.1, a.2.2.1, a.2.2.2.1, a.2.2.2.2.1, a.2.2.2.2.2.1, a.2.2.2.2.2.2.1, a.2.2.2.2.2.2.2.1, a.2.2.2.2.2.2.2.2.1, a.2.2.2.2.2.2.2.2.2.1, a.2.2.2.2.2.2.2.2.2.2.1, a.2.2.2.2.2.2.2.2.2.2.2.1, a.2.2.2.2.2.2.2.2.2.2.2.2.1, a.2.2.2.2.2.2.2.2.2.2.2.2.2.1, a.2.2.2.2.2.2.2.2.2.2.2.2.2.2.1, a.2.2.2.2.2.2.2.2.2.2.2.2.2.2.2.1, a.2.2.2.2.2.2.2.2.2.2.2.2.2.2.2.2.1, a.2.2.2.2.2.2.2.2.2.2.2.2.2.2.2.2.2.1, a.2.2.2.2.2.2.2.2.2.2.2.2.2.2.2.2.2.2.1, a.2.2.2.2.2.2.2.2.2.2.2.2.2.2.2.2.2.2.2.1, a.2.2.2.2.2.2.2.2.2.2.2.2.2.2.2.2.2.2.2.2.1, a.2.2.2.2.2.2.2.2.2.2.2.2.2.2.2.2.2.2.2.2.2.1, a.2.2.2.2.2.2.2.2.2.2.2.2.2.2.2.2.2.2.2.2.2.2.1, a.2.2.2.2.2.2.2.2.2.2.2.2.2.2.2.2.2.2.2.2.2.2.2.1, a.2.2.2.2.2.2.2.2.2.2.2.2.2.2.2.2.2.2.2.2.2.2.2.2.1, a.2.2.2.2.2.2.2.2.2.2.2.2.2.2.2.2.2.2.2.2.2.2.2.2.2, rfl, h⟩
/-- a join: what follows is said once -/
def jn {β γ : Type} (b : β) (t : β → γ) : γ := t b
theorem jn_e {α β : Type} {b : β} {t : β → Option α} {o : α} (h : jn b t = some o) : ∃ j, j = b ∧ t j = some o := ⟨b, rfl, h⟩
/-- a value gets a name -/
def nm {α β : Type} (x : α) (k : α → β) : β := k x
theorem nm_o {α β : Type} {x : α} {k : α → Option β} {o : β} (h : nm x k = some o) : ∃ v, v = x ∧ k v = some o := ⟨x, rfl, h⟩
theorem it_e {α : Type} {c : Prop} {i : Decidable c} {a b o : α} (hc : c) (h : @ite α c i a b = o) : a = o := (if_pos hc).symm.trans h
theorem if_e {α : Type} {c : Prop} {i : Decidable c} {a b o : α} (hc : ¬ c) (h : @ite α c i a b = o) : b = o := (if_neg hc).symm.trans h
theorem no_e {α : Type} {o : α} {P : Prop} (h : (none : Option α) = some o) : P := by cases h
theorem so_e {α : Type} {x o : α} (h : some x = some o) : x = o := Option.some.inj h
/-- 0 or 1 -/
def bz (x : Int32) : Bool := decide (x = 0) || decide (x = 1)
theorem bz_n {x : Int32} (h : bz x = true) : narrow .boolean (.int x) = .int x := by
  simp only [bz, Bool.or_eq_true, decide_eq_true_eq] at h
  rcases h with h | h <;> subst h <;> rfl
theorem bz_f {x : Int32} (h : bz x = true) : fits .boolean (.int x) = true := by
  simp only [bz, Bool.or_eq_true, decide_eq_true_eq] at h
  rcases h with h | h <;> subst h <;> rfl
theorem bz_v {x : Int32} (h : bz x = true) : vp_nar .boolean x = x := by
  simp only [bz, Bool.or_eq_true, decide_eq_true_eq] at h
  rcases h with h | h <;> subst h <;> rfl
/-- not below zero: System.arraycopy -/
def nn (x : Int32) : Bool := !decide (x < 0)
theorem nn_e {x : Int32} (h : nn x = true) : ¬ x < 0 := by simpa [nn] using h
def le (a b : Nat) : Bool := decide (a ≤ b)
theorem le_e {a b : Nat} (h : le a b = true) : a ≤ b := by simpa [le] using h
def ne0 (x : Int32) : Bool := !decide (x = 0)
theorem ne0_e {x : Int32} (h : ne0 x = true) : ¬ x = 0 := by simpa [ne0] using h
theorem lkp_out2 {ps : List (Int × Int)} {o0 o1 df : Int} {x : Int32} (h : ps = [(0, o0), (1, o1)]) (h0 : ¬ x = nI 0) (h1 : ¬ x = nI 1) : Op.lookupswitch.offset ps df x.toInt = df := by
  subst h
  have e0 : x.toInt ≠ 0 := fun e => h0 (Int32.toInt_inj.mp e)
  have e1 : x.toInt ≠ 1 := fun e => h1 (Int32.toInt_inj.mp e)
  simp [Op.lookupswitch.offset, e0.symm, e1.symm]
theorem tsw {x : Int32} (N : Nat) (hN : N < 2 ^ 31) (h : ∀ k, k < N + 1 → ¬ x = nI k) : x.toInt < 0 ∨ (N : Int) < x.toInt := by
  by_cases h0 : x.toInt < 0
  · exact Or.inl h0
  · refine Or.inr ?_
    refine Int.lt_of_not_ge (fun h1 => ?_)
    have hx : x = nI x.toInt.toNat := by
      apply Int32.toInt_inj.mp
      rw [nI_toInt (by omega)]
      omega
    exact h x.toInt.toNat (by omega) hx
/-- the links between nest mates, given at the start -/
def NWs (U : State) : Prop := va_Nw (.methodLinkNest RX2 59 yX3_isWithin RX3) U ∧ va_Nw (.methodLinkNest RX1 17 yX3_isWithin RX3) U ∧ va_Nw (.methodLinkNest RX0 17 yX2_init RX3) U ∧ va_Nw (.methodLinkNest RX3 9 yX2_init RX3) U ∧ va_Nw (.methodLinkNest RX3 36 yX1_init RX3) U
theorem NWs.same {u U : State} (h : u.vm = U.vm) (hN : NWs u) : NWs U := ⟨va_Nw.same rfl h hN.1, va_Nw.same rfl h hN.2.1, va_Nw.same rfl h hN.2.2.1, va_Nw.same rfl h hN.2.2.2.1, va_Nw.same rfl h hN.2.2.2.2⟩
theorem NWs.warm {s U : State} (hW : s.WarmedH U.vm) (hN : NWs s) : NWs U := ⟨va_Nw.warmM hW hN.1, va_Nw.warmM hW hN.2.1, va_Nw.warmM hW hN.2.2.1, va_Nw.warmM hW hN.2.2.2.1, va_Nw.warmM hW hN.2.2.2.2⟩
/-- the array classes: ints, booleans, chars, shelves -/
abbrev tyL (y : Nat → ClassId) : List (ClassId × FieldType) := [(y 0, .int), (y 1, .boolean), (y 2, .char), (y 3, .object RX2)]
def KK (D : va_G) (y : Nat → ClassId) (U : State) : Prop := va_K D vwCl (tyL y) U ∧ NWs U
def GG (D : va_G) (A : Nat → Prop) (H0 : Heap) (ws : va_W) (H : Heap) (locs : List Loc) : Prop := va_P D vwCl ws H ∧ va_D A ws ∧ va_S A H0 H locs
/-- the start of a method over the cells ws -/
def Pre1 (D : va_G) (y : Nat → ClassId) (ws : va_W) (sz : Nat) : State → Prop := fun U => U.heap.size = sz ∧ va_P D vwCl ws U.heap ∧ KK D y U ∧ va_D (fun _ => True) ws
theorem pre_blind {av : List Value} {D : va_G} {y : Nat → ClassId} {ws : va_W} {sz : Nat} : FrameBlind (va_Pc av (Pre1 D y ws sz)) := fun a U g mk q =>
  ⟨q.1, q.2.1, q.2.2.1, ⟨va_K.moved (u := U) (U := U.calling g mk a) (Vm.Alike.refl U.vm) q.2.2.2.1.1, NWs.same (u := U) (U := U.calling g mk a) rfl q.2.2.2.1.2⟩, q.2.2.2.2⟩
/-- the end: the answer r, the cells ws' -/
abbrev PoI (D : va_G) (r : Int32) (ws ws' : va_W) (sz : Nat) : Array Value → State → Outcome → State → Prop := va_Qi (fun (x : Int32) (_ : Unit) => x = r) (fun _ t => va_P D vwCl ws' t.heap) (va_A ws sz)
abbrev PoV (D : va_G) (ws ws' : va_W) (sz : Nat) : Array Value → State → Outcome → State → Prop := va_Qv (fun (_ : Unit) => True) (fun _ t => va_P D vwCl ws' t.heap) (va_A ws sz)
abbrev MI (l : Launch) (yn : MethodName) (wn : List Cond) (fr lo : Nat) (av : List Value) (D : va_G) (y : Nat → ClassId) (ws : va_W) (sz : Nat) (r : Int32) (ws' : va_W) : Prop :=
  Met l yn wn ({ frames := fr, cells := 0, slots := 0, locals := lo }) (va_Pc av (Pre1 D y ws sz)) (PoI D r ws ws' sz) 0 0 (va_A ws sz)
abbrev MV (l : Launch) (yn : MethodName) (wn : List Cond) (fr lo : Nat) (av : List Value) (D : va_G) (y : Nat → ClassId) (ws : va_W) (sz : Nat) (ws' : va_W) : Prop :=
  Met l yn wn ({ frames := fr, cells := 0, slots := 0, locals := lo }) (va_Pc av (Pre1 D y ws sz)) (PoV D ws ws' sz) 0 0 (va_A ws sz)
theorem va_D.addr {A : Nat → Prop} {ws ws' : va_W} (h : va_D A ws) (e : ws'.map Prod.fst = ws.map Prod.fst) : va_D A ws' := by
  have key : ∀ (k : Nat) (q : Nat × va_E), ws'[k]? = some q → ∃ q0, ws[k]? = some q0 ∧ q0.1 = q.1 := by
    intro k q hq
    have h1 : (ws'.map Prod.fst)[k]? = some q.1 := by rw [List.getElem?_map, hq]; rfl
    rw [e, List.getElem?_map] at h1
    cases hw : ws[k]? with
    | none => rw [hw] at h1; cases h1
    | some q0 => rw [hw] at h1; exact ⟨q0, rfl, Option.some.inj h1⟩
  refine ⟨fun i j p q hi hj hpq => ?_, fun k q hk => ?_⟩
  · obtain ⟨p0, a1, a2⟩ := key i p hi
    obtain ⟨q0, b1, b2⟩ := key j q hj
    exact h.1 i j p0 q0 a1 b1 (by rw [a2, b2, hpq])
  · obtain ⟨q0, a1, a2⟩ := key k q hk
    rw [← a2]
    exact h.2 k q0 a1
theorem va_D.mem {A : Nat → Prop} {ws : va_W} (h : va_D A ws) {p q : Nat × va_E} (hp : p ∈ ws) (hq : q ∈ ws) (e : p.1 = q.1) : p = q := by
  obtain ⟨i, hi⟩ := List.getElem?_of_mem hp
  obtain ⟨j, hj⟩ := List.getElem?_of_mem hq
  have := h.1 i j p q hi hj e
  subst this
  rw [hi] at hj
  exact Option.some.inj hj
theorem va_P.mem {D : va_G} {cl : List vw_C} {ws : va_W} {H : Heap} (h : va_P D cl ws H) {q : Nat × va_E} (hq : q ∈ ws) : va_at D cl q H := by
  obtain ⟨i, hi⟩ := List.getElem?_of_mem hq
  exact h i q hi
theorem va_P.of {D : va_G} {cl : List vw_C} {ws : va_W} {H : Heap} (h : ∀ q ∈ ws, va_at D cl q H) : va_P D cl ws H := fun _ q hk => h q (List.mem_of_getElem? hk)
/-- behind a call over the cells wc: ws2 holds the callee's new cells, and old ones that weren't the callee's -/
theorem GG.call {D : va_G} {A : Nat → Prop} {H0 H H1 : Heap} {ws wc wc' ws2 : va_W} {locs locs1 : List Loc} (hG : GG D A H0 ws H locs)
    (ha : ws2.map Prod.fst = ws.map Prod.fst) (h2 : ∀ q ∈ ws2, q ∈ wc' ∨ (q ∈ ws ∧ q.1 ∉ wc.map Prod.fst))
    (hk : ∀ q : Nat, q < H.size → ¬ va_A wc H.size q → H1[q]? = H[q]?) (hP1 : va_P D vwCl wc' H1) (hS1 : va_S A H0 H1 locs1) : GG D A H0 ws2 H1 locs1 := by
  refine ⟨va_P.of (fun q hq => ?_), hG.2.1.addr ha, hS1⟩
  rcases h2 q hq with h | ⟨h, hn⟩
  · exact hP1.mem h
  · have h3 := hG.1.mem h
    refine h3.kept (hk q.1 h3.lt (fun hA => ?_))
    rcases hA with ⟨k, e, h4⟩ | h4
    · exact hn (List.mem_map.mpr ⟨_, List.mem_of_getElem? h4, rfl⟩)
    · exact absurd h3.lt (by omega)
/-- the cells at the places is get new contents -/
def stL : va_W → List Nat → va_W → va_W
  | ws, i :: is, q :: qs => stL (ws.set i q) is qs
  | ws, _, _ => ws
theorem stL_get : ∀ (is : List Nat) (qs ws : va_W) (k : Nat) (q : Nat × va_E), is.length = qs.length → (stL ws is qs)[k]? = some q → q ∈ qs ∨ (k ∉ is ∧ ws[k]? = some q)
  | [], qs, ws, k, q, hl, h => by
    cases qs with
    | nil => exact Or.inr ⟨List.not_mem_nil, h⟩
    | cons a qs => simp at hl
  | i :: is, [], ws, k, q, hl, h => by simp at hl
  | i :: is, a :: qs, ws, k, q, hl, h => by
    have hl' : is.length = qs.length := by simpa using hl
    rcases stL_get is qs (ws.set i a) k q hl' h with h1 | ⟨h1, h2⟩
    · exact Or.inl (List.mem_cons_of_mem _ h1)
    · by_cases hk : k = i
      · subst hk
        have hlt : k < (ws.set k a).length := (List.getElem?_eq_some_iff.mp h2).1
        rw [List.length_set] at hlt
        rw [List.getElem?_set_self hlt] at h2
        cases h2
        exact Or.inl List.mem_cons_self
      · rw [List.getElem?_set_ne (Ne.symm hk)] at h2
        exact Or.inr ⟨fun hm => (List.mem_cons.mp hm).elim hk h1, h2⟩
theorem stL_addr : ∀ (is : List Nat) (qs ws : va_W), is.map (fun i => (ws.map Prod.fst)[i]?) = qs.map (fun q => some q.1) → (stL ws is qs).map Prod.fst = ws.map Prod.fst
  | [], [], ws, _ => rfl
  | [], a :: qs, ws, h => by simp at h
  | i :: is, [], ws, h => by simp at h
  | i :: is, a :: qs, ws, h => by
    simp only [List.map_cons, List.cons.injEq] at h
    have e : (ws.set i a).map Prod.fst = ws.map Prod.fst := by
      rw [List.map_set]
      apply List.ext_getElem?
      intro k
      by_cases hk : k = i
      · subst hk
        have hlt : k < (ws.map Prod.fst).length := (List.getElem?_eq_some_iff.mp h.1).1
        rw [List.getElem?_set_self hlt, h.1]
      · rw [List.getElem?_set_ne (Ne.symm hk)]
    show (stL (ws.set i a) is qs).map Prod.fst = _
    rw [stL_addr is qs (ws.set i a) (by rw [e]; exact h.2), e]
theorem GG.callP {D : va_G} {A : Nat → Prop} {H0 H H1 : Heap} {ws wc wc' : va_W} {locs locs1 : List Loc} (hG : GG D A H0 ws H locs) (is : List Nat)
    (hsub : is.map (fun i => ws[i]?) = wc.map some) (hadr : wc'.map Prod.fst = wc.map Prod.fst)
    (hk : ∀ q : Nat, q < H.size → ¬ va_A wc H.size q → H1[q]? = H[q]?) (hP1 : va_P D vwCl wc' H1) (hS1 : va_S A H0 H1 locs1) : GG D A H0 (stL ws is wc') H1 locs1 := by
  have hl : is.length = wc.length := by
    have := congrArg List.length hsub
    simpa using this
  have hl' : is.length = wc'.length := by
    have := congrArg List.length hadr
    simp at this
    omega
  have hsa : is.map (fun i => (ws.map Prod.fst)[i]?) = wc'.map (fun q => some q.1) := by
    have h1 : is.map (fun i => (ws.map Prod.fst)[i]?) = (is.map (fun i => ws[i]?)).map (Option.map Prod.fst) := by
      rw [List.map_map]
      apply List.map_congr_left
      intro i _
      simp
    rw [h1, hsub, List.map_map]
    have h2 := congrArg (List.map some) hadr
    rw [List.map_map, List.map_map] at h2
    exact h2.symm
  refine hG.call (stL_addr is wc' ws hsa) (fun q hq => ?_) hk hP1 hS1
  obtain ⟨k, hkq⟩ := List.getElem?_of_mem hq
  rcases stL_get is wc' ws k q hl' hkq with h | ⟨h1, h2⟩
  · exact Or.inl h
  · refine Or.inr ⟨List.mem_of_getElem? h2, fun hm => ?_⟩
    obtain ⟨p, hp, hpq⟩ := List.mem_map.mp hm
    obtain ⟨n, hn⟩ := List.getElem?_of_mem hp
    have h3 : (is.map (fun i => ws[i]?))[n]? = some (some p) := by rw [hsub, List.getElem?_map, hn]; rfl
    rw [List.getElem?_map] at h3
    cases hi : is[n]? with
    | none => rw [hi] at h3; cases h3
    | some i =>
      rw [hi] at h3
      have h4 : ws[i]? = some p := Option.some.inj h3
      have := hG.2.1.1 i k p q h4 h2 hpq
      subst this
      exact h1 (List.mem_of_getElem? hi)
theorem GG.part {D : va_G} {A : Nat → Prop} {H0 H : Heap} {ws wc : va_W} {locs : List Loc} (hG : GG D A H0 ws H locs) (hA : ∀ q, H0.size ≤ q → A q) (is : List Nat) (hsub : is.map (fun i => ws[i]?) = wc.map some) (hn : va_nd is = true) :
    va_P D vwCl wc H ∧ va_D (fun _ => True) wc ∧ ∀ q, va_A wc H.size q → A q := by
  refine ⟨fun k q hk => ?_, (hG.2.1.sub is hn hsub).weaken (fun _ _ _ _ => trivial), va_free hG.2.1 hG.2.2 hA is hsub⟩
  have h1 : (is.map (fun i => ws[i]?))[k]? = some (some q) := by rw [hsub, List.getElem?_map, hk]; rfl
  rw [List.getElem?_map] at h1
  cases hi : is[k]? with
  | none => rw [hi] at h1; cases h1
  | some i => rw [hi] at h1; exact hG.1 i q (Option.some.inj h1)
abbrev RM (fr lo : Nat) : Room := { frames := fr, cells := 0, slots := 0, locals := lo }
/-- Math.min, Math.max as the JDK's code has them -/
def jmin (x y : Int32) : Int32 := if y < x then y else x
def jmax (x y : Int32) : Int32 := if x < y then y else x
/-- System.arraycopy goes through -/
def cpok (n0 n1 : Nat) (sp dp n : Int32) : Bool := nn sp && nn dp && nn n && le (sp.toNatClampNeg + n.toNatClampNeg) n0 && le (dp.toNatClampNeg + n.toNatClampNeg) n1
theorem cpok_e {n0 n1 : Nat} {sp dp n : Int32} (h : cpok n0 n1 sp dp n = true) : ¬ sp < 0 ∧ ¬ dp < 0 ∧ ¬ n < 0 ∧ sp.toNatClampNeg + n.toNatClampNeg ≤ n0 ∧ dp.toNatClampNeg + n.toNatClampNeg ≤ n1 := by
  simp only [cpok, Bool.and_eq_true] at h
  exact ⟨nn_e h.1.1.1.1, nn_e h.1.1.1.2, nn_e h.1.1.2, le_e h.1.2, le_e h.2⟩
abbrev cpA (f g : Ar) (sp dp n : Int32) : Ar := va_cpy f g sp.toNatClampNeg dp.toNatClampNeg n.toNatClampNeg
section BW
variable {p : Program} {l : Launch} {e : Env} {R : Room} {s : State} {m : MethodId} {args : Array Value} {below : List Frame} {meth : Method} {c : Code} {H : Heap} {locs : List Loc} {cells slots : Nat} {Q : State → Prop}
variable {cc : ByteArray} {nL pc : Nat} {ls : Array Slot} {rest : List Value} {Ts : List Cond} {own : String} {D : va_G} {y : Nat → ClassId} {A : Nat → Prop} {H0 : Heap} {ws : va_W}
theorem w_nm {x v : Int32} (h : v = x) (k : W p l e R s m args below meth c H locs cells slots Q (F0 m pc ls (.int v :: rest))) : W p l e R s m args below meth c H locs cells slots Q (F0 m pc ls (.int x :: rest)) := h ▸ k
theorem w_get0 (F : CallFix p m c cc nL s args Ts own) (hK : KK D y s) (hG : GG D A H0 ws H locs) (hin : ∀ w ∈ wsX00, w ∈ Ts) (q0 : Nat) {a : Nat} {fs : List Value} (he : ws[q0]? = some (a, .inr (0, fs))) (k : Nat) (hk : k < 3) {index : Nat} (hlink : (Cond.fieldLink own index (TX0 k).1 (TX0 k).2.1 (TX0 k).2.2.1).before args s = true) {v : Value} (hv : fs[k]? = some v) (hdg : decode cc pc = .ok (.getfield index, 3)) (kk : W p l e R s m args below meth c H locs cells slots Q (F0 m (pc + 3) ls (v :: rest))) : W p l e R s m args below meth c H locs cells slots Q (F0 m pc ls (.ref a :: rest)) :=
  va_get (C := RX0) (T := TX0) (N := 3) F.1 F.2.1 F.2.2.2.2 hin F.2.2.2.1 hK.1 hG.1 q0 he rfl k hk hlink (fun _ h => h) hv hdg kk
theorem w_put0 (F : CallFix p m c cc nL s args Ts own) (hK : KK D y s) (hG : GG D A H0 ws H locs) (hin : ∀ w ∈ wsX00, w ∈ Ts) (q0 : Nat) {a : Nat} {fs : List Value} (he : ws[q0]? = some (a, .inr (0, fs))) (k : Nat) (hk : k < 3) {index : Nat} (hlink : (Cond.fieldLink own index (TX0 k).1 (TX0 k).2.1 (TX0 k).2.2.1).before args s = true) (hfin : (TX0 k).2.2.2 = false) {v : Value} (hn : narrow (tyX0 k) v = v) (hfit : fits (tyX0 k) v = true) (hl : k < fs.length) (ws2 : va_W) (hw : ws.set q0 (a, .inr (0, fs.set k v)) = ws2) (hdg : decode cc pc = .ok (.putfield index, 3)) (kk : ∀ (H : Heap) (locs : List Loc), GG D A H0 ws2 H locs → W p l e R s m args below meth c H locs cells slots Q (F0 m (pc + 3) ls rest)) : W p l e R s m args below meth c H locs cells slots Q (F0 m pc ls (v :: .ref a :: rest)) :=
  va_put (C := RX0) (T := TX0) (N := 3) F.1 F.2.1 F.2.2.2.2 hin tyX0 tyX0_ok nmX0 F.2.2.2.1 hK.1 hG.1 hG.2.1 hG.2.2 q0 he rfl k hk hlink (fun _ h => h) hfin (tyX0_ok k hk) hn hfit hl hdg (fun H1 l1 h1 h2 h3 => kk H1 l1 (by rw [← hw]; exact ⟨h1, h2, h3⟩))
theorem w_get1 (F : CallFix p m c cc nL s args Ts own) (hK : KK D y s) (hG : GG D A H0 ws H locs) (hin : ∀ w ∈ wsX10, w ∈ Ts) (q0 : Nat) {a : Nat} {fs : List Value} (he : ws[q0]? = some (a, .inr (1, fs))) (k : Nat) (hk : k < 2) {index : Nat} (hlink : (Cond.fieldLink own index (TX1 k).1 (TX1 k).2.1 (TX1 k).2.2.1).before args s = true) {v : Value} (hv : fs[k]? = some v) (hdg : decode cc pc = .ok (.getfield index, 3)) (kk : W p l e R s m args below meth c H locs cells slots Q (F0 m (pc + 3) ls (v :: rest))) : W p l e R s m args below meth c H locs cells slots Q (F0 m pc ls (.ref a :: rest)) :=
  va_get (C := RX1) (T := TX1) (N := 2) F.1 F.2.1 F.2.2.2.2 hin F.2.2.2.1 hK.1 hG.1 q0 he rfl k hk hlink (fun _ h => h) hv hdg kk
theorem w_put1 (F : CallFix p m c cc nL s args Ts own) (hK : KK D y s) (hG : GG D A H0 ws H locs) (hin : ∀ w ∈ wsX10, w ∈ Ts) (q0 : Nat) {a : Nat} {fs : List Value} (he : ws[q0]? = some (a, .inr (1, fs))) (k : Nat) (hk : k < 2) {index : Nat} (hlink : (Cond.fieldLink own index (TX1 k).1 (TX1 k).2.1 (TX1 k).2.2.1).before args s = true) (hfin : (TX1 k).2.2.2 = false) {v : Value} (hn : narrow (tyX1 k) v = v) (hfit : fits (tyX1 k) v = true) (hl : k < fs.length) (ws2 : va_W) (hw : ws.set q0 (a, .inr (1, fs.set k v)) = ws2) (hdg : decode cc pc = .ok (.putfield index, 3)) (kk : ∀ (H : Heap) (locs : List Loc), GG D A H0 ws2 H locs → W p l e R s m args below meth c H locs cells slots Q (F0 m (pc + 3) ls rest)) : W p l e R s m args below meth c H locs cells slots Q (F0 m pc ls (v :: .ref a :: rest)) :=
  va_put (C := RX1) (T := TX1) (N := 2) F.1 F.2.1 F.2.2.2.2 hin tyX1 tyX1_ok nmX1 F.2.2.2.1 hK.1 hG.1 hG.2.1 hG.2.2 q0 he rfl k hk hlink (fun _ h => h) hfin (tyX1_ok k hk) hn hfit hl hdg (fun H1 l1 h1 h2 h3 => kk H1 l1 (by rw [← hw]; exact ⟨h1, h2, h3⟩))
theorem w_get2 (F : CallFix p m c cc nL s args Ts own) (hK : KK D y s) (hG : GG D A H0 ws H locs) (hin : ∀ w ∈ wsX20, w ∈ Ts) (q0 : Nat) {a : Nat} {fs : List Value} (he : ws[q0]? = some (a, .inr (2, fs))) (k : Nat) (hk : k < 12) {index : Nat} (hlink : (Cond.fieldLink own index (TX2 k).1 (TX2 k).2.1 (TX2 k).2.2.1).before args s = true) {v : Value} (hv : fs[k]? = some v) (hdg : decode cc pc = .ok (.getfield index, 3)) (kk : W p l e R s m args below meth c H locs cells slots Q (F0 m (pc + 3) ls (v :: rest))) : W p l e R s m args below meth c H locs cells slots Q (F0 m pc ls (.ref a :: rest)) :=
  va_get (C := RX2) (T := TX2) (N := 12) F.1 F.2.1 F.2.2.2.2 hin F.2.2.2.1 hK.1 hG.1 q0 he rfl k hk hlink (fun _ h => h) hv hdg kk
theorem w_put2 (F : CallFix p m c cc nL s args Ts own) (hK : KK D y s) (hG : GG D A H0 ws H locs) (hin : ∀ w ∈ wsX20, w ∈ Ts) (q0 : Nat) {a : Nat} {fs : List Value} (he : ws[q0]? = some (a, .inr (2, fs))) (k : Nat) (hk : k < 12) {index : Nat} (hlink : (Cond.fieldLink own index (TX2 k).1 (TX2 k).2.1 (TX2 k).2.2.1).before args s = true) (hfin : (TX2 k).2.2.2 = false) {v : Value} (hn : narrow (tyX2 k) v = v) (hfit : fits (tyX2 k) v = true) (hl : k < fs.length) (ws2 : va_W) (hw : ws.set q0 (a, .inr (2, fs.set k v)) = ws2) (hdg : decode cc pc = .ok (.putfield index, 3)) (kk : ∀ (H : Heap) (locs : List Loc), GG D A H0 ws2 H locs → W p l e R s m args below meth c H locs cells slots Q (F0 m (pc + 3) ls rest)) : W p l e R s m args below meth c H locs cells slots Q (F0 m pc ls (v :: .ref a :: rest)) :=
  va_put (C := RX2) (T := TX2) (N := 12) F.1 F.2.1 F.2.2.2.2 hin tyX2 tyX2_ok nmX2 F.2.2.2.1 hK.1 hG.1 hG.2.1 hG.2.2 q0 he rfl k hk hlink (fun _ h => h) hfin (tyX2_ok k hk) hn hfit hl hdg (fun H1 l1 h1 h2 h3 => kk H1 l1 (by rw [← hw]; exact ⟨h1, h2, h3⟩))
theorem w_get3 (F : CallFix p m c cc nL s args Ts own) (hK : KK D y s) (hG : GG D A H0 ws H locs) (hin : ∀ w ∈ wsX30, w ∈ Ts) (q0 : Nat) {a : Nat} {fs : List Value} (he : ws[q0]? = some (a, .inr (3, fs))) (k : Nat) (hk : k < 9) {index : Nat} (hlink : (Cond.fieldLink own index (TX3 k).1 (TX3 k).2.1 (TX3 k).2.2.1).before args s = true) {v : Value} (hv : fs[k]? = some v) (hdg : decode cc pc = .ok (.getfield index, 3)) (kk : W p l e R s m args below meth c H locs cells slots Q (F0 m (pc + 3) ls (v :: rest))) : W p l e R s m args below meth c H locs cells slots Q (F0 m pc ls (.ref a :: rest)) :=
  va_get (C := RX3) (T := TX3) (N := 9) F.1 F.2.1 F.2.2.2.2 hin F.2.2.2.1 hK.1 hG.1 q0 he rfl k hk hlink (fun _ h => h) hv hdg kk
theorem w_put3 (F : CallFix p m c cc nL s args Ts own) (hK : KK D y s) (hG : GG D A H0 ws H locs) (hin : ∀ w ∈ wsX30, w ∈ Ts) (q0 : Nat) {a : Nat} {fs : List Value} (he : ws[q0]? = some (a, .inr (3, fs))) (k : Nat) (hk : k < 9) {index : Nat} (hlink : (Cond.fieldLink own index (TX3 k).1 (TX3 k).2.1 (TX3 k).2.2.1).before args s = true) (hfin : (TX3 k).2.2.2 = false) {v : Value} (hn : narrow (tyX3 k) v = v) (hfit : fits (tyX3 k) v = true) (hl : k < fs.length) (ws2 : va_W) (hw : ws.set q0 (a, .inr (3, fs.set k v)) = ws2) (hdg : decode cc pc = .ok (.putfield index, 3)) (kk : ∀ (H : Heap) (locs : List Loc), GG D A H0 ws2 H locs → W p l e R s m args below meth c H locs cells slots Q (F0 m (pc + 3) ls rest)) : W p l e R s m args below meth c H locs cells slots Q (F0 m pc ls (v :: .ref a :: rest)) :=
  va_put (C := RX3) (T := TX3) (N := 9) F.1 F.2.1 F.2.2.2.2 hin tyX3 tyX3_ok nmX3 F.2.2.2.1 hK.1 hG.1 hG.2.1 hG.2.2 q0 he rfl k hk hlink (fun _ h => h) hfin (tyX3_ok k hk) hn hfit hl hdg (fun H1 l1 h1 h2 h3 => kk H1 l1 (by rw [← hw]; exact ⟨h1, h2, h3⟩))
theorem w_get4 (F : CallFix p m c cc nL s args Ts own) (hK : KK D y s) (hG : GG D A H0 ws H locs) (hin : ∀ w ∈ wsX40, w ∈ Ts) (q0 : Nat) {a : Nat} {fs : List Value} (he : ws[q0]? = some (a, .inr (4, fs))) (k : Nat) (hk : k < 21) {index : Nat} (hlink : (Cond.fieldLink own index (TX4 k).1 (TX4 k).2.1 (TX4 k).2.2.1).before args s = true) {v : Value} (hv : fs[k]? = some v) (hdg : decode cc pc = .ok (.getfield index, 3)) (kk : W p l e R s m args below meth c H locs cells slots Q (F0 m (pc + 3) ls (v :: rest))) : W p l e R s m args below meth c H locs cells slots Q (F0 m pc ls (.ref a :: rest)) :=
  va_get (C := RX4) (T := TX4) (N := 21) F.1 F.2.1 F.2.2.2.2 hin F.2.2.2.1 hK.1 hG.1 q0 he rfl k hk hlink (fun _ h => h) hv hdg kk
theorem w_put4 (F : CallFix p m c cc nL s args Ts own) (hK : KK D y s) (hG : GG D A H0 ws H locs) (hin : ∀ w ∈ wsX40, w ∈ Ts) (q0 : Nat) {a : Nat} {fs : List Value} (he : ws[q0]? = some (a, .inr (4, fs))) (k : Nat) (hk : k < 21) {index : Nat} (hlink : (Cond.fieldLink own index (TX4 k).1 (TX4 k).2.1 (TX4 k).2.2.1).before args s = true) (hfin : (TX4 k).2.2.2 = false) {v : Value} (hn : narrow (tyX4 k) v = v) (hfit : fits (tyX4 k) v = true) (hl : k < fs.length) (ws2 : va_W) (hw : ws.set q0 (a, .inr (4, fs.set k v)) = ws2) (hdg : decode cc pc = .ok (.putfield index, 3)) (kk : ∀ (H : Heap) (locs : List Loc), GG D A H0 ws2 H locs → W p l e R s m args below meth c H locs cells slots Q (F0 m (pc + 3) ls rest)) : W p l e R s m args below meth c H locs cells slots Q (F0 m pc ls (v :: .ref a :: rest)) :=
  va_put (C := RX4) (T := TX4) (N := 21) F.1 F.2.1 F.2.2.2.2 hin tyX4 tyX4_ok nmX4 F.2.2.2.1 hK.1 hG.1 hG.2.1 hG.2.2 q0 he rfl k hk hlink (fun _ h => h) hfin (tyX4_ok k hk) hn hfit hl hdg (fun H1 l1 h1 h2 h3 => kk H1 l1 (by rw [← hw]; exact ⟨h1, h2, h3⟩))
theorem w_iald (F : CallFix p m c cc nL s args Ts own) (hK : KK D y s) (hG : GG D A H0 ws H locs) (q0 : Nat) {a n : Nat} {f : Ar} (ha : ws[q0]? = some (a, .inl (y 0, n, .inl f))) {i : Int32} (hin : ix i n = true) (hdg : decode cc pc = .ok (.iaload, 1)) (kk : W p l e R s m args below meth c H locs cells slots Q (F0 m (pc + 1) ls (.int (f i.toNatClampNeg) :: rest))) : W p l e R s m args below meth c H locs cells slots Q (F0 m pc ls (.int i :: .ref a :: rest)) :=
  va_iald F.1 F.2.1 hK.1 hG.1 q0 0 ha rfl (ix_in hin) hdg kk
theorem w_ialdk (F : CallFix p m c cc nL s args Ts own) (hK : KK D y s) (hG : GG D A H0 ws H locs) (q0 : Nat) {a n : Nat} {f : Ar} (ha : ws[q0]? = some (a, .inl (y 0, n, .inl f))) {i : Nat} (hin : i < n) (hs : i < 2 ^ 31) (hdg : decode cc pc = .ok (.iaload, 1)) (kk : W p l e R s m args below meth c H locs cells slots Q (F0 m (pc + 1) ls (.int (f i) :: rest))) : W p l e R s m args below meth c H locs cells slots Q (F0 m pc ls (.int (nI i) :: .ref a :: rest)) := by
  refine va_iald F.1 F.2.1 hK.1 hG.1 q0 0 ha rfl (i := nI i) ?_ hdg ?_
  · intro h
    rcases h with h | h
    · exact nI_pos hs h
    · rw [nI_clamp hs] at h; omega
  · rw [nI_clamp hs]; exact kk
theorem w_iast (F : CallFix p m c cc nL s args Ts own) (hK : KK D y s) (hG : GG D A H0 ws H locs) (q0 : Nat) {a n : Nat} {f : Ar} (ha : ws[q0]? = some (a, .inl (y 0, n, .inl f))) {i x : Int32} (hin : ix i n = true) (ws2 : va_W) (hw : ws.set q0 (a, .inl (y 0, n, .inl (upd f i.toNatClampNeg x))) = ws2) (hdg : decode cc pc = .ok (.iastore, 1)) (kk : ∀ (H : Heap) (locs : List Loc), GG D A H0 ws2 H locs → W p l e R s m args below meth c H locs cells slots Q (F0 m (pc + 1) ls rest)) : W p l e R s m args below meth c H locs cells slots Q (F0 m pc ls (.int x :: .int i :: .ref a :: rest)) :=
  va_iast F.1 F.2.1 hK.1 hG.1 hG.2.1 hG.2.2 q0 0 ha rfl (ix_in hin) hdg (fun H1 l1 h1 h2 h3 => kk H1 l1 (by rw [← hw]; exact ⟨h1, h2, h3⟩))
theorem w_iastk (F : CallFix p m c cc nL s args Ts own) (hK : KK D y s) (hG : GG D A H0 ws H locs) (q0 : Nat) {a n : Nat} {f : Ar} (ha : ws[q0]? = some (a, .inl (y 0, n, .inl f))) {i : Nat} {x : Int32} (hin : i < n) (hs : i < 2 ^ 31) (ws2 : va_W) (hw : ws.set q0 (a, .inl (y 0, n, .inl (upd f i x))) = ws2) (hdg : decode cc pc = .ok (.iastore, 1)) (kk : ∀ (H : Heap) (locs : List Loc), GG D A H0 ws2 H locs → W p l e R s m args below meth c H locs cells slots Q (F0 m (pc + 1) ls rest)) : W p l e R s m args below meth c H locs cells slots Q (F0 m pc ls (.int x :: .int (nI i) :: .ref a :: rest)) := by
  refine va_iast F.1 F.2.1 hK.1 hG.1 hG.2.1 hG.2.2 q0 0 ha rfl (i := nI i) ?_ hdg (fun H1 l1 h1 h2 h3 => kk H1 l1 ?_)
  · intro h
    rcases h with h | h
    · exact nI_pos hs h
    · rw [nI_clamp hs] at h; omega
  · rw [nI_clamp hs, hw] at h1 h2; exact ⟨h1, h2, h3⟩
theorem w_zald (F : CallFix p m c cc nL s args Ts own) (hK : KK D y s) (hG : GG D A H0 ws H locs) (q0 : Nat) {a n : Nat} {f : Ar} (ha : ws[q0]? = some (a, .inl (y 1, n, .inl f))) {i : Int32} (hin : ix i n = true) (hdg : decode cc pc = .ok (.baload, 1)) (kk : W p l e R s m args below meth c H locs cells slots Q (F0 m (pc + 1) ls (.int (f i.toNatClampNeg) :: rest))) : W p l e R s m args below meth c H locs cells slots Q (F0 m pc ls (.int i :: .ref a :: rest)) :=
  va_zald F.1 F.2.1 hK.1 hG.1 q0 1 ha rfl (ix_in hin) hdg kk
theorem w_zast (F : CallFix p m c cc nL s args Ts own) (hK : KK D y s) (hG : GG D A H0 ws H locs) (q0 : Nat) {a n : Nat} {f : Ar} (ha : ws[q0]? = some (a, .inl (y 1, n, .inl f))) {i x : Int32} (hx : vp_nar .boolean x = x) (hin : ix i n = true) (ws2 : va_W) (hw : ws.set q0 (a, .inl (y 1, n, .inl (upd f i.toNatClampNeg x))) = ws2) (hdg : decode cc pc = .ok (.bastore, 1)) (kk : ∀ (H : Heap) (locs : List Loc), GG D A H0 ws2 H locs → W p l e R s m args below meth c H locs cells slots Q (F0 m (pc + 1) ls rest)) : W p l e R s m args below meth c H locs cells slots Q (F0 m pc ls (.int x :: .int i :: .ref a :: rest)) :=
  va_zast F.1 F.2.1 hK.1 hG.1 hG.2.1 hG.2.2 q0 1 ha rfl (ix_in hin) hdg (fun H1 l1 h1 h2 h3 => kk H1 l1 (by rw [hx] at h1 h2; rw [← hw]; exact ⟨h1, h2, h3⟩))
theorem w_cald (F : CallFix p m c cc nL s args Ts own) (hK : KK D y s) (hG : GG D A H0 ws H locs) (q0 : Nat) {a n : Nat} {f : Ar} (ha : ws[q0]? = some (a, .inl (y 2, n, .inl f))) {i : Int32} (hin : ix i n = true) (hdg : decode cc pc = .ok (.caload, 1)) (kk : W p l e R s m args below meth c H locs cells slots Q (F0 m (pc + 1) ls (.int (f i.toNatClampNeg) :: rest))) : W p l e R s m args below meth c H locs cells slots Q (F0 m pc ls (.int i :: .ref a :: rest)) :=
  va_cald F.1 F.2.1 hK.1 hG.1 q0 2 ha rfl (ix_in hin) hdg kk
theorem w_cast (F : CallFix p m c cc nL s args Ts own) (hK : KK D y s) (hG : GG D A H0 ws H locs) (q0 : Nat) {a n : Nat} {f : Ar} (ha : ws[q0]? = some (a, .inl (y 2, n, .inl f))) {i x : Int32} (hx : vp_nar .char x = x) (hin : ix i n = true) (ws2 : va_W) (hw : ws.set q0 (a, .inl (y 2, n, .inl (upd f i.toNatClampNeg x))) = ws2) (hdg : decode cc pc = .ok (.castore, 1)) (kk : ∀ (H : Heap) (locs : List Loc), GG D A H0 ws2 H locs → W p l e R s m args below meth c H locs cells slots Q (F0 m (pc + 1) ls rest)) : W p l e R s m args below meth c H locs cells slots Q (F0 m pc ls (.int x :: .int i :: .ref a :: rest)) :=
  va_cast F.1 F.2.1 hK.1 hG.1 hG.2.1 hG.2.2 q0 2 ha rfl (ix_in hin) hdg (fun H1 l1 h1 h2 h3 => kk H1 l1 (by rw [hx] at h1 h2; rw [← hw]; exact ⟨h1, h2, h3⟩))
theorem w_copy (F : CallFix p m c cc nL s args Ts own) (hK : KK D y s) (hG : GG D A H0 ws H locs) (hsz : ls.size = nL) {index : Nat} (hlink : (Cond.methodLink own index arraycopyName).before args s = true) (hnat : (Cond.native arraycopyName).before args s = true) (hstat : (Cond.static arraycopyName).before args s = true) (hini : (Cond.initialized "java/lang/System").before args s = true) (q0 q1 : Nat) {a0 a1 n0 n1 : Nat} {f g : Ar} (ha0 : ws[q0]? = some (a0, .inl (y 0, n0, .inl f))) (ha1 : ws[q1]? = some (a1, .inl (y 0, n1, .inl g))) {sp dp n : Int32} (hin : cpok n0 n1 sp dp n = true) (ws2 : va_W) (hw : ws.set q1 (a1, .inl (y 0, n1, .inl (cpA f g sp dp n))) = ws2) (hR : 1 ≤ R.frames ∧ (rest.map fun v => v.category).sum + (nativeFrameWords "java/lang/System" "arraycopy" 5 + 11) ≤ R.locals) (hdg : decode cc pc = .ok (.invokestatic index, 3)) (kk : ∀ (H : Heap) (locs : List Loc), GG D A H0 ws2 H locs → W p l e R s m args below meth c H locs cells slots Q (F0 m (pc + 3) ls rest)) : W p l e R s m args below meth c H locs cells slots Q (F0 m pc ls (.int n :: .int dp :: .ref a1 :: .int sp :: .ref a0 :: rest)) := by
  obtain ⟨h1, h2, h3, h4, h5⟩ := cpok_e hin
  exact va_copyi (ty := .int) F.1 F.2.1 (F.2.2.1.trans hsz.symm) F.2.2.2.1 hlink hnat hstat hini hK.1 hG.1 hG.2.1 hG.2.2 q0 q1 0 0 ha0 ha1 rfl rfl rfl h1 h2 h3 h4 h5 (fun _ _ => rfl) hR.1 hR.2 hdg (fun H1 l1 h1 h2 h3 => kk H1 l1 (by rw [← hw]; exact ⟨h1, h2, h3⟩))
theorem w_min (F : CallFix p m c cc nL s args Ts own) (hsz : ls.size = nL) {index : Nat} (hlink : (Cond.methodLink own index Lib.Math.min.name).before args s = true) (hstat : (Cond.static Lib.Math.min.name).before args s = true) (hini : (Cond.initialized "java/lang/Math").before args s = true) (hcode : (Cond.code Lib.Math.min.name Lib.Math.min.code 2 (some .int)).before args s = true) (hR : 1 ≤ R.frames ∧ (rest.map fun v => v.category).sum + 13 ≤ R.locals) (hc : cells ≤ R.cells ∧ slots ≤ R.slots) {x z : Int32} (hdg : decode cc pc = .ok (.invokestatic index, 3)) (kk : W p l e R s m args below meth c H locs cells slots Q (F0 m (pc + 3) ls (.int (jmin x z) :: rest))) : W p l e R s m args below meth c H locs cells slots Q (F0 m pc ls (.int z :: .int x :: rest)) :=
  va_mmin F.1 F.2.1 (F.2.2.1.trans hsz.symm) F.2.2.2.1 hlink hstat hini hcode hR.1 hR.2 hc.1 hc.2 hdg kk
theorem w_max (F : CallFix p m c cc nL s args Ts own) (hsz : ls.size = nL) {index : Nat} (hlink : (Cond.methodLink own index Lib.Math.max.name).before args s = true) (hstat : (Cond.static Lib.Math.max.name).before args s = true) (hini : (Cond.initialized "java/lang/Math").before args s = true) (hcode : (Cond.code Lib.Math.max.name Lib.Math.max.code 2 (some .int)).before args s = true) (hR : 1 ≤ R.frames ∧ (rest.map fun v => v.category).sum + 13 ≤ R.locals) (hc : cells ≤ R.cells ∧ slots ≤ R.slots) {x z : Int32} (hdg : decode cc pc = .ok (.invokestatic index, 3)) (kk : W p l e R s m args below meth c H locs cells slots Q (F0 m (pc + 3) ls (.int (jmax x z) :: rest))) : W p l e R s m args below meth c H locs cells slots Q (F0 m pc ls (.int z :: .int x :: rest)) :=
  va_mmax F.1 F.2.1 (F.2.2.1.trans hsz.symm) F.2.2.2.1 hlink hstat hini hcode hR.1 hR.2 hc.1 hc.2 hdg kk
theorem w_aald (F : CallFix p m c cc nL s args Ts own) (hK : KK D y s) (hG : GG D A H0 ws H locs) (q0 : Nat) {a n : Nat} {f : Nat → Option Nat} (ha : ws[q0]? = some (a, .inl (y 3, n, .inr (.inr (.inr (.inr f)))))) {i : Int32} (hin : ix i n = true) {k v : Nat} (hk : k = i.toNatClampNeg) (hv : f k = some v) (hdg : decode cc pc = .ok (.aaload, 1)) (kk : W p l e R s m args below meth c H locs cells slots Q (F0 m (pc + 1) ls (.ref v :: rest))) : W p l e R s m args below meth c H locs cells slots Q (F0 m pc ls (.int i :: .ref a :: rest)) := by
  subst hk
  refine va_aldq F.1 F.2.1 hK.1 hG.1 q0 3 ha rfl (ix_in hin) hdg ?_
  rw [hv]
  exact kk
variable {yn : MethodName} {wn wn' : List Cond} {fr lo : Nat} {As : List Value} {wc wc' : va_W} {b : Nat} {bytes : ByteArray} {maxL n index : Nat} {st0 : List Value}
theorem pre_of (hK : KK D y s) (av : List Value) (hP : va_P D vwCl wc H) (hD : va_D (fun _ => True) wc) : ∀ U : State, U.heap = H → s.WarmedH U.vm → va_Pc av (Pre1 D y wc H.size) av.toArray U := fun U hU hW => ⟨rfl, by rw [hU], by rw [hU]; exact hP, ⟨va_K.moved hW.alike hK.1, hK.2.warm hW⟩, hD⟩
/-- a virtual call that answers an int (or a boolean), over the cells at the places is -/
theorem k_Vi (F : CallFix p m c cc nL s args Ts own) (hK : KK D y s) (hA : ∀ q, H0.size ≤ q → A q) (hG : GG D A H0 ws H locs) {r : Int32} {ret : Option FieldType} {C : String} {T : u_T} {N ci : Nat} {fs : List Value}
    (hM : MI l yn wn fr lo (.ref b :: As) D y wc H.size r wc') (cw : CallW R s args own C index yn bytes maxL ret wn (RM fr lo) 0 0 n)
    (j : Nat) (hb : wc[j]? = some (b, .inr (ci, fs))) (hc : vwCl[ci]? = some (C, T, N)) (is : List Nat) (hsub : is.map (fun i => ws[i]?) = wc.map some) (hnd : va_nd is = true) (hadr : wc'.map Prod.fst = wc.map Prod.fst) (ws2 : va_W) (hw2 : stL ws is wc' = ws2)
    (hst : st0 = As.reverse ++ .ref b :: rest) (hn : As.length = n) (hsz : ls.size = nL) (hcat : (rest.map fun v => v.category).sum ≤ 8) (hdg : decode cc pc = .ok (.invokevirtual index, 3)) (hf : cells ≤ R.cells ∧ slots ≤ R.slots)
    (kk : ∀ (H : Heap) (locs : List Loc), GG D A H0 ws2 H locs → W p l e R s m args below meth c H locs cells slots Q (F0 m (pc + 3) ls (.int r :: rest))) : W p l e R s m args below meth c H locs cells slots Q (F0 m pc ls st0) := by
  obtain ⟨hPc, hDc, hFc⟩ := hG.part hA is hsub hnd
  refine va_calli (va_runV (As := As) (rest := rest) F hM cw ⟨pre_blind, va_recv hK.1 hPc hc hb, pre_of hK _ hPc hDc⟩ rfl hn hsz hst (lv_room hcat) hdg hf) hG.2.2 (fun q _ h => hFc q h) hFc (fun r1 u t H1 locs1 ht hvm hw hB hz hk hS => ?_)
  subst hw
  subst hw2
  exact kk H1 locs1 (hG.callP is hsub hadr hk (ht ▸ hB) hS)
theorem k_Vv (F : CallFix p m c cc nL s args Ts own) (hK : KK D y s) (hA : ∀ q, H0.size ≤ q → A q) (hG : GG D A H0 ws H locs) {C : String} {T : u_T} {N ci : Nat} {fs : List Value}
    (hM : MV l yn wn fr lo (.ref b :: As) D y wc H.size wc') (cw : CallW R s args own C index yn bytes maxL none wn (RM fr lo) 0 0 n)
    (j : Nat) (hb : wc[j]? = some (b, .inr (ci, fs))) (hc : vwCl[ci]? = some (C, T, N)) (is : List Nat) (hsub : is.map (fun i => ws[i]?) = wc.map some) (hnd : va_nd is = true) (hadr : wc'.map Prod.fst = wc.map Prod.fst) (ws2 : va_W) (hw2 : stL ws is wc' = ws2)
    (hst : st0 = As.reverse ++ .ref b :: rest) (hn : As.length = n) (hsz : ls.size = nL) (hcat : (rest.map fun v => v.category).sum ≤ 8) (hdg : decode cc pc = .ok (.invokevirtual index, 3)) (hf : cells ≤ R.cells ∧ slots ≤ R.slots)
    (kk : ∀ (H : Heap) (locs : List Loc), GG D A H0 ws2 H locs → W p l e R s m args below meth c H locs cells slots Q (F0 m (pc + 3) ls rest)) : W p l e R s m args below meth c H locs cells slots Q (F0 m pc ls st0) := by
  obtain ⟨hPc, hDc, hFc⟩ := hG.part hA is hsub hnd
  refine va_callv (va_runV (As := As) (rest := rest) F hM cw ⟨pre_blind, va_recv hK.1 hPc hc hb, pre_of hK _ hPc hDc⟩ rfl hn hsz hst (lv_room hcat) hdg hf) hG.2.2 (fun q _ h => hFc q h) hFc (fun u t H1 locs1 ht hvm hw hB hz hk hS => ?_)
  subst hw2
  exact kk H1 locs1 (hG.callP is hsub hadr hk (ht ▸ hB) hS)
/-- the same over the caller's whole world -/
theorem k_Wi (F : CallFix p m c cc nL s args Ts own) (hK : KK D y s) (hA : ∀ q, H0.size ≤ q → A q) (hG : GG D A H0 ws H locs) {r : Int32} {ret : Option FieldType} {C : String} {T : u_T} {N ci : Nat} {fs : List Value}
    (hM : MI l yn wn fr lo (.ref b :: As) D y ws H.size r wc') (cw : CallW R s args own C index yn bytes maxL ret wn (RM fr lo) 0 0 n)
    (j : Nat) (hb : ws[j]? = some (b, .inr (ci, fs))) (hc : vwCl[ci]? = some (C, T, N)) (hadr : wc'.map Prod.fst = ws.map Prod.fst)
    (hst : st0 = As.reverse ++ .ref b :: rest) (hn : As.length = n) (hsz : ls.size = nL) (hcat : (rest.map fun v => v.category).sum ≤ 8) (hdg : decode cc pc = .ok (.invokevirtual index, 3)) (hf : cells ≤ R.cells ∧ slots ≤ R.slots)
    (kk : ∀ (H : Heap) (locs : List Loc), GG D A H0 wc' H locs → W p l e R s m args below meth c H locs cells slots Q (F0 m (pc + 3) ls (.int r :: rest))) : W p l e R s m args below meth c H locs cells slots Q (F0 m pc ls st0) := by
  have hFc : ∀ q, va_A ws H.size q → A q := fun q h => by
    rcases h with ⟨k, e, h⟩ | h
    · exact hG.2.1.2 k _ h
    · exact hA q (Nat.le_trans hG.2.2.1 h)
  refine va_calli (va_runV (As := As) (rest := rest) F hM cw ⟨pre_blind, va_recv hK.1 hG.1 hc hb, pre_of hK _ hG.1 (hG.2.1.weaken (fun _ _ _ _ => trivial))⟩ rfl hn hsz hst (lv_room hcat) hdg hf) hG.2.2 (fun q _ h => hFc q h) hFc (fun r1 u t H1 locs1 ht hvm hw hB hz hk hS => ?_)
  subst hw
  exact kk H1 locs1 ⟨ht ▸ hB, hG.2.1.addr hadr, hS⟩
theorem k_Wv (F : CallFix p m c cc nL s args Ts own) (hK : KK D y s) (hA : ∀ q, H0.size ≤ q → A q) (hG : GG D A H0 ws H locs) {C : String} {T : u_T} {N ci : Nat} {fs : List Value}
    (hM : MV l yn wn fr lo (.ref b :: As) D y ws H.size wc') (cw : CallW R s args own C index yn bytes maxL none wn (RM fr lo) 0 0 n)
    (j : Nat) (hb : ws[j]? = some (b, .inr (ci, fs))) (hc : vwCl[ci]? = some (C, T, N)) (hadr : wc'.map Prod.fst = ws.map Prod.fst)
    (hst : st0 = As.reverse ++ .ref b :: rest) (hn : As.length = n) (hsz : ls.size = nL) (hcat : (rest.map fun v => v.category).sum ≤ 8) (hdg : decode cc pc = .ok (.invokevirtual index, 3)) (hf : cells ≤ R.cells ∧ slots ≤ R.slots)
    (kk : ∀ (H : Heap) (locs : List Loc), GG D A H0 wc' H locs → W p l e R s m args below meth c H locs cells slots Q (F0 m (pc + 3) ls rest)) : W p l e R s m args below meth c H locs cells slots Q (F0 m pc ls st0) := by
  have hFc : ∀ q, va_A ws H.size q → A q := fun q h => by
    rcases h with ⟨k, e, h⟩ | h
    · exact hG.2.1.2 k _ h
    · exact hA q (Nat.le_trans hG.2.2.1 h)
  refine va_callv (va_runV (As := As) (rest := rest) F hM cw ⟨pre_blind, va_recv hK.1 hG.1 hc hb, pre_of hK _ hG.1 (hG.2.1.weaken (fun _ _ _ _ => trivial))⟩ rfl hn hsz hst (lv_room hcat) hdg hf) hG.2.2 (fun q _ h => hFc q h) hFc (fun u t H1 locs1 ht hvm hw hB hz hk hS => ?_)
  exact kk H1 locs1 ⟨ht ▸ hB, hG.2.1.addr hadr, hS⟩
theorem nil_part : va_P D vwCl [] H ∧ va_D (fun _ => True) [] := ⟨fun k q h => by simp at h, fun i j p q h => by simp at h, fun k q h => by simp at h⟩
theorem nil_A {sz q : Nat} (h : va_A [] sz q) : sz ≤ q := by
  rcases h with ⟨k, e, h⟩ | h
  · simp at h
  · exact h
/-- a static call that needs no cells -/
theorem k_Si (F : CallFix p m c cc nL s args Ts own) (hK : KK D y s) (hA : ∀ q, H0.size ≤ q → A q) (hG : GG D A H0 ws H locs) {r : Int32} {ret : Option FieldType}
    (hM : MI l yn wn fr lo As D y [] H.size r []) (cw : CallB R s args own index yn bytes maxL ret wn (RM fr lo) 0 0 n ∧ (Cond.static yn).before args s = true)
    (hst : st0 = As.reverse ++ rest) (hn : As.length = n) (hsz : ls.size = nL) (hcat : (rest.map fun v => v.category).sum ≤ 8) (hdg : decode cc pc = .ok (.invokestatic index, 3)) (hf : cells ≤ R.cells ∧ slots ≤ R.slots)
    (kk : ∀ (H : Heap) (locs : List Loc), GG D A H0 ws H locs → W p l e R s m args below meth c H locs cells slots Q (F0 m (pc + 3) ls (.int r :: rest))) : W p l e R s m args below meth c H locs cells slots Q (F0 m pc ls st0) := by
  have hFc : ∀ q, va_A [] H.size q → A q := fun q h => hA q (Nat.le_trans hG.2.2.1 (nil_A h))
  refine va_calli (va_runS (As := As) (rest := rest) F hM cw ⟨pre_blind, pre_of hK _ (nil_part (D := D) (H := H)).1 (nil_part (D := D) (H := H)).2⟩ rfl hn hsz hst (lv_room hcat) hdg hf) hG.2.2 (fun q _ h => hFc q h) hFc (fun r1 u t H1 locs1 ht hvm hw hB hz hk hS => ?_)
  subst hw
  exact kk H1 locs1 ⟨hG.1.kept (fun k q hq => hk q.1 (hG.1 k q hq).lt (fun h => by have := nil_A h; have := (hG.1 k q hq).lt; omega)), hG.2.1, hS⟩
theorem k_SNi (F : CallFix p m c cc nL s args Ts own) (hK : KK D y s) (hA : ∀ q, H0.size ≤ q → A q) (hG : GG D A H0 ws H locs) {r : Int32} {ret : Option FieldType} {host : String}
    (hM : MI l yn wn fr lo As D y [] H.size r []) (cw : va_CN R s args own index yn host bytes maxL ret wn (RM fr lo) 0 0 n ∧ (Cond.static yn).before args s = true ∧ True)
    (hst : st0 = As.reverse ++ rest) (hn : As.length = n) (hsz : ls.size = nL) (hcat : (rest.map fun v => v.category).sum ≤ 8) (hdg : decode cc pc = .ok (.invokestatic index, 3)) (hf : cells ≤ R.cells ∧ slots ≤ R.slots)
    (kk : ∀ (H : Heap) (locs : List Loc), GG D A H0 ws H locs → W p l e R s m args below meth c H locs cells slots Q (F0 m (pc + 3) ls (.int r :: rest))) : W p l e R s m args below meth c H locs cells slots Q (F0 m pc ls st0) := by
  have hFc : ∀ q, va_A [] H.size q → A q := fun q h => hA q (Nat.le_trans hG.2.2.1 (nil_A h))
  refine va_calli (va_runSN (As := As) (rest := rest) F hM cw ⟨pre_blind, pre_of hK _ (nil_part (D := D) (H := H)).1 (nil_part (D := D) (H := H)).2⟩ rfl hn hsz hst (lv_room hcat) hdg hf) hG.2.2 (fun q _ h => hFc q h) hFc (fun r1 u t H1 locs1 ht hvm hw hB hz hk hS => ?_)
  subst hw
  exact kk H1 locs1 ⟨hG.1.kept (fun k q hq => hk q.1 (hG.1 k q hq).lt (fun h => by have := nil_A h; have := (hG.1 k q hq).lt; omega)), hG.2.1, hS⟩
/-- a static call that answers nothing, over the cells at the places is -/
theorem k_Sv (F : CallFix p m c cc nL s args Ts own) (hK : KK D y s) (hA : ∀ q, H0.size ≤ q → A q) (hG : GG D A H0 ws H locs)
    (hM : MV l yn wn fr lo As D y wc H.size wc') (cw : CallB R s args own index yn bytes maxL none wn (RM fr lo) 0 0 n ∧ (Cond.static yn).before args s = true)
    (is : List Nat) (hsub : is.map (fun i => ws[i]?) = wc.map some) (hnd : va_nd is = true) (hadr : wc'.map Prod.fst = wc.map Prod.fst) (ws2 : va_W) (hw2 : stL ws is wc' = ws2)
    (hst : st0 = As.reverse ++ rest) (hn : As.length = n) (hsz : ls.size = nL) (hcat : (rest.map fun v => v.category).sum ≤ 8) (hdg : decode cc pc = .ok (.invokestatic index, 3)) (hf : cells ≤ R.cells ∧ slots ≤ R.slots)
    (kk : ∀ (H : Heap) (locs : List Loc), GG D A H0 ws2 H locs → W p l e R s m args below meth c H locs cells slots Q (F0 m (pc + 3) ls rest)) : W p l e R s m args below meth c H locs cells slots Q (F0 m pc ls st0) := by
  obtain ⟨hPc, hDc, hFc⟩ := hG.part hA is hsub hnd
  refine va_callv (va_runS (As := As) (rest := rest) F hM cw ⟨pre_blind, pre_of hK _ hPc hDc⟩ rfl hn hsz hst (lv_room hcat) hdg hf) hG.2.2 (fun q _ h => hFc q h) hFc (fun u t H1 locs1 ht hvm hw hB hz hk hS => ?_)
  subst hw2
  exact kk H1 locs1 (hG.callP is hsub hadr hk (ht ▸ hB) hS)
end BW
/-- a method's entry: what its body is walked over -/
theorem M_i {l : Launch} {yn : MethodName} {wn wn' : List Cond} {fr lo maxL sz : Nat} {av : List Value} {D : va_G} {y : Nat → ClassId} {ws ws' : va_W} {r : Int32} {cc : ByteArray} {own : String} (hy : plainName yn.cls = true) (hw : wn = .code yn cc maxL (some .int) :: wn') (hown : yn.cls = own) (hle : (lg_sl av).length ≤ maxL)
    (body : ∀ (p : Program) (e : Env) (s : State) (m : MethodId) (args : Array Value) (below : List Frame) (meth : Method) (c : Code) (A : Nat → Prop) (Q : State → Prop), CallFix p m c cc maxL s args wn own → KK D y s → (∀ q, s.heap.size ≤ q → A q) → ∀ (H : Heap) (locs : List Loc), GG D A s.heap ws H locs →
      (∀ (v : Int32) (H : Heap) (locs : List Loc) (pc : Nat) (ls : Array Slot), v = r → GG D A s.heap ws' H locs → decode cc pc = .ok (.ireturn, 1) → W p l e (RM fr lo) s m args below meth c H locs 0 0 Q (F0 m pc ls [.int v])) →
      ∀ ls, lv_has ls maxL (lv_args 0 av) → W p l e (RM fr lo) s m args below meth c H locs 0 0 Q (F0 m 0 ls [])) : MI l yn wn fr lo av D y ws sz r ws' := by
  refine Met.ofW (cc := cc) (maxL := maxL) (ret := some .int) hy hw ?_
  intro p e s m args below meth c s₁ B hml hv
  obtain ⟨rfl, hsz, hP, hK, hD0⟩ := hv
  have hts := atoms_spec (ws := wn) B.pre
  have hl := lv_entry av (n := maxL) hle
  rw [lg_entry_eq]
  subst hsz
  refine body p e s m _ below meth c (va_A ws s.heap.size) _ ⟨B.exec, B.bytes, hml, by rw [← hown]; exact findClass_of_methodNamed B.named, hts⟩ hK (fun q h => Or.inr h) _ _ ⟨hP, hD0.self, va_S.rf⟩ (fun v H locs pc ls e hG hd => ?_) _ hl
  exact W.iret B.exec B.bytes B.returns (fun t ht hW => ⟨⟨v, (), rfl, e, (show va_P D vwCl ws' t.heap by rw [ht]; exact hG.1)⟩, hG.2.2.F ht⟩) hG.2.2.2.2 hd
theorem M_z {l : Launch} {yn : MethodName} {wn wn' : List Cond} {fr lo maxL sz : Nat} {av : List Value} {D : va_G} {y : Nat → ClassId} {ws ws' : va_W} {r : Int32} {cc : ByteArray} {own : String} (hy : plainName yn.cls = true) (hw : wn = .code yn cc maxL (some .boolean) :: wn') (hown : yn.cls = own) (hle : (lg_sl av).length ≤ maxL)
    (body : ∀ (p : Program) (e : Env) (s : State) (m : MethodId) (args : Array Value) (below : List Frame) (meth : Method) (c : Code) (A : Nat → Prop) (Q : State → Prop), CallFix p m c cc maxL s args wn own → KK D y s → (∀ q, s.heap.size ≤ q → A q) → ∀ (H : Heap) (locs : List Loc), GG D A s.heap ws H locs →
      (∀ (v : Int32) (H : Heap) (locs : List Loc) (pc : Nat) (ls : Array Slot), narrow .boolean (.int v) = .int v → v = r → GG D A s.heap ws' H locs → decode cc pc = .ok (.ireturn, 1) → W p l e (RM fr lo) s m args below meth c H locs 0 0 Q (F0 m pc ls [.int v])) →
      ∀ ls, lv_has ls maxL (lv_args 0 av) → W p l e (RM fr lo) s m args below meth c H locs 0 0 Q (F0 m 0 ls [])) : MI l yn wn fr lo av D y ws sz r ws' := by
  refine Met.ofW (cc := cc) (maxL := maxL) (ret := some .boolean) hy hw ?_
  intro p e s m args below meth c s₁ B hml hv
  obtain ⟨rfl, hsz, hP, hK, hD0⟩ := hv
  have hts := atoms_spec (ws := wn) B.pre
  have hl := lv_entry av (n := maxL) hle
  rw [lg_entry_eq]
  subst hsz
  refine body p e s m _ below meth c (va_A ws s.heap.size) _ ⟨B.exec, B.bytes, hml, by rw [← hown]; exact findClass_of_methodNamed B.named, hts⟩ hK (fun q h => Or.inr h) _ _ ⟨hP, hD0.self, va_S.rf⟩ (fun v H locs pc ls hz e hG hd => ?_) _ hl
  exact W.zret B.exec B.bytes B.returns hz (fun t ht hW => ⟨⟨v, (), rfl, e, (show va_P D vwCl ws' t.heap by rw [ht]; exact hG.1)⟩, hG.2.2.F ht⟩) hG.2.2.2.2 hd
theorem M_v {l : Launch} {yn : MethodName} {wn wn' : List Cond} {fr lo maxL sz : Nat} {av : List Value} {D : va_G} {y : Nat → ClassId} {ws ws' : va_W} {cc : ByteArray} {own : String} (hy : plainName yn.cls = true) (hw : wn = .code yn cc maxL none :: wn') (hown : yn.cls = own) (hle : (lg_sl av).length ≤ maxL)
    (body : ∀ (p : Program) (e : Env) (s : State) (m : MethodId) (args : Array Value) (below : List Frame) (meth : Method) (c : Code) (A : Nat → Prop) (Q : State → Prop), CallFix p m c cc maxL s args wn own → KK D y s → (∀ q, s.heap.size ≤ q → A q) → ∀ (H : Heap) (locs : List Loc), GG D A s.heap ws H locs →
      (∀ (H : Heap) (locs : List Loc) (pc : Nat) (ls : Array Slot), GG D A s.heap ws' H locs → decode cc pc = .ok (.return_, 1) → W p l e (RM fr lo) s m args below meth c H locs 0 0 Q (F0 m pc ls [])) →
      ∀ ls, lv_has ls maxL (lv_args 0 av) → W p l e (RM fr lo) s m args below meth c H locs 0 0 Q (F0 m 0 ls [])) : MV l yn wn fr lo av D y ws sz ws' := by
  refine Met.ofW (cc := cc) (maxL := maxL) (ret := none) hy hw ?_
  intro p e s m args below meth c s₁ B hml hv
  obtain ⟨rfl, hsz, hP, hK, hD0⟩ := hv
  have hts := atoms_spec (ws := wn) B.pre
  have hl := lv_entry av (n := maxL) hle
  rw [lg_entry_eq]
  subst hsz
  refine body p e s m _ below meth c (va_A ws s.heap.size) _ ⟨B.exec, B.bytes, hml, by rw [← hown]; exact findClass_of_methodNamed B.named, hts⟩ hK (fun q h => Or.inr h) _ _ ⟨hP, hD0.self, va_S.rf⟩ (fun H locs pc ls hG hd => ?_) _ hl
  exact W.vret B.exec B.bytes B.returns (fun t ht hW => ⟨⟨(), rfl, trivial, (show va_P D vwCl ws' t.heap by rw [ht]; exact hG.1)⟩, hG.2.2.F ht⟩) hG.2.2.2.2 hd
end
section
theorem dJ7_fill_53178_0 : decode cJ7_fill_53178 0 = .ok (.iconst 0, 1) := by decide +kernel
theorem dJ7_fill_53178_1 : decode cJ7_fill_53178 1 = .ok (.istore_n 2, 1) := by decide +kernel
theorem dJ7_fill_53178_2 : decode cJ7_fill_53178 2 = .ok (.aload_n 0, 1) := by decide +kernel
theorem dJ7_fill_53178_3 : decode cJ7_fill_53178 3 = .ok (.arraylength, 1) := by decide +kernel
theorem dJ7_fill_53178_4 : decode cJ7_fill_53178 4 = .ok (.istore_n 3, 1) := by decide +kernel
theorem dJ7_fill_53178_5 : decode cJ7_fill_53178 5 = .ok (.iload_n 2, 1) := by decide +kernel
theorem dJ7_fill_53178_6 : decode cJ7_fill_53178 6 = .ok (.iload_n 3, 1) := by decide +kernel
theorem dJ7_fill_53178_7 : decode cJ7_fill_53178 7 = .ok (.if_icmp .ge 13, 3) := by decide +kernel
theorem dJ7_fill_53178_10 : decode cJ7_fill_53178 10 = .ok (.aload_n 0, 1) := by decide +kernel
theorem dJ7_fill_53178_11 : decode cJ7_fill_53178 11 = .ok (.iload_n 2, 1) := by decide +kernel
theorem dJ7_fill_53178_12 : decode cJ7_fill_53178 12 = .ok (.iload_n 1, 1) := by decide +kernel
theorem dJ7_fill_53178_13 : decode cJ7_fill_53178 13 = .ok (.iastore, 1) := by decide +kernel
theorem dJ7_fill_53178_14 : decode cJ7_fill_53178 14 = .ok (.iinc 2 1, 3) := by decide +kernel
theorem dJ7_fill_53178_17 : decode cJ7_fill_53178 17 = .ok (.goto (-12), 3) := by decide +kernel
theorem dJ7_fill_53178_20 : decode cJ7_fill_53178 20 = .ok (.return_, 1) := by decide +kernel
/-! Arrays.fill over ints -/
theorem arrI_congr {cA : ClassId} {N : Nat} {f g : Ar} (h : ∀ j, j < N → f j = g j) : vp_cell cA (N, .inl f) = vp_cell cA (N, .inl g) := by
  show arrV cA N (fun j => .int (f j)) = arrV cA N (fun j => .int (g j))
  simp only [arrV]
  congr 1
  apply Array.ext
  · simp
  · intro i h1 h2
    have hi : i < N := by simpa using h1
    simp only [Array.getElem_ofFn]
    rw [h i hi]
theorem GG.arr1 {D : va_G} {A : Nat → Prop} {H0 H : Heap} {locs : List Loc} {a N : Nat} {cA : ClassId} {f g : Ar} (h : ∀ j, j < N → f j = g j) (hG : GG D A H0 [(a, .inl (cA, N, .inl f))] H locs) : GG D A H0 [(a, .inl (cA, N, .inl g))] H locs := by
  refine ⟨va_P.of (fun q hq => ?_), hG.2.1.addr rfl, hG.2.2⟩
  simp only [List.mem_singleton] at hq
  subst hq
  have h1 : va_at D vwCl (a, .inl (cA, N, .inl f)) H := hG.1.mem (List.mem_singleton.mpr rfl)
  exact Eq.trans h1 (congrArg some (arrI_congr h))
set_option maxHeartbeats 4000000 in
set_option maxRecDepth 100000 in
theorem c_J7_fill (l : Launch) (D : va_G) (y : Nat → ClassId) (a N sz : Nat) (f : Ar) (v : Int32) (hN : N < 2 ^ 31 := by decide) : MV l yJ7_fill_53178 wsJ7_fill_53178 0 0 [.ref a, .int v] D y [(a, .inl (y 0, N, .inl f))] sz [(a, .inl (y 0, N, .inl (fun _ => v)))] := by
  refine M_v (cc := cJ7_fill_53178) (maxL := 4) (own := RJ7) (by decide) rfl rfl (Nat.le_of_ble_eq_true rfl) ?_
  intro p e s m args below meth c A Q F hK hA H locs hG hret ls hl
  have hx := F.1
  have hb := F.2.1
  have hl : lv_has ls 4 [(0, .ref a), (1, .int v)] := hl
  refine lv_iconst (v := nI 0) hx hb dJ7_fill_53178_0 rfl ?_
  refine lv_istore_n (lv' := [(2, .int (nI 0)), (0, .ref a), (1, .int v)]) hx hb dJ7_fill_53178_1 rfl hl (by decide) rfl (fun ls hl => ?_)
  refine lv_aload_n hx hb dJ7_fill_53178_2 rfl (lv_at hl 1 rfl) ?_
  refine va_alen hx hb hK.1 hG.1 0 0 rfl rfl (v := nI N) rfl dJ7_fill_53178_3 ?_
  refine lv_istore_n (lv' := [(3, .int (nI N)), (2, .int (nI 0)), (0, .ref a), (1, .int v)]) hx hb dJ7_fill_53178_4 rfl hl (by decide) rfl (fun ls hl => ?_)
  have hL : ∀ (n i : Nat) (g : Ar) (H : Heap) (locs : List Loc) (ls : Array Slot), i ≤ N → N - i < n → (∀ j, j < i → g j = v) → GG D A s.heap [(a, .inl (y 0, N, .inl g))] H locs → lv_has ls 4 [(3, .int (nI N)), (2, .int (nI i)), (0, .ref a), (1, .int v)] → W p l e (RM 0 0) s m args below meth c H locs 0 0 Q (F0 m 5 ls []) := by
    intro n
    induction n with
    | zero => intro i g H locs ls h1 h2; omega
    | succ n ih =>
      intro i g H locs ls h1 h2 hg hG hl
      refine lv_iload_n hx hb dJ7_fill_53178_5 rfl (lv_at hl 1 rfl) ?_
      refine lv_iload_n hx hb dJ7_fill_53178_6 rfl (lv_at hl 0 rfl) ?_
      refine lv_icmp_ge (tgt := 20) hx hb dJ7_fill_53178_7 (by decide) (fun c1 => ?_) (fun c1 => ?_)
      · have hi : i = N := by
          have := (nI_leI (a := N) (b := i) hN (by omega)).mp c1
          omega
        subst hi
        exact hret H locs _ _ (hG.arr1 hg) dJ7_fill_53178_20
      · have hi : i < N := by
          rcases Nat.lt_or_ge i N with q | q
          · exact q
          · exact absurd (nI_le q (by omega)) c1
        refine lv_aload_n hx hb dJ7_fill_53178_10 rfl (lv_at hl 2 rfl) ?_
        refine lv_iload_n hx hb dJ7_fill_53178_11 rfl (lv_at hl 1 rfl) ?_
        refine lv_iload_n hx hb dJ7_fill_53178_12 rfl (lv_at hl 3 rfl) ?_
        refine w_iast F hK hG 0 rfl (ix_nI hi hN) [(a, .inl (y 0, N, .inl (upd g (nI i).toNatClampNeg v)))] rfl dJ7_fill_53178_13 (fun H locs hG => ?_)
        refine lv_iinc (v := nI (i + 1)) (lv' := [(2, .int (nI (i + 1))), (3, .int (nI N)), (0, .ref a), (1, .int v)]) hx hb dJ7_fill_53178_14 hl (k := 1) rfl (nI_1 i) (by decide) rfl (fun ls hl => ?_)
        refine lv_goto (tgt := 5) hx hb dJ7_fill_53178_17 (by decide) ?_
        refine ih (i + 1) _ _ _ _ (by omega) (by omega) (fun j hj => ?_) hG (lv_sub hl [1, 0, 2, 3] rfl)
        rw [nI_clamp (by omega)]
        unfold upd
        by_cases hji : j = i
        · rw [if_pos hji]
        · rw [if_neg hji]; exact hg j (by omega)
  exact hL (N + 1) 0 f _ _ _ (Nat.zero_le _) (by omega) (fun j hj => absurd hj (by omega)) hG hl
end
section
/-! the worlds: cells of each class, by program -/
def SV : Type := Ar × Ar × Ar × Ar × Ar × Ar × Ar × Int32 × Int32 × Int32 × Int32 × Int32
def mkSV (settings : Ar) (letters : Ar) (heats : Ar) (starts : Ar) (families : Ar) (generations : Ar) (tally : Ar) (stories : Int32) (nextFamily : Int32) (splits : Int32) (boilings : Int32) (fizzles : Int32) : SV := (settings, letters, heats, starts, families, generations, tally, stories, nextFamily, splits, boilings, fizzles)
def sv_settings (v : SV) : Ar := v.1
def sv_letters (v : SV) : Ar := v.2.1
def sv_heats (v : SV) : Ar := v.2.2.1
def sv_starts (v : SV) : Ar := v.2.2.2.1
def sv_families (v : SV) : Ar := v.2.2.2.2.1
def sv_generations (v : SV) : Ar := v.2.2.2.2.2.1
def sv_tally (v : SV) : Ar := v.2.2.2.2.2.2.1
def sv_stories (v : SV) : Int32 := v.2.2.2.2.2.2.2.1
def sv_nextFamily (v : SV) : Int32 := v.2.2.2.2.2.2.2.2.1
def sv_splits (v : SV) : Int32 := v.2.2.2.2.2.2.2.2.2.1
def sv_boilings (v : SV) : Int32 := v.2.2.2.2.2.2.2.2.2.2.1
def sv_fizzles (v : SV) : Int32 := v.2.2.2.2.2.2.2.2.2.2.2
def w_X1 (y : Nat → ClassId) (a : Nat → Nat) (x_characters : Ar) (x_length : Int32) : va_W := [(a 0, .inr (1, [.ref (a 1), .int x_length])), (a 1, .inl (y 2, 60, .inl x_characters))]
def w_X2 (y : Nat → ClassId) (a : Nat → Nat) (x_settings : Ar) (x_letters : Ar) (x_heats : Ar) (x_starts : Ar) (x_families : Ar) (x_generations : Ar) (x_tally : Ar) (x_stories : Int32) (x_nextFamily : Int32) (x_splits : Int32) (x_boilings : Int32) (x_fizzles : Int32) : va_W := [(a 0, .inr (2, [.ref (a 1), .ref (a 2), .ref (a 3), .ref (a 4), .ref (a 5), .ref (a 6), .ref (a 7), .int x_stories, .int x_nextFamily, .int x_splits, .int x_boilings, .int x_fizzles])), (a 1, .inl (y 0, 3, .inl x_settings)), (a 2, .inl (y 0, 150, .inl x_letters)), (a 3, .inl (y 0, 150, .inl x_heats)), (a 4, .inl (y 0, 13, .inl x_starts)), (a 5, .inl (y 0, 12, .inl x_families)), (a 6, .inl (y 0, 12, .inl x_generations)), (a 7, .inl (y 0, 26, .inl x_tally))]
def w_X4 (y : Nat → ClassId) (a : Nat → Nat) (x_s : Ar) (x_aside : Ar) (x_before : Ar) (x_known : Int32) (x_slots : Ar) (x_isSaved : Ar) (x_pad : Ar) (x_length : Int32) (x_letters : Ar) (x_heats : Ar) (x_reactions : Int32) (x_newSplits : Int32) (x_storiesThen : Int32) (x_heatThen : Int32) (x_place : Int32) (x_isWrong : Int32) (x_toldLetter : Ar) (x_toldHeat : Ar) (x_toldStory : Ar) (x_toldWords : Int32) (x_toldStories : Int32) : va_W := [(a 0, .inr (4, [.ref (a 1), .ref (a 2), .ref (a 3), .int x_known, .ref (a 4), .ref (a 5), .ref (a 6), .int x_length, .ref (a 7), .ref (a 8), .int x_reactions, .int x_newSplits, .int x_storiesThen, .int x_heatThen, .int x_place, .int x_isWrong, .ref (a 9), .ref (a 10), .ref (a 11), .int x_toldWords, .int x_toldStories])), (a 1, .inl (y 0, 345, .inl x_s)), (a 2, .inl (y 0, 345, .inl x_aside)), (a 3, .inl (y 0, 2070, .inl x_before)), (a 4, .inl (y 0, 690, .inl x_slots)), (a 5, .inl (y 1, 2, .inl x_isSaved)), (a 6, .inl (y 0, 60, .inl x_pad)), (a 7, .inl (y 0, 150, .inl x_letters)), (a 8, .inl (y 0, 150, .inl x_heats)), (a 9, .inl (y 0, 61, .inl x_toldLetter)), (a 10, .inl (y 0, 61, .inl x_toldHeat)), (a 11, .inl (y 0, 61, .inl x_toldStory))]
def w_X3 (y : Nat → ClassId) (a pa na ta ha : Nat → Nat) (sl : Nat) (x_saved : Ar) (x_runs : Ar) (x_themes : Ar) (x_storyHeats : Ar) : va_W := [(a 0, .inr (3, [.ref (na 0), .ref (ta 0), .ref (ha 0), .ref (sl), .ref (a 1), .ref (pa 0), .ref (a 2), .ref (a 3), .ref (a 4)])), (a 1, .inl (y 1, 2, .inl x_saved)), (a 2, .inl (y 0, 150, .inl x_runs)), (a 3, .inl (y 0, 12, .inl x_themes)), (a 4, .inl (y 0, 12, .inl x_storyHeats))]
def w_sv (y : Nat → ClassId) (a : Nat → Nat) (v : SV) : va_W := w_X2 y a (sv_settings v) (sv_letters v) (sv_heats v) (sv_starts v) (sv_families v) (sv_generations v) (sv_tally v) (sv_stories v) (sv_nextFamily v) (sv_splits v) (sv_boilings v) (sv_fizzles v)
def w_X0 (y : Nat → ClassId) (ha : Nat → Nat) (hb : Nat → Nat → Nat) (x_v : Nat → SV) (x_oldest x_size : Int32) : va_W := (ha 0, .inr (0, [.ref (ha 1), .int x_oldest, .int x_size])) :: (ha 1, .inl (y 3, 6, .inr (.inr (.inr (.inr (fun k => some (hb k 0))))))) :: (w_sv y (hb 0) (x_v 0) ++ (w_sv y (hb 1) (x_v 1) ++ (w_sv y (hb 2) (x_v 2) ++ (w_sv y (hb 3) (x_v 3) ++ (w_sv y (hb 4) (x_v 4) ++ (w_sv y (hb 5) (x_v 5)))))))
def w_SL (y : Nat → ClassId) (sl : Nat) (sb : Nat → Nat → Nat) (x_v : Nat → SV) : va_W := (sl, .inl (y 3, 2, .inr (.inr (.inr (.inr (fun k => some (sb k 0))))))) :: (w_sv y (sb 0) (x_v 0) ++ (w_sv y (sb 1) (x_v 1)))
end
section
theorem dX4_in_0 : decode cX4_in 0 = .ok (.iload_n 0, 1) := by decide +kernel
theorem dX4_in_1 : decode cX4_in 1 = .ok (.iload_n 1, 1) := by decide +kernel
theorem dX4_in_2 : decode cX4_in 2 = .ok (.if_icmp .lt 12, 3) := by decide +kernel
theorem dX4_in_5 : decode cX4_in 5 = .ok (.iload_n 0, 1) := by decide +kernel
theorem dX4_in_6 : decode cX4_in 6 = .ok (.iload_n 2, 1) := by decide +kernel
theorem dX4_in_7 : decode cX4_in 7 = .ok (.if_icmp .gt 7, 3) := by decide +kernel
theorem dX4_in_10 : decode cX4_in 10 = .ok (.iconst 1, 1) := by decide +kernel
theorem dX4_in_11 : decode cX4_in 11 = .ok (.goto 4, 3) := by decide +kernel
theorem dX4_in_14 : decode cX4_in 14 = .ok (.iconst 0, 1) := by decide +kernel
theorem dX4_in_15 : decode cX4_in 15 = .ok (.ireturn, 1) := by decide +kernel
theorem dX4_isStory_0 : decode cX4_isStory 0 = .ok (.iload_n 1, 1) := by decide +kernel
theorem dX4_isStory_1 : decode cX4_isStory 1 = .ok (.iconst 0, 1) := by decide +kernel
theorem dX4_isStory_2 : decode cX4_isStory 2 = .ok (.aload_n 0, 1) := by decide +kernel
theorem dX4_isStory_3 : decode cX4_isStory 3 = .ok (.getfield 7, 3) := by decide +kernel
theorem dX4_isStory_6 : decode cX4_isStory 6 = .ok (.iconst 3, 1) := by decide +kernel
theorem dX4_isStory_7 : decode cX4_isStory 7 = .ok (.iaload, 1) := by decide +kernel
theorem dX4_isStory_8 : decode cX4_isStory 8 = .ok (.iconst 1, 1) := by decide +kernel
theorem dX4_isStory_9 : decode cX4_isStory 9 = .ok (.isub, 1) := by decide +kernel
theorem dX4_isStory_10 : decode cX4_isStory 10 = .ok (.invokestatic 44, 3) := by decide +kernel
theorem dX4_isStory_13 : decode cX4_isStory 13 = .ok (.ireturn, 1) := by decide +kernel
theorem dX4_isWord_0 : decode cX4_isWord 0 = .ok (.aload_n 0, 1) := by decide +kernel
theorem dX4_isWord_1 : decode cX4_isWord 1 = .ok (.iload_n 1, 1) := by decide +kernel
theorem dX4_isWord_2 : decode cX4_isWord 2 = .ok (.invokevirtual 48, 3) := by decide +kernel
theorem dX4_isWord_5 : decode cX4_isWord 5 = .ok (.ifCond .eq 26, 3) := by decide +kernel
theorem dX4_isWord_8 : decode cX4_isWord 8 = .ok (.iload_n 2, 1) := by decide +kernel
theorem dX4_isWord_9 : decode cX4_isWord 9 = .ok (.iconst 0, 1) := by decide +kernel
theorem dX4_isWord_10 : decode cX4_isWord 10 = .ok (.aload_n 0, 1) := by decide +kernel
theorem dX4_isWord_11 : decode cX4_isWord 11 = .ok (.getfield 7, 3) := by decide +kernel
theorem dX4_isWord_14 : decode cX4_isWord 14 = .ok (.bipush 9, 2) := by decide +kernel
theorem dX4_isWord_16 : decode cX4_isWord 16 = .ok (.iload_n 1, 1) := by decide +kernel
theorem dX4_isWord_17 : decode cX4_isWord 17 = .ok (.iadd, 1) := by decide +kernel
theorem dX4_isWord_18 : decode cX4_isWord 18 = .ok (.iaload, 1) := by decide +kernel
theorem dX4_isWord_19 : decode cX4_isWord 19 = .ok (.iconst 1, 1) := by decide +kernel
theorem dX4_isWord_20 : decode cX4_isWord 20 = .ok (.isub, 1) := by decide +kernel
theorem dX4_isWord_21 : decode cX4_isWord 21 = .ok (.invokestatic 44, 3) := by decide +kernel
theorem dX4_isWord_24 : decode cX4_isWord 24 = .ok (.ifCond .eq 7, 3) := by decide +kernel
theorem dX4_isWord_27 : decode cX4_isWord 27 = .ok (.iconst 1, 1) := by decide +kernel
theorem dX4_isWord_28 : decode cX4_isWord 28 = .ok (.goto 4, 3) := by decide +kernel
theorem dX4_isWord_31 : decode cX4_isWord 31 = .ok (.iconst 0, 1) := by decide +kernel
theorem dX4_isWord_32 : decode cX4_isWord 32 = .ok (.ireturn, 1) := by decide +kernel
theorem dX4_first_0 : decode cX4_first 0 = .ok (.iconst 0, 1) := by decide +kernel
theorem dX4_first_1 : decode cX4_first 1 = .ok (.istore_n 2, 1) := by decide +kernel
theorem dX4_first_2 : decode cX4_first 2 = .ok (.iconst 0, 1) := by decide +kernel
theorem dX4_first_3 : decode cX4_first 3 = .ok (.istore_n 3, 1) := by decide +kernel
theorem dX4_first_4 : decode cX4_first 4 = .ok (.iload_n 3, 1) := by decide +kernel
theorem dX4_first_5 : decode cX4_first 5 = .ok (.iload_n 1, 1) := by decide +kernel
theorem dX4_first_6 : decode cX4_first 6 = .ok (.if_icmp .ge 21, 3) := by decide +kernel
theorem dX4_first_9 : decode cX4_first 9 = .ok (.iload_n 2, 1) := by decide +kernel
theorem dX4_first_10 : decode cX4_first 10 = .ok (.aload_n 0, 1) := by decide +kernel
theorem dX4_first_11 : decode cX4_first 11 = .ok (.getfield 7, 3) := by decide +kernel
theorem dX4_first_14 : decode cX4_first 14 = .ok (.bipush 9, 2) := by decide +kernel
theorem dX4_first_16 : decode cX4_first 16 = .ok (.iload_n 3, 1) := by decide +kernel
theorem dX4_first_17 : decode cX4_first 17 = .ok (.iadd, 1) := by decide +kernel
theorem dX4_first_18 : decode cX4_first 18 = .ok (.iaload, 1) := by decide +kernel
theorem dX4_first_19 : decode cX4_first 19 = .ok (.iadd, 1) := by decide +kernel
theorem dX4_first_20 : decode cX4_first 20 = .ok (.istore_n 2, 1) := by decide +kernel
theorem dX4_first_21 : decode cX4_first 21 = .ok (.iinc 3 1, 3) := by decide +kernel
theorem dX4_first_24 : decode cX4_first 24 = .ok (.goto (-20), 3) := by decide +kernel
theorem dX4_first_27 : decode cX4_first 27 = .ok (.iload_n 2, 1) := by decide +kernel
theorem dX4_first_28 : decode cX4_first 28 = .ok (.ireturn, 1) := by decide +kernel
theorem dX4_know_0 : decode cX4_know 0 = .ok (.aload_n 0, 1) := by decide +kernel
theorem dX4_know_1 : decode cX4_know 1 = .ok (.getfield 52, 3) := by decide +kernel
theorem dX4_know_4 : decode cX4_know 4 = .ok (.bipush 6, 2) := by decide +kernel
theorem dX4_know_6 : decode cX4_know 6 = .ok (.if_icmp .ne 44, 3) := by decide +kernel
theorem dX4_know_9 : decode cX4_know 9 = .ok (.iconst 0, 1) := by decide +kernel
theorem dX4_know_10 : decode cX4_know 10 = .ok (.istore_n 1, 1) := by decide +kernel
theorem dX4_know_11 : decode cX4_know 11 = .ok (.iload_n 1, 1) := by decide +kernel
theorem dX4_know_12 : decode cX4_know 12 = .ok (.sipush 1725, 3) := by decide +kernel
theorem dX4_know_15 : decode cX4_know 15 = .ok (.if_icmp .ge 25, 3) := by decide +kernel
theorem dX4_know_18 : decode cX4_know 18 = .ok (.aload_n 0, 1) := by decide +kernel
theorem dX4_know_19 : decode cX4_know 19 = .ok (.getfield 16, 3) := by decide +kernel
theorem dX4_know_22 : decode cX4_know 22 = .ok (.iload_n 1, 1) := by decide +kernel
theorem dX4_know_23 : decode cX4_know 23 = .ok (.aload_n 0, 1) := by decide +kernel
theorem dX4_know_24 : decode cX4_know 24 = .ok (.getfield 16, 3) := by decide +kernel
theorem dX4_know_27 : decode cX4_know 27 = .ok (.sipush 345, 3) := by decide +kernel
theorem dX4_know_30 : decode cX4_know 30 = .ok (.iload_n 1, 1) := by decide +kernel
theorem dX4_know_31 : decode cX4_know 31 = .ok (.iadd, 1) := by decide +kernel
theorem dX4_know_32 : decode cX4_know 32 = .ok (.iaload, 1) := by decide +kernel
theorem dX4_know_33 : decode cX4_know 33 = .ok (.iastore, 1) := by decide +kernel
theorem dX4_know_34 : decode cX4_know 34 = .ok (.iinc 1 1, 3) := by decide +kernel
theorem dX4_know_37 : decode cX4_know 37 = .ok (.goto (-26), 3) := by decide +kernel
theorem dX4_know_40 : decode cX4_know 40 = .ok (.aload_n 0, 1) := by decide +kernel
theorem dX4_know_41 : decode cX4_know 41 = .ok (.dup, 1) := by decide +kernel
theorem dX4_know_42 : decode cX4_know 42 = .ok (.getfield 52, 3) := by decide +kernel
theorem dX4_know_45 : decode cX4_know 45 = .ok (.iconst 1, 1) := by decide +kernel
theorem dX4_know_46 : decode cX4_know 46 = .ok (.isub, 1) := by decide +kernel
theorem dX4_know_47 : decode cX4_know 47 = .ok (.putfield 52, 3) := by decide +kernel
theorem dX4_know_50 : decode cX4_know 50 = .ok (.iconst 0, 1) := by decide +kernel
theorem dX4_know_51 : decode cX4_know 51 = .ok (.istore_n 1, 1) := by decide +kernel
theorem dX4_know_52 : decode cX4_know 52 = .ok (.iload_n 1, 1) := by decide +kernel
theorem dX4_know_53 : decode cX4_know 53 = .ok (.sipush 345, 3) := by decide +kernel
theorem dX4_know_56 : decode cX4_know 56 = .ok (.if_icmp .ge 30, 3) := by decide +kernel
theorem dX4_know_59 : decode cX4_know 59 = .ok (.aload_n 0, 1) := by decide +kernel
theorem dX4_know_60 : decode cX4_know 60 = .ok (.getfield 16, 3) := by decide +kernel
theorem dX4_know_63 : decode cX4_know 63 = .ok (.sipush 345, 3) := by decide +kernel
theorem dX4_know_66 : decode cX4_know 66 = .ok (.aload_n 0, 1) := by decide +kernel
theorem dX4_know_67 : decode cX4_know 67 = .ok (.getfield 52, 3) := by decide +kernel
theorem dX4_know_70 : decode cX4_know 70 = .ok (.imul, 1) := by decide +kernel
theorem dX4_know_71 : decode cX4_know 71 = .ok (.iload_n 1, 1) := by decide +kernel
theorem dX4_know_72 : decode cX4_know 72 = .ok (.iadd, 1) := by decide +kernel
theorem dX4_know_73 : decode cX4_know 73 = .ok (.aload_n 0, 1) := by decide +kernel
theorem dX4_know_74 : decode cX4_know 74 = .ok (.getfield 7, 3) := by decide +kernel
theorem dX4_know_77 : decode cX4_know 77 = .ok (.iload_n 1, 1) := by decide +kernel
theorem dX4_know_78 : decode cX4_know 78 = .ok (.iaload, 1) := by decide +kernel
theorem dX4_know_79 : decode cX4_know 79 = .ok (.iastore, 1) := by decide +kernel
theorem dX4_know_80 : decode cX4_know 80 = .ok (.iinc 1 1, 3) := by decide +kernel
theorem dX4_know_83 : decode cX4_know 83 = .ok (.goto (-31), 3) := by decide +kernel
theorem dX4_know_86 : decode cX4_know 86 = .ok (.aload_n 0, 1) := by decide +kernel
theorem dX4_know_87 : decode cX4_know 87 = .ok (.dup, 1) := by decide +kernel
theorem dX4_know_88 : decode cX4_know 88 = .ok (.getfield 52, 3) := by decide +kernel
theorem dX4_know_91 : decode cX4_know 91 = .ok (.iconst 1, 1) := by decide +kernel
theorem dX4_know_92 : decode cX4_know 92 = .ok (.iadd, 1) := by decide +kernel
theorem dX4_know_93 : decode cX4_know 93 = .ok (.putfield 52, 3) := by decide +kernel
theorem dX4_know_96 : decode cX4_know 96 = .ok (.return_, 1) := by decide +kernel
theorem dX4_warm_0 : decode cX4_warm 0 = .ok (.aload_n 0, 1) := by decide +kernel
theorem dX4_warm_1 : decode cX4_warm 1 = .ok (.getfield 7, 3) := by decide +kernel
theorem dX4_warm_4 : decode cX4_warm 4 = .ok (.sipush 195, 3) := by decide +kernel
theorem dX4_warm_7 : decode cX4_warm 7 = .ok (.iload_n 1, 1) := by decide +kernel
theorem dX4_warm_8 : decode cX4_warm 8 = .ok (.iadd, 1) := by decide +kernel
theorem dX4_warm_9 : decode cX4_warm 9 = .ok (.iaload, 1) := by decide +kernel
theorem dX4_warm_10 : decode cX4_warm 10 = .ok (.iload_n 2, 1) := by decide +kernel
theorem dX4_warm_11 : decode cX4_warm 11 = .ok (.iadd, 1) := by decide +kernel
theorem dX4_warm_12 : decode cX4_warm 12 = .ok (.istore_n 3, 1) := by decide +kernel
theorem dX4_warm_13 : decode cX4_warm 13 = .ok (.aload_n 0, 1) := by decide +kernel
theorem dX4_warm_14 : decode cX4_warm 14 = .ok (.getfield 7, 3) := by decide +kernel
theorem dX4_warm_17 : decode cX4_warm 17 = .ok (.sipush 195, 3) := by decide +kernel
theorem dX4_warm_20 : decode cX4_warm 20 = .ok (.iload_n 1, 1) := by decide +kernel
theorem dX4_warm_21 : decode cX4_warm 21 = .ok (.iadd, 1) := by decide +kernel
theorem dX4_warm_22 : decode cX4_warm 22 = .ok (.iload_n 3, 1) := by decide +kernel
theorem dX4_warm_23 : decode cX4_warm 23 = .ok (.sipush 999, 3) := by decide +kernel
theorem dX4_warm_26 : decode cX4_warm 26 = .ok (.if_icmp .le 9, 3) := by decide +kernel
theorem dX4_warm_29 : decode cX4_warm 29 = .ok (.sipush 999, 3) := by decide +kernel
theorem dX4_warm_32 : decode cX4_warm 32 = .ok (.goto 4, 3) := by decide +kernel
theorem dX4_warm_35 : decode cX4_warm 35 = .ok (.iload_n 3, 1) := by decide +kernel
theorem dX4_warm_36 : decode cX4_warm 36 = .ok (.iastore, 1) := by decide +kernel
theorem dX4_warm_37 : decode cX4_warm 37 = .ok (.return_, 1) := by decide +kernel
theorem dX4_storyOf_0 : decode cX4_storyOf 0 = .ok (.iconst 0, 1) := by decide +kernel
theorem dX4_storyOf_1 : decode cX4_storyOf 1 = .ok (.istore_n 2, 1) := by decide +kernel
theorem dX4_storyOf_2 : decode cX4_storyOf 2 = .ok (.iload_n 1, 1) := by decide +kernel
theorem dX4_storyOf_3 : decode cX4_storyOf 3 = .ok (.istore_n 3, 1) := by decide +kernel
theorem dX4_storyOf_4 : decode cX4_storyOf 4 = .ok (.iload_n 3, 1) := by decide +kernel
theorem dX4_storyOf_5 : decode cX4_storyOf 5 = .ok (.aload_n 0, 1) := by decide +kernel
theorem dX4_storyOf_6 : decode cX4_storyOf 6 = .ok (.getfield 7, 3) := by decide +kernel
theorem dX4_storyOf_9 : decode cX4_storyOf 9 = .ok (.bipush 9, 2) := by decide +kernel
theorem dX4_storyOf_11 : decode cX4_storyOf 11 = .ok (.iload_n 2, 1) := by decide +kernel
theorem dX4_storyOf_12 : decode cX4_storyOf 12 = .ok (.iadd, 1) := by decide +kernel
theorem dX4_storyOf_13 : decode cX4_storyOf 13 = .ok (.iaload, 1) := by decide +kernel
theorem dX4_storyOf_14 : decode cX4_storyOf 14 = .ok (.if_icmp .lt 21, 3) := by decide +kernel
theorem dX4_storyOf_17 : decode cX4_storyOf 17 = .ok (.iload_n 3, 1) := by decide +kernel
theorem dX4_storyOf_18 : decode cX4_storyOf 18 = .ok (.aload_n 0, 1) := by decide +kernel
theorem dX4_storyOf_19 : decode cX4_storyOf 19 = .ok (.getfield 7, 3) := by decide +kernel
theorem dX4_storyOf_22 : decode cX4_storyOf 22 = .ok (.bipush 9, 2) := by decide +kernel
theorem dX4_storyOf_24 : decode cX4_storyOf 24 = .ok (.iload_n 2, 1) := by decide +kernel
theorem dX4_storyOf_25 : decode cX4_storyOf 25 = .ok (.iadd, 1) := by decide +kernel
theorem dX4_storyOf_26 : decode cX4_storyOf 26 = .ok (.iaload, 1) := by decide +kernel
theorem dX4_storyOf_27 : decode cX4_storyOf 27 = .ok (.isub, 1) := by decide +kernel
theorem dX4_storyOf_28 : decode cX4_storyOf 28 = .ok (.istore_n 3, 1) := by decide +kernel
theorem dX4_storyOf_29 : decode cX4_storyOf 29 = .ok (.iinc 2 1, 3) := by decide +kernel
theorem dX4_storyOf_32 : decode cX4_storyOf 32 = .ok (.goto (-28), 3) := by decide +kernel
theorem dX4_storyOf_35 : decode cX4_storyOf 35 = .ok (.iload_n 2, 1) := by decide +kernel
theorem dX4_storyOf_36 : decode cX4_storyOf 36 = .ok (.ireturn, 1) := by decide +kernel
theorem dX4_split_0 : decode cX4_split 0 = .ok (.aload_n 0, 1) := by decide +kernel
theorem dX4_split_1 : decode cX4_split 1 = .ok (.getfield 7, 3) := by decide +kernel
theorem dX4_split_4 : decode cX4_split 4 = .ok (.iconst 3, 1) := by decide +kernel
theorem dX4_split_5 : decode cX4_split 5 = .ok (.iaload, 1) := by decide +kernel
theorem dX4_split_6 : decode cX4_split 6 = .ok (.istore_n 3, 1) := by decide +kernel
theorem dX4_split_7 : decode cX4_split 7 = .ok (.iload_n 3, 1) := by decide +kernel
theorem dX4_split_8 : decode cX4_split 8 = .ok (.iload_n 1, 1) := by decide +kernel
theorem dX4_split_9 : decode cX4_split 9 = .ok (.iconst 1, 1) := by decide +kernel
theorem dX4_split_10 : decode cX4_split 10 = .ok (.iadd, 1) := by decide +kernel
theorem dX4_split_11 : decode cX4_split 11 = .ok (.if_icmp .le 69, 3) := by decide +kernel
theorem dX4_split_14 : decode cX4_split 14 = .ok (.aload_n 0, 1) := by decide +kernel
theorem dX4_split_15 : decode cX4_split 15 = .ok (.getfield 7, 3) := by decide +kernel
theorem dX4_split_18 : decode cX4_split 18 = .ok (.bipush 9, 2) := by decide +kernel
theorem dX4_split_20 : decode cX4_split 20 = .ok (.iload_n 3, 1) := by decide +kernel
theorem dX4_split_21 : decode cX4_split 21 = .ok (.iadd, 1) := by decide +kernel
theorem dX4_split_22 : decode cX4_split 22 = .ok (.aload_n 0, 1) := by decide +kernel
theorem dX4_split_23 : decode cX4_split 23 = .ok (.getfield 7, 3) := by decide +kernel
theorem dX4_split_26 : decode cX4_split 26 = .ok (.bipush 9, 2) := by decide +kernel
theorem dX4_split_28 : decode cX4_split 28 = .ok (.iload_n 3, 1) := by decide +kernel
theorem dX4_split_29 : decode cX4_split 29 = .ok (.iadd, 1) := by decide +kernel
theorem dX4_split_30 : decode cX4_split 30 = .ok (.iconst 1, 1) := by decide +kernel
theorem dX4_split_31 : decode cX4_split 31 = .ok (.isub, 1) := by decide +kernel
theorem dX4_split_32 : decode cX4_split 32 = .ok (.iaload, 1) := by decide +kernel
theorem dX4_split_33 : decode cX4_split 33 = .ok (.iastore, 1) := by decide +kernel
theorem dX4_split_34 : decode cX4_split 34 = .ok (.aload_n 0, 1) := by decide +kernel
theorem dX4_split_35 : decode cX4_split 35 = .ok (.getfield 7, 3) := by decide +kernel
theorem dX4_split_38 : decode cX4_split 38 = .ok (.bipush 21, 2) := by decide +kernel
theorem dX4_split_40 : decode cX4_split 40 = .ok (.iload_n 3, 1) := by decide +kernel
theorem dX4_split_41 : decode cX4_split 41 = .ok (.iadd, 1) := by decide +kernel
theorem dX4_split_42 : decode cX4_split 42 = .ok (.aload_n 0, 1) := by decide +kernel
theorem dX4_split_43 : decode cX4_split 43 = .ok (.getfield 7, 3) := by decide +kernel
theorem dX4_split_46 : decode cX4_split 46 = .ok (.bipush 21, 2) := by decide +kernel
theorem dX4_split_48 : decode cX4_split 48 = .ok (.iload_n 3, 1) := by decide +kernel
theorem dX4_split_49 : decode cX4_split 49 = .ok (.iadd, 1) := by decide +kernel
theorem dX4_split_50 : decode cX4_split 50 = .ok (.iconst 1, 1) := by decide +kernel
theorem dX4_split_51 : decode cX4_split 51 = .ok (.isub, 1) := by decide +kernel
theorem dX4_split_52 : decode cX4_split 52 = .ok (.iaload, 1) := by decide +kernel
theorem dX4_split_53 : decode cX4_split 53 = .ok (.iastore, 1) := by decide +kernel
theorem dX4_split_54 : decode cX4_split 54 = .ok (.aload_n 0, 1) := by decide +kernel
theorem dX4_split_55 : decode cX4_split 55 = .ok (.getfield 7, 3) := by decide +kernel
theorem dX4_split_58 : decode cX4_split 58 = .ok (.bipush 33, 2) := by decide +kernel
theorem dX4_split_60 : decode cX4_split 60 = .ok (.iload_n 3, 1) := by decide +kernel
theorem dX4_split_61 : decode cX4_split 61 = .ok (.iadd, 1) := by decide +kernel
theorem dX4_split_62 : decode cX4_split 62 = .ok (.aload_n 0, 1) := by decide +kernel
theorem dX4_split_63 : decode cX4_split 63 = .ok (.getfield 7, 3) := by decide +kernel
theorem dX4_split_66 : decode cX4_split 66 = .ok (.bipush 33, 2) := by decide +kernel
theorem dX4_split_68 : decode cX4_split 68 = .ok (.iload_n 3, 1) := by decide +kernel
theorem dX4_split_69 : decode cX4_split 69 = .ok (.iadd, 1) := by decide +kernel
theorem dX4_split_70 : decode cX4_split 70 = .ok (.iconst 1, 1) := by decide +kernel
theorem dX4_split_71 : decode cX4_split 71 = .ok (.isub, 1) := by decide +kernel
theorem dX4_split_72 : decode cX4_split 72 = .ok (.iaload, 1) := by decide +kernel
theorem dX4_split_73 : decode cX4_split 73 = .ok (.iastore, 1) := by decide +kernel
theorem dX4_split_74 : decode cX4_split 74 = .ok (.iinc 3 (-1), 3) := by decide +kernel
theorem dX4_split_77 : decode cX4_split 77 = .ok (.goto (-70), 3) := by decide +kernel
theorem dX4_split_80 : decode cX4_split 80 = .ok (.aload_n 0, 1) := by decide +kernel
theorem dX4_split_81 : decode cX4_split 81 = .ok (.getfield 7, 3) := by decide +kernel
theorem dX4_split_84 : decode cX4_split 84 = .ok (.bipush 9, 2) := by decide +kernel
theorem dX4_split_86 : decode cX4_split 86 = .ok (.iload_n 1, 1) := by decide +kernel
theorem dX4_split_87 : decode cX4_split 87 = .ok (.iadd, 1) := by decide +kernel
theorem dX4_split_88 : decode cX4_split 88 = .ok (.iconst 1, 1) := by decide +kernel
theorem dX4_split_89 : decode cX4_split 89 = .ok (.iadd, 1) := by decide +kernel
theorem dX4_split_90 : decode cX4_split 90 = .ok (.aload_n 0, 1) := by decide +kernel
theorem dX4_split_91 : decode cX4_split 91 = .ok (.getfield 7, 3) := by decide +kernel
theorem dX4_split_94 : decode cX4_split 94 = .ok (.bipush 9, 2) := by decide +kernel
theorem dX4_split_96 : decode cX4_split 96 = .ok (.iload_n 1, 1) := by decide +kernel
theorem dX4_split_97 : decode cX4_split 97 = .ok (.iadd, 1) := by decide +kernel
theorem dX4_split_98 : decode cX4_split 98 = .ok (.iaload, 1) := by decide +kernel
theorem dX4_split_99 : decode cX4_split 99 = .ok (.iload_n 2, 1) := by decide +kernel
theorem dX4_split_100 : decode cX4_split 100 = .ok (.isub, 1) := by decide +kernel
theorem dX4_split_101 : decode cX4_split 101 = .ok (.iastore, 1) := by decide +kernel
theorem dX4_split_102 : decode cX4_split 102 = .ok (.aload_n 0, 1) := by decide +kernel
theorem dX4_split_103 : decode cX4_split 103 = .ok (.getfield 7, 3) := by decide +kernel
theorem dX4_split_106 : decode cX4_split 106 = .ok (.bipush 9, 2) := by decide +kernel
theorem dX4_split_108 : decode cX4_split 108 = .ok (.iload_n 1, 1) := by decide +kernel
theorem dX4_split_109 : decode cX4_split 109 = .ok (.iadd, 1) := by decide +kernel
theorem dX4_split_110 : decode cX4_split 110 = .ok (.iload_n 2, 1) := by decide +kernel
theorem dX4_split_111 : decode cX4_split 111 = .ok (.iastore, 1) := by decide +kernel
theorem dX4_split_112 : decode cX4_split 112 = .ok (.aload_n 0, 1) := by decide +kernel
theorem dX4_split_113 : decode cX4_split 113 = .ok (.getfield 7, 3) := by decide +kernel
theorem dX4_split_116 : decode cX4_split 116 = .ok (.bipush 21, 2) := by decide +kernel
theorem dX4_split_118 : decode cX4_split 118 = .ok (.iload_n 1, 1) := by decide +kernel
theorem dX4_split_119 : decode cX4_split 119 = .ok (.iadd, 1) := by decide +kernel
theorem dX4_split_120 : decode cX4_split 120 = .ok (.iconst 1, 1) := by decide +kernel
theorem dX4_split_121 : decode cX4_split 121 = .ok (.iadd, 1) := by decide +kernel
theorem dX4_split_122 : decode cX4_split 122 = .ok (.aload_n 0, 1) := by decide +kernel
theorem dX4_split_123 : decode cX4_split 123 = .ok (.getfield 7, 3) := by decide +kernel
theorem dX4_split_126 : decode cX4_split 126 = .ok (.bipush 21, 2) := by decide +kernel
theorem dX4_split_128 : decode cX4_split 128 = .ok (.iload_n 1, 1) := by decide +kernel
theorem dX4_split_129 : decode cX4_split 129 = .ok (.iadd, 1) := by decide +kernel
theorem dX4_split_130 : decode cX4_split 130 = .ok (.iaload, 1) := by decide +kernel
theorem dX4_split_131 : decode cX4_split 131 = .ok (.iastore, 1) := by decide +kernel
theorem dX4_split_132 : decode cX4_split 132 = .ok (.aload_n 0, 1) := by decide +kernel
theorem dX4_split_133 : decode cX4_split 133 = .ok (.getfield 7, 3) := by decide +kernel
theorem dX4_split_136 : decode cX4_split 136 = .ok (.bipush 33, 2) := by decide +kernel
theorem dX4_split_138 : decode cX4_split 138 = .ok (.iload_n 1, 1) := by decide +kernel
theorem dX4_split_139 : decode cX4_split 139 = .ok (.iadd, 1) := by decide +kernel
theorem dX4_split_140 : decode cX4_split 140 = .ok (.iconst 1, 1) := by decide +kernel
theorem dX4_split_141 : decode cX4_split 141 = .ok (.iadd, 1) := by decide +kernel
theorem dX4_split_142 : decode cX4_split 142 = .ok (.aload_n 0, 1) := by decide +kernel
theorem dX4_split_143 : decode cX4_split 143 = .ok (.getfield 7, 3) := by decide +kernel
theorem dX4_split_146 : decode cX4_split 146 = .ok (.bipush 33, 2) := by decide +kernel
theorem dX4_split_148 : decode cX4_split 148 = .ok (.iload_n 1, 1) := by decide +kernel
theorem dX4_split_149 : decode cX4_split 149 = .ok (.iadd, 1) := by decide +kernel
theorem dX4_split_150 : decode cX4_split 150 = .ok (.iaload, 1) := by decide +kernel
theorem dX4_split_151 : decode cX4_split 151 = .ok (.iconst 1, 1) := by decide +kernel
theorem dX4_split_152 : decode cX4_split 152 = .ok (.iadd, 1) := by decide +kernel
theorem dX4_split_153 : decode cX4_split 153 = .ok (.iastore, 1) := by decide +kernel
theorem dX4_split_154 : decode cX4_split 154 = .ok (.aload_n 0, 1) := by decide +kernel
theorem dX4_split_155 : decode cX4_split 155 = .ok (.getfield 7, 3) := by decide +kernel
theorem dX4_split_158 : decode cX4_split 158 = .ok (.iconst 3, 1) := by decide +kernel
theorem dX4_split_159 : decode cX4_split 159 = .ok (.dup2, 1) := by decide +kernel
theorem dX4_split_160 : decode cX4_split 160 = .ok (.iaload, 1) := by decide +kernel
theorem dX4_split_161 : decode cX4_split 161 = .ok (.iconst 1, 1) := by decide +kernel
theorem dX4_split_162 : decode cX4_split 162 = .ok (.iadd, 1) := by decide +kernel
theorem dX4_split_163 : decode cX4_split 163 = .ok (.iastore, 1) := by decide +kernel
theorem dX4_split_164 : decode cX4_split 164 = .ok (.return_, 1) := by decide +kernel
theorem dX4_reactOne_0 : decode cX4_reactOne 0 = .ok (.aload_n 0, 1) := by decide +kernel
theorem dX4_reactOne_1 : decode cX4_reactOne 1 = .ok (.iload_n 1, 1) := by decide +kernel
theorem dX4_reactOne_2 : decode cX4_reactOne 2 = .ok (.invokevirtual 56, 3) := by decide +kernel
theorem dX4_reactOne_5 : decode cX4_reactOne 5 = .ok (.istore_n 2, 1) := by decide +kernel
theorem dX4_reactOne_6 : decode cX4_reactOne 6 = .ok (.iload_n 1, 1) := by decide +kernel
theorem dX4_reactOne_7 : decode cX4_reactOne 7 = .ok (.aload_n 0, 1) := by decide +kernel
theorem dX4_reactOne_8 : decode cX4_reactOne 8 = .ok (.iload_n 2, 1) := by decide +kernel
theorem dX4_reactOne_9 : decode cX4_reactOne 9 = .ok (.invokevirtual 60, 3) := by decide +kernel
theorem dX4_reactOne_12 : decode cX4_reactOne 12 = .ok (.isub, 1) := by decide +kernel
theorem dX4_reactOne_13 : decode cX4_reactOne 13 = .ok (.istore_n 3, 1) := by decide +kernel
theorem dX4_reactOne_14 : decode cX4_reactOne 14 = .ok (.iload_n 3, 1) := by decide +kernel
theorem dX4_reactOne_15 : decode cX4_reactOne 15 = .ok (.aload_n 0, 1) := by decide +kernel
theorem dX4_reactOne_16 : decode cX4_reactOne 16 = .ok (.getfield 7, 3) := by decide +kernel
theorem dX4_reactOne_19 : decode cX4_reactOne 19 = .ok (.bipush 9, 2) := by decide +kernel
theorem dX4_reactOne_21 : decode cX4_reactOne 21 = .ok (.iload_n 2, 1) := by decide +kernel
theorem dX4_reactOne_22 : decode cX4_reactOne 22 = .ok (.iadd, 1) := by decide +kernel
theorem dX4_reactOne_23 : decode cX4_reactOne 23 = .ok (.iaload, 1) := by decide +kernel
theorem dX4_reactOne_24 : decode cX4_reactOne 24 = .ok (.iconst 1, 1) := by decide +kernel
theorem dX4_reactOne_25 : decode cX4_reactOne 25 = .ok (.isub, 1) := by decide +kernel
theorem dX4_reactOne_26 : decode cX4_reactOne 26 = .ok (.if_icmp .ne 7, 3) := by decide +kernel
theorem dX4_reactOne_29 : decode cX4_reactOne 29 = .ok (.iconst 1, 1) := by decide +kernel
theorem dX4_reactOne_30 : decode cX4_reactOne 30 = .ok (.goto 4, 3) := by decide +kernel
theorem dX4_reactOne_33 : decode cX4_reactOne 33 = .ok (.iconst 0, 1) := by decide +kernel
theorem dX4_reactOne_34 : decode cX4_reactOne 34 = .ok (.istore 4, 2) := by decide +kernel
theorem dX4_reactOne_36 : decode cX4_reactOne 36 = .ok (.aload_n 0, 1) := by decide +kernel
theorem dX4_reactOne_37 : decode cX4_reactOne 37 = .ok (.getfield 7, 3) := by decide +kernel
theorem dX4_reactOne_40 : decode cX4_reactOne 40 = .ok (.sipush 195, 3) := by decide +kernel
theorem dX4_reactOne_43 : decode cX4_reactOne 43 = .ok (.iload_n 1, 1) := by decide +kernel
theorem dX4_reactOne_44 : decode cX4_reactOne 44 = .ok (.iadd, 1) := by decide +kernel
theorem dX4_reactOne_45 : decode cX4_reactOne 45 = .ok (.iconst 0, 1) := by decide +kernel
theorem dX4_reactOne_46 : decode cX4_reactOne 46 = .ok (.iastore, 1) := by decide +kernel
theorem dX4_reactOne_47 : decode cX4_reactOne 47 = .ok (.iload_n 3, 1) := by decide +kernel
theorem dX4_reactOne_48 : decode cX4_reactOne 48 = .ok (.ifCond .ne 17, 3) := by decide +kernel
theorem dX4_reactOne_51 : decode cX4_reactOne 51 = .ok (.aload_n 0, 1) := by decide +kernel
theorem dX4_reactOne_52 : decode cX4_reactOne 52 = .ok (.getfield 7, 3) := by decide +kernel
theorem dX4_reactOne_55 : decode cX4_reactOne 55 = .ok (.bipush 7, 2) := by decide +kernel
theorem dX4_reactOne_57 : decode cX4_reactOne 57 = .ok (.dup2, 1) := by decide +kernel
theorem dX4_reactOne_58 : decode cX4_reactOne 58 = .ok (.iaload, 1) := by decide +kernel
theorem dX4_reactOne_59 : decode cX4_reactOne 59 = .ok (.iconst 1, 1) := by decide +kernel
theorem dX4_reactOne_60 : decode cX4_reactOne 60 = .ok (.iadd, 1) := by decide +kernel
theorem dX4_reactOne_61 : decode cX4_reactOne 61 = .ok (.iastore, 1) := by decide +kernel
theorem dX4_reactOne_62 : decode cX4_reactOne 62 = .ok (.goto 45, 3) := by decide +kernel
theorem dX4_reactOne_65 : decode cX4_reactOne 65 = .ok (.aload_n 0, 1) := by decide +kernel
theorem dX4_reactOne_66 : decode cX4_reactOne 66 = .ok (.getfield 7, 3) := by decide +kernel
theorem dX4_reactOne_69 : decode cX4_reactOne 69 = .ok (.iconst 3, 1) := by decide +kernel
theorem dX4_reactOne_70 : decode cX4_reactOne 70 = .ok (.iaload, 1) := by decide +kernel
theorem dX4_reactOne_71 : decode cX4_reactOne 71 = .ok (.bipush 12, 2) := by decide +kernel
theorem dX4_reactOne_73 : decode cX4_reactOne 73 = .ok (.if_icmp .ge 23, 3) := by decide +kernel
theorem dX4_reactOne_76 : decode cX4_reactOne 76 = .ok (.aload_n 0, 1) := by decide +kernel
theorem dX4_reactOne_77 : decode cX4_reactOne 77 = .ok (.getfield 7, 3) := by decide +kernel
theorem dX4_reactOne_80 : decode cX4_reactOne 80 = .ok (.bipush 6, 2) := by decide +kernel
theorem dX4_reactOne_82 : decode cX4_reactOne 82 = .ok (.dup2, 1) := by decide +kernel
theorem dX4_reactOne_83 : decode cX4_reactOne 83 = .ok (.iaload, 1) := by decide +kernel
theorem dX4_reactOne_84 : decode cX4_reactOne 84 = .ok (.iconst 1, 1) := by decide +kernel
theorem dX4_reactOne_85 : decode cX4_reactOne 85 = .ok (.iadd, 1) := by decide +kernel
theorem dX4_reactOne_86 : decode cX4_reactOne 86 = .ok (.iastore, 1) := by decide +kernel
theorem dX4_reactOne_87 : decode cX4_reactOne 87 = .ok (.aload_n 0, 1) := by decide +kernel
theorem dX4_reactOne_88 : decode cX4_reactOne 88 = .ok (.iload_n 2, 1) := by decide +kernel
theorem dX4_reactOne_89 : decode cX4_reactOne 89 = .ok (.iload_n 3, 1) := by decide +kernel
theorem dX4_reactOne_90 : decode cX4_reactOne 90 = .ok (.invokevirtual 63, 3) := by decide +kernel
theorem dX4_reactOne_93 : decode cX4_reactOne 93 = .ok (.goto 14, 3) := by decide +kernel
theorem dX4_reactOne_96 : decode cX4_reactOne 96 = .ok (.aload_n 0, 1) := by decide +kernel
theorem dX4_reactOne_97 : decode cX4_reactOne 97 = .ok (.getfield 7, 3) := by decide +kernel
theorem dX4_reactOne_100 : decode cX4_reactOne 100 = .ok (.bipush 8, 2) := by decide +kernel
theorem dX4_reactOne_102 : decode cX4_reactOne 102 = .ok (.dup2, 1) := by decide +kernel
theorem dX4_reactOne_103 : decode cX4_reactOne 103 = .ok (.iaload, 1) := by decide +kernel
theorem dX4_reactOne_104 : decode cX4_reactOne 104 = .ok (.iconst 1, 1) := by decide +kernel
theorem dX4_reactOne_105 : decode cX4_reactOne 105 = .ok (.iadd, 1) := by decide +kernel
theorem dX4_reactOne_106 : decode cX4_reactOne 106 = .ok (.iastore, 1) := by decide +kernel
theorem dX4_reactOne_107 : decode cX4_reactOne 107 = .ok (.iload_n 3, 1) := by decide +kernel
theorem dX4_reactOne_108 : decode cX4_reactOne 108 = .ok (.ifCond .le 16, 3) := by decide +kernel
theorem dX4_reactOne_111 : decode cX4_reactOne 111 = .ok (.aload_n 0, 1) := by decide +kernel
theorem dX4_reactOne_112 : decode cX4_reactOne 112 = .ok (.iload_n 1, 1) := by decide +kernel
theorem dX4_reactOne_113 : decode cX4_reactOne 113 = .ok (.iconst 1, 1) := by decide +kernel
theorem dX4_reactOne_114 : decode cX4_reactOne 114 = .ok (.isub, 1) := by decide +kernel
theorem dX4_reactOne_115 : decode cX4_reactOne 115 = .ok (.aload_n 0, 1) := by decide +kernel
theorem dX4_reactOne_116 : decode cX4_reactOne 116 = .ok (.getfield 7, 3) := by decide +kernel
theorem dX4_reactOne_119 : decode cX4_reactOne 119 = .ok (.iconst 1, 1) := by decide +kernel
theorem dX4_reactOne_120 : decode cX4_reactOne 120 = .ok (.iaload, 1) := by decide +kernel
theorem dX4_reactOne_121 : decode cX4_reactOne 121 = .ok (.invokevirtual 67, 3) := by decide +kernel
theorem dX4_reactOne_124 : decode cX4_reactOne 124 = .ok (.iload 4, 2) := by decide +kernel
theorem dX4_reactOne_126 : decode cX4_reactOne 126 = .ok (.ifCond .ne 16, 3) := by decide +kernel
theorem dX4_reactOne_129 : decode cX4_reactOne 129 = .ok (.aload_n 0, 1) := by decide +kernel
theorem dX4_reactOne_130 : decode cX4_reactOne 130 = .ok (.iload_n 1, 1) := by decide +kernel
theorem dX4_reactOne_131 : decode cX4_reactOne 131 = .ok (.iconst 1, 1) := by decide +kernel
theorem dX4_reactOne_132 : decode cX4_reactOne 132 = .ok (.iadd, 1) := by decide +kernel
theorem dX4_reactOne_133 : decode cX4_reactOne 133 = .ok (.aload_n 0, 1) := by decide +kernel
theorem dX4_reactOne_134 : decode cX4_reactOne 134 = .ok (.getfield 7, 3) := by decide +kernel
theorem dX4_reactOne_137 : decode cX4_reactOne 137 = .ok (.iconst 1, 1) := by decide +kernel
theorem dX4_reactOne_138 : decode cX4_reactOne 138 = .ok (.iaload, 1) := by decide +kernel
theorem dX4_reactOne_139 : decode cX4_reactOne 139 = .ok (.invokevirtual 67, 3) := by decide +kernel
theorem dX4_reactOne_142 : decode cX4_reactOne 142 = .ok (.return_, 1) := by decide +kernel
theorem dX4_react_0 : decode cX4_react 0 = .ok (.iconst 0, 1) := by decide +kernel
theorem dX4_react_1 : decode cX4_react 1 = .ok (.istore_n 1, 1) := by decide +kernel
theorem dX4_react_2 : decode cX4_react 2 = .ok (.iconst 0, 1) := by decide +kernel
theorem dX4_react_3 : decode cX4_react 3 = .ok (.istore_n 2, 1) := by decide +kernel
theorem dX4_react_4 : decode cX4_react 4 = .ok (.iload_n 2, 1) := by decide +kernel
theorem dX4_react_5 : decode cX4_react 5 = .ok (.aload_n 0, 1) := by decide +kernel
theorem dX4_react_6 : decode cX4_react 6 = .ok (.getfield 7, 3) := by decide +kernel
theorem dX4_react_9 : decode cX4_react 9 = .ok (.iconst 4, 1) := by decide +kernel
theorem dX4_react_10 : decode cX4_react 10 = .ok (.iaload, 1) := by decide +kernel
theorem dX4_react_11 : decode cX4_react 11 = .ok (.if_icmp .ge 41, 3) := by decide +kernel
theorem dX4_react_14 : decode cX4_react 14 = .ok (.aload_n 0, 1) := by decide +kernel
theorem dX4_react_15 : decode cX4_react 15 = .ok (.getfield 7, 3) := by decide +kernel
theorem dX4_react_18 : decode cX4_react 18 = .ok (.sipush 195, 3) := by decide +kernel
theorem dX4_react_21 : decode cX4_react 21 = .ok (.iload_n 2, 1) := by decide +kernel
theorem dX4_react_22 : decode cX4_react 22 = .ok (.iadd, 1) := by decide +kernel
theorem dX4_react_23 : decode cX4_react 23 = .ok (.iaload, 1) := by decide +kernel
theorem dX4_react_24 : decode cX4_react 24 = .ok (.aload_n 0, 1) := by decide +kernel
theorem dX4_react_25 : decode cX4_react 25 = .ok (.getfield 7, 3) := by decide +kernel
theorem dX4_react_28 : decode cX4_react 28 = .ok (.iconst 0, 1) := by decide +kernel
theorem dX4_react_29 : decode cX4_react 29 = .ok (.iaload, 1) := by decide +kernel
theorem dX4_react_30 : decode cX4_react 30 = .ok (.if_icmp .lt 16, 3) := by decide +kernel
theorem dX4_react_33 : decode cX4_react 33 = .ok (.aload_n 0, 1) := by decide +kernel
theorem dX4_react_34 : decode cX4_react 34 = .ok (.iload_n 2, 1) := by decide +kernel
theorem dX4_react_35 : decode cX4_react 35 = .ok (.invokevirtual 70, 3) := by decide +kernel
theorem dX4_react_38 : decode cX4_react 38 = .ok (.iinc 1 1, 3) := by decide +kernel
theorem dX4_react_41 : decode cX4_react 41 = .ok (.iconst 0, 1) := by decide +kernel
theorem dX4_react_42 : decode cX4_react 42 = .ok (.istore_n 2, 1) := by decide +kernel
theorem dX4_react_43 : decode cX4_react 43 = .ok (.goto (-39), 3) := by decide +kernel
theorem dX4_react_46 : decode cX4_react 46 = .ok (.iinc 2 1, 3) := by decide +kernel
theorem dX4_react_49 : decode cX4_react 49 = .ok (.goto (-45), 3) := by decide +kernel
theorem dX4_react_52 : decode cX4_react 52 = .ok (.iload_n 1, 1) := by decide +kernel
theorem dX4_react_53 : decode cX4_react 53 = .ok (.ireturn, 1) := by decide +kernel
theorem ggX4_isStory_X4_in : GoodIn wsX4_isStory wsX4_in := goodIn_r _ [5] rfl (by decide +kernel)
theorem gX4_isStory_X4_in : GoodIn wsX4_isStory (va_wsS RX4 44 yX4_in wsX4_in) := goodIn_app (goodIn_r _ [2, 3, 4] rfl (by decide +kernel)) ggX4_isStory_X4_in
theorem ggX4_isWord_X4_isStory : GoodIn wsX4_isWord wsX4_isStory := goodIn_r _ [6, 1, 7, 8, 5, 9, 10, 11, 12, 13, 14, 15, 16, 17, 18, 19, 20, 21, 22, 23, 24, 25, 26, 27, 28, 29, 30] rfl (by decide +kernel)
theorem gX4_isWord_X4_isStory : GoodIn wsX4_isWord (wsV RX4 48 RX4 yX4_isStory wsX4_isStory) := goodIn_app (goodIn_r _ [2, 3, 4, 5] rfl (by decide +kernel)) ggX4_isWord_X4_isStory
theorem ggX4_isWord_X4_in : GoodIn wsX4_isWord wsX4_in := goodIn_r _ [9] rfl (by decide +kernel)
theorem gX4_isWord_X4_in : GoodIn wsX4_isWord (va_wsS RX4 44 yX4_in wsX4_in) := goodIn_app (goodIn_r _ [7, 8, 5] rfl (by decide +kernel)) ggX4_isWord_X4_in
theorem ggX4_reactOne_X4_storyOf : GoodIn wsX4_reactOne wsX4_storyOf := goodIn_r _ [6, 1, 19, 20, 21, 22, 23, 24, 25, 26, 27, 28, 29, 30, 31, 32, 33, 34, 35, 36, 37, 38, 39] rfl (by decide +kernel)
theorem gX4_reactOne_X4_storyOf : GoodIn wsX4_reactOne (wsV RX4 56 RX4 yX4_storyOf wsX4_storyOf) := goodIn_app (goodIn_r _ [2, 3, 4, 5] rfl (by decide +kernel)) ggX4_reactOne_X4_storyOf
theorem ggX4_reactOne_X4_first : GoodIn wsX4_reactOne wsX4_first := goodIn_r _ [10, 1, 19, 20, 21, 22, 23, 24, 25, 26, 27, 28, 29, 30, 31, 32, 33, 34, 35, 36, 37, 38, 39] rfl (by decide +kernel)
theorem gX4_reactOne_X4_first : GoodIn wsX4_reactOne (wsV RX4 60 RX4 yX4_first wsX4_first) := goodIn_app (goodIn_r _ [7, 8, 9, 5] rfl (by decide +kernel)) ggX4_reactOne_X4_first
theorem ggX4_reactOne_X4_split : GoodIn wsX4_reactOne wsX4_split := goodIn_r _ [14, 1, 19, 20, 21, 22, 23, 24, 25, 26, 27, 28, 29, 30, 31, 32, 33, 34, 35, 36, 37, 38, 39] rfl (by decide +kernel)
theorem gX4_reactOne_X4_split : GoodIn wsX4_reactOne (wsV RX4 63 RX4 yX4_split wsX4_split) := goodIn_app (goodIn_r _ [11, 12, 13, 5] rfl (by decide +kernel)) ggX4_reactOne_X4_split
theorem ggX4_reactOne_X4_warm : GoodIn wsX4_reactOne wsX4_warm := goodIn_r _ [18, 1, 19, 20, 21, 22, 23, 24, 25, 26, 27, 28, 29, 30, 31, 32, 33, 34, 35, 36, 37, 38, 39] rfl (by decide +kernel)
theorem gX4_reactOne_X4_warm : GoodIn wsX4_reactOne (wsV RX4 67 RX4 yX4_warm wsX4_warm) := goodIn_app (goodIn_r _ [15, 16, 17, 5] rfl (by decide +kernel)) ggX4_reactOne_X4_warm
theorem ggX4_react_X4_reactOne : GoodIn wsX4_react wsX4_reactOne := goodIn_r _ [6, 1, 7, 8, 9, 5, 10, 11, 12, 13, 14, 15, 16, 17, 18, 19, 20, 21, 22, 23, 24, 25, 26, 27, 28, 29, 30, 31, 32, 33, 34, 35, 36, 37, 38, 39, 40, 41, 42, 43] rfl (by decide +kernel)
theorem gX4_react_X4_reactOne : GoodIn wsX4_react (wsV RX4 70 RX4 yX4_reactOne wsX4_reactOne) := goodIn_app (goodIn_r _ [2, 3, 4, 5] rfl (by decide +kernel)) ggX4_react_X4_reactOne
end
section
def f_X4_in (Fu : Nat) (p0 : Int32) (p1 : Int32) (p2 : Int32) : Option Int32 :=
  nm (if p0 < p1 then (nI 0) else (if p2 < p0 then (nI 0) else nI 1)) (fun v3 =>
  gd (bz v3) (some (v3)))
set_option maxHeartbeats 4000000 in
set_option maxRecDepth 100000 in
theorem c_X4_in (l : Launch) (D : va_G) (y : Nat → ClassId)  (sz : Nat) (Fu : Nat) (p0 : Int32) (p1 : Int32) (p2 : Int32) (ro : Int32) (hf : f_X4_in Fu p0 p1 p2 = some (ro)) : MI l yX4_in wsX4_in 0 0 [.int p0, .int p1, .int p2] D y [] sz ro [] := by
  refine M_z (cc := cX4_in) (maxL := 3) (own := RX4) (by decide) rfl rfl (Nat.le_of_ble_eq_true rfl) ?_
  intro p e s m args below meth c A Q F hK hA H locs hG hret ls hl
  have hx := F.1
  have hb := F.2.1
  have hl : lv_has ls 3 [(0, .int p0), (1, .int p1), (2, .int p2)] := hl
  unfold f_X4_in at hf
  refine lv_iload_n hx hb dX4_in_0 rfl (lv_at hl 0 rfl) ?_
  refine lv_iload_n hx hb dX4_in_1 rfl (lv_at hl 1 rfl) ?_
  obtain ⟨v3, ev3, hf⟩ := nm_o hf
  have hJ : ∀ (ls : Array Slot), lv_has ls 3 [] → W p l e (RM 0 0) s m args below meth c H locs 0 0 Q (F0 m 15 ls [.int v3]) := by
    intro ls hl
    obtain ⟨gz, hf⟩ := gd_e hf
    have hf := so_e hf
    have e0 : v3 = ro := hf
    exact hret _ _ _ _ _ (bz_n gz) e0 hG dX4_in_15
  refine lv_icmp_lt (tgt := 14) hx hb dX4_in_2 (by decide) (fun c1 => ?_) (fun c1 => ?_)
  · refine lv_iconst (v := nI 0) hx hb dX4_in_14 rfl ?_
    have qv3 := (ev3.trans (if_pos c1))
    subst qv3
    exact hJ ls (lv_sub hl [] rfl)
  · refine lv_iload_n hx hb dX4_in_5 rfl (lv_at hl 0 rfl) ?_
    refine lv_iload_n hx hb dX4_in_6 rfl (lv_at hl 2 rfl) ?_
    refine lv_icmp_gt (tgt := 14) hx hb dX4_in_7 (by decide) (fun c2 => ?_) (fun c2 => ?_)
    · refine lv_iconst (v := nI 0) hx hb dX4_in_14 rfl ?_
      have qv3 := ((ev3.trans (if_neg c1)).trans (if_pos c2))
      subst qv3
      exact hJ ls (lv_sub hl [] rfl)
    · refine lv_iconst (v := nI 1) hx hb dX4_in_10 rfl ?_
      refine lv_goto (tgt := 15) hx hb dX4_in_11 (by decide) ?_
      have qv3 := ((ev3.trans (if_neg c1)).trans (if_neg c2))
      subst qv3
      exact hJ ls (lv_sub hl [] rfl)
def f_X4_isStory (Fu : Nat) (q_s : Ar) (p1 : Int32) : Option Int32 :=
  bd1 (f_X4_in Fu p1 (nI 0) ((q_s 3) - (nI 1))) (fun r1 =>
  gd (bz r1) (some (r1)))
set_option maxHeartbeats 4000000 in
set_option maxRecDepth 100000 in
theorem c_X4_isStory (l : Launch) (D : va_G) (y : Nat → ClassId) (a : Nat → Nat) (sz : Nat) (Fu : Nat) (q_s : Ar) (q_aside : Ar) (q_before : Ar) (q_known : Int32) (q_slots : Ar) (q_isSaved : Ar) (q_pad : Ar) (q_length : Int32) (q_letters : Ar) (q_heats : Ar) (q_reactions : Int32) (q_newSplits : Int32) (q_storiesThen : Int32) (q_heatThen : Int32) (q_place : Int32) (q_isWrong : Int32) (q_toldLetter : Ar) (q_toldHeat : Ar) (q_toldStory : Ar) (q_toldWords : Int32) (q_toldStories : Int32) (p1 : Int32) (ro : Int32) (hf : f_X4_isStory Fu q_s p1 = some (ro)) : MI l yX4_isStory wsX4_isStory 1 22 [.ref (a 0), .int p1] D y (w_X4 y a q_s q_aside q_before q_known q_slots q_isSaved q_pad q_length q_letters q_heats q_reactions q_newSplits q_storiesThen q_heatThen q_place q_isWrong q_toldLetter q_toldHeat q_toldStory q_toldWords q_toldStories) sz ro (w_X4 y a q_s q_aside q_before q_known q_slots q_isSaved q_pad q_length q_letters q_heats q_reactions q_newSplits q_storiesThen q_heatThen q_place q_isWrong q_toldLetter q_toldHeat q_toldStory q_toldWords q_toldStories) := by
  refine M_z (cc := cX4_isStory) (maxL := 2) (own := RX4) (by decide) rfl rfl (Nat.le_of_ble_eq_true rfl) ?_
  intro p e s m args below meth c A Q F hK hA H locs hG hret ls hl
  have hx := F.1
  have hb := F.2.1
  have hl : lv_has ls 2 [(0, .ref (a 0)), (1, .int p1)] := hl
  have k0 := F.2.2.2.2 (.fieldLink RX4 7 "HeatedStoriesModel" "s" "[I") (List.mem_of_getElem? (i := 1) rfl)
  have k1 : ∀ w ∈ wsX40, w ∈ wsX4_isStory := (fun w h => List.mem_cons_of_mem _ (List.mem_append_right _ (h)))
  unfold f_X4_isStory at hf
  refine lv_iload_n hx hb dX4_isStory_0 rfl (lv_at hl 1 rfl) ?_
  refine lv_iconst (v := nI 0) hx hb dX4_isStory_1 rfl ?_
  refine lv_aload_n hx hb dX4_isStory_2 rfl (lv_at hl 0 rfl) ?_
  refine w_get4 F hK hG k1 0 rfl 0 (by decide) k0 rfl dX4_isStory_3 ?_
  refine lv_iconst (v := nI 3) hx hb dX4_isStory_6 rfl ?_
  refine w_ialdk F hK hG 1 rfl (Nat.le_of_ble_eq_true rfl) (Nat.le_of_ble_eq_true rfl) dX4_isStory_7 ?_
  refine lv_iconst (v := nI 1) hx hb dX4_isStory_8 rfl ?_
  refine lv_isub hx hb dX4_isStory_9 ?_
  obtain ⟨r1, h2, hf⟩ := bd1_e hf
  refine k_Si F hK hA hG (c_X4_in l D y  H.size Fu  p1 (nI 0) ((q_s 3) - (nI 1)) r1 h2) (va_cwS 3 F.2.2.2.2 gX4_isStory_X4_in rfl rfl rfl (by decide +kernel) ⟨Nat.le_of_ble_eq_true rfl, Nat.le_of_ble_eq_true rfl⟩) rfl rfl hl.1 (Nat.le_of_ble_eq_true rfl) dX4_isStory_10 ⟨Nat.le_refl 0, Nat.le_refl 0⟩ (fun H locs hG => ?_)
  obtain ⟨gz, hf⟩ := gd_e hf
  have hf := so_e hf
  have e0 : r1 = ro := hf
  exact hret _ _ _ _ _ (bz_n gz) e0 hG dX4_isStory_13
def f_X4_isWord (Fu : Nat) (q_s : Ar) (p1 : Int32) (p2 : Int32) : Option Int32 :=
  bd1 (f_X4_isStory Fu q_s p1) (fun r1 =>
  jn (fun (v8 : Int32) =>
    gd (bz v8) (some (v8)))
    (fun j9 =>
    if r1 = 0 then
      j9 (nI 0)
    else
      gd (ix ((nI 9) + p1) 345) (
      bd1 (f_X4_in Fu p2 (nI 0) ((q_s ((nI 9) + p1).toNatClampNeg) - (nI 1))) (fun r5 =>
      if r5 = 0 then
        j9 (nI 0)
      else
        j9 (nI 1)))))
set_option maxHeartbeats 4000000 in
set_option maxRecDepth 100000 in
theorem c_X4_isWord (l : Launch) (D : va_G) (y : Nat → ClassId) (a : Nat → Nat) (sz : Nat) (Fu : Nat) (q_s : Ar) (q_aside : Ar) (q_before : Ar) (q_known : Int32) (q_slots : Ar) (q_isSaved : Ar) (q_pad : Ar) (q_length : Int32) (q_letters : Ar) (q_heats : Ar) (q_reactions : Int32) (q_newSplits : Int32) (q_storiesThen : Int32) (q_heatThen : Int32) (q_place : Int32) (q_isWrong : Int32) (q_toldLetter : Ar) (q_toldHeat : Ar) (q_toldStory : Ar) (q_toldWords : Int32) (q_toldStories : Int32) (p1 : Int32) (p2 : Int32) (ro : Int32) (hf : f_X4_isWord Fu q_s p1 p2 = some (ro)) : MI l yX4_isWord wsX4_isWord 2 43 [.ref (a 0), .int p1, .int p2] D y (w_X4 y a q_s q_aside q_before q_known q_slots q_isSaved q_pad q_length q_letters q_heats q_reactions q_newSplits q_storiesThen q_heatThen q_place q_isWrong q_toldLetter q_toldHeat q_toldStory q_toldWords q_toldStories) sz ro (w_X4 y a q_s q_aside q_before q_known q_slots q_isSaved q_pad q_length q_letters q_heats q_reactions q_newSplits q_storiesThen q_heatThen q_place q_isWrong q_toldLetter q_toldHeat q_toldStory q_toldWords q_toldStories) := by
  refine M_z (cc := cX4_isWord) (maxL := 3) (own := RX4) (by decide) rfl rfl (Nat.le_of_ble_eq_true rfl) ?_
  intro p e s m args below meth c A Q F hK hA H locs hG hret ls hl
  have hx := F.1
  have hb := F.2.1
  have hl : lv_has ls 3 [(0, .ref (a 0)), (1, .int p1), (2, .int p2)] := hl
  have k0 := F.2.2.2.2 (.fieldLink RX4 7 "HeatedStoriesModel" "s" "[I") (List.mem_of_getElem? (i := 1) rfl)
  have k1 : ∀ w ∈ wsX40, w ∈ wsX4_isWord := (fun w h => List.mem_cons_of_mem _ (List.mem_append_right _ (h)))
  unfold f_X4_isWord at hf
  refine lv_aload_n hx hb dX4_isWord_0 rfl (lv_at hl 0 rfl) ?_
  refine lv_iload_n hx hb dX4_isWord_1 rfl (lv_at hl 1 rfl) ?_
  obtain ⟨r1, h2, hf⟩ := bd1_e hf
  refine k_Wi F hK hA hG (c_X4_isStory l D y a H.size Fu q_s q_aside q_before q_known q_slots q_isSaved q_pad q_length q_letters q_heats q_reactions q_newSplits q_storiesThen q_heatThen q_place q_isWrong q_toldLetter q_toldHeat q_toldStory q_toldWords q_toldStories p1 r1 h2) (cwV 1 F.2.2.2.2 gX4_isWord_X4_isStory rfl rfl rfl (by decide +kernel) ⟨Nat.le_of_ble_eq_true rfl, Nat.le_of_ble_eq_true rfl⟩) 0 rfl rfl rfl rfl rfl hl.1 (Nat.le_of_ble_eq_true rfl) dX4_isWord_2 ⟨Nat.le_refl 0, Nat.le_refl 0⟩ (fun H locs hG => ?_)
  obtain ⟨j9, ej9, hf⟩ := jn_e hf
  have hj9 : ∀ (v8 : Int32) (H : Heap) (locs : List Loc) (ls : Array Slot), j9 v8 = some (ro) → GG D A s.heap (w_X4 y a q_s q_aside q_before q_known q_slots q_isSaved q_pad q_length q_letters q_heats q_reactions q_newSplits q_storiesThen q_heatThen q_place q_isWrong q_toldLetter q_toldHeat q_toldStory q_toldWords q_toldStories) H locs → lv_has ls 3 [] → W p l e (RM 2 43) s m args below meth c H locs 0 0 Q (F0 m 32 ls [.int v8]) := by
    intro v8 H locs ls hf hG hl
    rw [ej9] at hf
    obtain ⟨gz, hf⟩ := gd_e hf
    have hf := so_e hf
    have e0 : v8 = ro := hf
    exact hret _ _ _ _ _ (bz_n gz) e0 hG dX4_isWord_32
  refine lv_if_eq (tgt := 31) hx hb dX4_isWord_5 (by decide) (fun c3 => ?_) (fun c3 => ?_)
  · have hf := it_e c3 hf
    refine lv_iconst (v := nI 0) hx hb dX4_isWord_31 rfl ?_
    exact hj9 (nI 0) _ _ ls hf hG (lv_sub hl [] rfl)
  · have hf := if_e c3 hf
    refine lv_iload_n hx hb dX4_isWord_8 rfl (lv_at hl 2 rfl) ?_
    refine lv_iconst (v := nI 0) hx hb dX4_isWord_9 rfl ?_
    refine lv_aload_n hx hb dX4_isWord_10 rfl (lv_at hl 0 rfl) ?_
    refine w_get4 F hK hG k1 0 rfl 0 (by decide) k0 rfl dX4_isWord_11 ?_
    refine lv_bipush (v := nI 9) hx hb dX4_isWord_14 rfl ?_
    refine lv_iload_n hx hb dX4_isWord_16 rfl (lv_at hl 1 rfl) ?_
    refine lv_iadd hx hb dX4_isWord_17 ?_
    obtain ⟨g4, hf⟩ := gd_e hf
    refine w_iald F hK hG 1 rfl g4 dX4_isWord_18 ?_
    refine lv_iconst (v := nI 1) hx hb dX4_isWord_19 rfl ?_
    refine lv_isub hx hb dX4_isWord_20 ?_
    obtain ⟨r5, h6, hf⟩ := bd1_e hf
    refine k_Si F hK hA hG (c_X4_in l D y  H.size Fu  p2 (nI 0) ((q_s ((nI 9) + p1).toNatClampNeg) - (nI 1)) r5 h6) (va_cwS 3 F.2.2.2.2 gX4_isWord_X4_in rfl rfl rfl (by decide +kernel) ⟨Nat.le_of_ble_eq_true rfl, Nat.le_of_ble_eq_true rfl⟩) rfl rfl hl.1 (Nat.le_of_ble_eq_true rfl) dX4_isWord_21 ⟨Nat.le_refl 0, Nat.le_refl 0⟩ (fun H locs hG => ?_)
    refine lv_if_eq (tgt := 31) hx hb dX4_isWord_24 (by decide) (fun c7 => ?_) (fun c7 => ?_)
    · have hf := it_e c7 hf
      refine lv_iconst (v := nI 0) hx hb dX4_isWord_31 rfl ?_
      exact hj9 (nI 0) _ _ ls hf hG (lv_sub hl [] rfl)
    · have hf := if_e c7 hf
      refine lv_iconst (v := nI 1) hx hb dX4_isWord_27 rfl ?_
      refine lv_goto (tgt := 32) hx hb dX4_isWord_28 (by decide) ?_
      exact hj9 (nI 1) _ _ ls hf hG (lv_sub hl [] rfl)
def f_X4_first_L4 (Fu : Nat) (k_4 : Int32 → Option Int32) (q_s : Ar) (p1 : Int32) : Nat → Int32 → Int32 → Option Int32
  | 0, _, _ => none
  | fu + 1, x1, x2 =>
    if p1 ≤ x2 then
      k_4 x1
    else
      gd (ix ((nI 9) + x2) 345) (
      nm ((x1 + (q_s ((nI 9) + x2).toNatClampNeg))) (fun v5 =>
      f_X4_first_L4 Fu k_4 q_s p1 fu v5 (x2 + (nI 1))))
theorem f_X4_first_L4_s (Fu : Nat) (k_4 : Int32 → Option Int32) (q_s : Ar) (p1 : Int32) (fu : Nat) (x1 : Int32) (x2 : Int32) : f_X4_first_L4 Fu k_4 q_s p1 (fu + 1) x1 x2 =
    if p1 ≤ x2 then
      k_4 x1
    else
      gd (ix ((nI 9) + x2) 345) (
      nm ((x1 + (q_s ((nI 9) + x2).toNatClampNeg))) (fun v5 =>
      f_X4_first_L4 Fu k_4 q_s p1 fu v5 (x2 + (nI 1)))) := rfl
def f_X4_first (Fu : Nat) (q_s : Ar) (p1 : Int32) : Option Int32 :=
  jn (fun (v6 : Int32) =>
    some (v6))
    (fun k_4 => f_X4_first_L4 Fu k_4 q_s p1 Fu (nI 0) (nI 0))
set_option maxHeartbeats 4000000 in
set_option maxRecDepth 100000 in
theorem c_X4_first (l : Launch) (D : va_G) (y : Nat → ClassId) (a : Nat → Nat) (sz : Nat) (Fu : Nat) (q_s : Ar) (q_aside : Ar) (q_before : Ar) (q_known : Int32) (q_slots : Ar) (q_isSaved : Ar) (q_pad : Ar) (q_length : Int32) (q_letters : Ar) (q_heats : Ar) (q_reactions : Int32) (q_newSplits : Int32) (q_storiesThen : Int32) (q_heatThen : Int32) (q_place : Int32) (q_isWrong : Int32) (q_toldLetter : Ar) (q_toldHeat : Ar) (q_toldStory : Ar) (q_toldWords : Int32) (q_toldStories : Int32) (p1 : Int32) (ro : Int32) (hf : f_X4_first Fu q_s p1 = some (ro)) : MI l yX4_first wsX4_first 0 0 [.ref (a 0), .int p1] D y (w_X4 y a q_s q_aside q_before q_known q_slots q_isSaved q_pad q_length q_letters q_heats q_reactions q_newSplits q_storiesThen q_heatThen q_place q_isWrong q_toldLetter q_toldHeat q_toldStory q_toldWords q_toldStories) sz ro (w_X4 y a q_s q_aside q_before q_known q_slots q_isSaved q_pad q_length q_letters q_heats q_reactions q_newSplits q_storiesThen q_heatThen q_place q_isWrong q_toldLetter q_toldHeat q_toldStory q_toldWords q_toldStories) := by
  refine M_i (cc := cX4_first) (maxL := 4) (own := RX4) (by decide) rfl rfl (Nat.le_of_ble_eq_true rfl) ?_
  intro p e s m args below meth c A Q F hK hA H locs hG hret ls hl
  have hx := F.1
  have hb := F.2.1
  have hl : lv_has ls 4 [(0, .ref (a 0)), (1, .int p1)] := hl
  have k0 := F.2.2.2.2 (.fieldLink RX4 7 "HeatedStoriesModel" "s" "[I") (List.mem_of_getElem? (i := 1) rfl)
  have k1 : ∀ w ∈ wsX40, w ∈ wsX4_first := (fun w h => List.mem_cons_of_mem _ (List.mem_append_right _ (h)))
  unfold f_X4_first at hf
  refine lv_iconst (v := nI 0) hx hb dX4_first_0 rfl ?_
  refine lv_istore_n (lv' := [(2, .int (nI 0)), (0, .ref (a 0)), (1, .int p1)]) hx hb dX4_first_1 rfl hl (by decide) rfl (fun ls hl => ?_)
  refine lv_iconst (v := nI 0) hx hb dX4_first_2 rfl ?_
  refine lv_istore_n (lv' := [(3, .int (nI 0)), (2, .int (nI 0)), (0, .ref (a 0)), (1, .int p1)]) hx hb dX4_first_3 rfl hl (by decide) rfl (fun ls hl => ?_)
  obtain ⟨k_4, ek_4, hf⟩ := jn_e hf
  have hk_4 : ∀ (v6 : Int32) (H : Heap) (locs : List Loc) (ls : Array Slot), k_4 v6 = some (ro) → GG D A s.heap (w_X4 y a q_s q_aside q_before q_known q_slots q_isSaved q_pad q_length q_letters q_heats q_reactions q_newSplits q_storiesThen q_heatThen q_place q_isWrong q_toldLetter q_toldHeat q_toldStory q_toldWords q_toldStories) H locs → lv_has ls 4 [(2, .int v6)] → W p l e (RM 0 0) s m args below meth c H locs 0 0 Q (F0 m 27 ls []) := by
    intro v6 H locs ls hf hG hl
    rw [ek_4] at hf
    refine lv_iload_n hx hb dX4_first_27 rfl (lv_at hl 0 rfl) ?_
    have hf := so_e hf
    have e0 : v6 = ro := hf
    exact hret _ _ _ _ _ e0 hG dX4_first_28
  have hL4 : ∀ (fu : Nat) (x1 : Int32) (x2 : Int32) (H : Heap) (locs : List Loc) (ls : Array Slot), f_X4_first_L4 Fu k_4 q_s p1 fu x1 x2 = some (ro) → GG D A s.heap (w_X4 y a q_s q_aside q_before q_known q_slots q_isSaved q_pad q_length q_letters q_heats q_reactions q_newSplits q_storiesThen q_heatThen q_place q_isWrong q_toldLetter q_toldHeat q_toldStory q_toldWords q_toldStories) H locs → lv_has ls 4 [(0, .ref (a 0)), (1, .int p1), (2, .int x1), (3, .int x2)] → W p l e (RM 0 0) s m args below meth c H locs 0 0 Q (F0 m 4 ls []) := by
    intro fu
    induction fu with
    | zero => intro x1 x2 H locs ls hf hG hl; exact no_e hf
    | succ fu ih =>
      intro x1 x2 H locs ls hf hG hl
      rw [f_X4_first_L4_s] at hf
      refine lv_iload_n hx hb dX4_first_4 rfl (lv_at hl 3 rfl) ?_
      refine lv_iload_n hx hb dX4_first_5 rfl (lv_at hl 1 rfl) ?_
      refine lv_icmp_ge (tgt := 27) hx hb dX4_first_6 (by decide) (fun c3 => ?_) (fun c3 => ?_)
      · have hf := it_e c3 hf
        exact hk_4 x1 _ _ ls hf hG (lv_sub hl [2] rfl)
      · have hf := if_e c3 hf
        refine lv_iload_n hx hb dX4_first_9 rfl (lv_at hl 2 rfl) ?_
        refine lv_aload_n hx hb dX4_first_10 rfl (lv_at hl 0 rfl) ?_
        refine w_get4 F hK hG k1 0 rfl 0 (by decide) k0 rfl dX4_first_11 ?_
        refine lv_bipush (v := nI 9) hx hb dX4_first_14 rfl ?_
        refine lv_iload_n hx hb dX4_first_16 rfl (lv_at hl 3 rfl) ?_
        refine lv_iadd hx hb dX4_first_17 ?_
        obtain ⟨g4, hf⟩ := gd_e hf
        refine w_iald F hK hG 1 rfl g4 dX4_first_18 ?_
        refine lv_iadd hx hb dX4_first_19 ?_
        obtain ⟨v5, ev5, hf⟩ := nm_o hf
        refine w_nm ev5 ?_
        refine lv_istore_n (lv' := [(2, .int v5), (0, .ref (a 0)), (1, .int p1), (3, .int x2)]) hx hb dX4_first_20 rfl hl (by decide) rfl (fun ls hl => ?_)
        refine lv_iinc (v := x2 + (nI 1)) (lv' := [(3, .int (x2 + (nI 1))), (2, .int v5), (0, .ref (a 0)), (1, .int p1)]) hx hb dX4_first_21 hl (k := 3) rfl rfl (by decide) rfl (fun ls hl => ?_)
        refine lv_goto (tgt := 4) hx hb dX4_first_24 (by decide) ?_
        exact ih v5 (x2 + (nI 1)) _ _ ls hf hG (lv_sub hl [2, 3, 1, 0] rfl)
  exact hL4 Fu (nI 0) (nI 0) _ _ ls hf hG (lv_sub hl [2, 3, 1, 0] rfl)
def f_X4_know_L52 (Fu : Nat) (k_52 : Ar → Option (Ar × Int32)) (q_s : Ar) (q_known_10 : Int32) : Nat → Int32 → Ar → Option (Ar × Int32)
  | 0, _, _ => none
  | fu + 1, x12, q_before_13 =>
    if (nI 345) ≤ x12 then
      k_52 q_before_13
    else
      gd (ix x12 345) (
      gd (ix (((nI 345) * q_known_10) + x12) 2070) (
      nm ((upd q_before_13 (((nI 345) * q_known_10) + x12).toNatClampNeg (q_s (x12).toNatClampNeg))) (fun (q_before_17 : Ar) =>
      f_X4_know_L52 Fu k_52 q_s q_known_10 fu (x12 + (nI 1)) q_before_17)))
theorem f_X4_know_L52_s (Fu : Nat) (k_52 : Ar → Option (Ar × Int32)) (q_s : Ar) (q_known_10 : Int32) (fu : Nat) (x12 : Int32) (q_before_13 : Ar) : f_X4_know_L52 Fu k_52 q_s q_known_10 (fu + 1) x12 q_before_13 =
    if (nI 345) ≤ x12 then
      k_52 q_before_13
    else
      gd (ix x12 345) (
      gd (ix (((nI 345) * q_known_10) + x12) 2070) (
      nm ((upd q_before_13 (((nI 345) * q_known_10) + x12).toNatClampNeg (q_s (x12).toNatClampNeg))) (fun (q_before_17 : Ar) =>
      f_X4_know_L52 Fu k_52 q_s q_known_10 fu (x12 + (nI 1)) q_before_17))) := rfl
def f_X4_know_L11 (Fu : Nat) (k_11 : Ar → Option (Ar × Int32)) : Nat → Int32 → Ar → Option (Ar × Int32)
  | 0, _, _ => none
  | fu + 1, x2, q_before_3 =>
    if (nI 1725) ≤ x2 then
      k_11 q_before_3
    else
      gd (ix ((nI 345) + x2) 2070) (
      gd (ix x2 2070) (
      nm ((upd q_before_3 (x2).toNatClampNeg (q_before_3 ((nI 345) + x2).toNatClampNeg))) (fun (q_before_7 : Ar) =>
      f_X4_know_L11 Fu k_11 fu (x2 + (nI 1)) q_before_7)))
theorem f_X4_know_L11_s (Fu : Nat) (k_11 : Ar → Option (Ar × Int32)) (fu : Nat) (x2 : Int32) (q_before_3 : Ar) : f_X4_know_L11 Fu k_11 (fu + 1) x2 q_before_3 =
    if (nI 1725) ≤ x2 then
      k_11 q_before_3
    else
      gd (ix ((nI 345) + x2) 2070) (
      gd (ix x2 2070) (
      nm ((upd q_before_3 (x2).toNatClampNeg (q_before_3 ((nI 345) + x2).toNatClampNeg))) (fun (q_before_7 : Ar) =>
      f_X4_know_L11 Fu k_11 fu (x2 + (nI 1)) q_before_7))) := rfl
def f_X4_know (Fu : Nat) (q_s : Ar) (q_before : Ar) (q_known : Int32) : Option (Ar × Int32) :=
  jn (fun (q_before_9 : Ar) (q_known_10 : Int32) =>
    jn (fun (q_before_18 : Ar) =>
      some (q_before_18, q_known_10 + (nI 1)))
      (fun k_52 => f_X4_know_L52 Fu k_52 q_s q_known_10 Fu (nI 0) q_before_9))
    (fun j11 =>
    if q_known = (nI 6) then
      jn (fun (q_before_8 : Ar) =>
        j11 q_before_8 (q_known - (nI 1)))
        (fun k_11 => f_X4_know_L11 Fu k_11 Fu (nI 0) q_before)
    else
      j11 q_before q_known)
set_option maxHeartbeats 4000000 in
set_option maxRecDepth 100000 in
theorem c_X4_know (l : Launch) (D : va_G) (y : Nat → ClassId) (a : Nat → Nat) (sz : Nat) (Fu : Nat) (q_s : Ar) (q_aside : Ar) (q_before : Ar) (q_known : Int32) (q_slots : Ar) (q_isSaved : Ar) (q_pad : Ar) (q_length : Int32) (q_letters : Ar) (q_heats : Ar) (q_reactions : Int32) (q_newSplits : Int32) (q_storiesThen : Int32) (q_heatThen : Int32) (q_place : Int32) (q_isWrong : Int32) (q_toldLetter : Ar) (q_toldHeat : Ar) (q_toldStory : Ar) (q_toldWords : Int32) (q_toldStories : Int32) (q_before_o : Ar) (q_known_o : Int32) (hf : f_X4_know Fu q_s q_before q_known = some (q_before_o, q_known_o)) : MV l yX4_know wsX4_know 0 0 [.ref (a 0)] D y (w_X4 y a q_s q_aside q_before q_known q_slots q_isSaved q_pad q_length q_letters q_heats q_reactions q_newSplits q_storiesThen q_heatThen q_place q_isWrong q_toldLetter q_toldHeat q_toldStory q_toldWords q_toldStories) sz (w_X4 y a q_s q_aside q_before_o q_known_o q_slots q_isSaved q_pad q_length q_letters q_heats q_reactions q_newSplits q_storiesThen q_heatThen q_place q_isWrong q_toldLetter q_toldHeat q_toldStory q_toldWords q_toldStories) := by
  refine M_v (cc := cX4_know) (maxL := 2) (own := RX4) (by decide) rfl rfl (Nat.le_of_ble_eq_true rfl) ?_
  intro p e s m args below meth c A Q F hK hA H locs hG hret ls hl
  have hx := F.1
  have hb := F.2.1
  have hl : lv_has ls 2 [(0, .ref (a 0))] := hl
  have k0 := F.2.2.2.2 (.fieldLink RX4 52 "HeatedStoriesModel" "known" "I") (List.mem_of_getElem? (i := 1) rfl)
  have k1 : ∀ w ∈ wsX40, w ∈ wsX4_know := (fun w h => List.mem_cons_of_mem _ (List.mem_append_right _ (h)))
  have k2 := F.2.2.2.2 (.fieldLink RX4 16 "HeatedStoriesModel" "before" "[I") (List.mem_of_getElem? (i := 2) rfl)
  have k3 := F.2.2.2.2 (.fieldLink RX4 7 "HeatedStoriesModel" "s" "[I") (List.mem_of_getElem? (i := 3) rfl)
  unfold f_X4_know at hf
  refine lv_aload_n hx hb dX4_know_0 rfl (lv_at hl 0 rfl) ?_
  refine w_get4 F hK hG k1 0 rfl 3 (by decide) k0 rfl dX4_know_1 ?_
  refine lv_bipush (v := nI 6) hx hb dX4_know_4 rfl ?_
  obtain ⟨j11, ej11, hf⟩ := jn_e hf
  have hj11 : ∀ (q_before_9 : Ar) (q_known_10 : Int32) (H : Heap) (locs : List Loc) (ls : Array Slot), j11 q_before_9 q_known_10 = some (q_before_o, q_known_o) → GG D A s.heap (w_X4 y a q_s q_aside q_before_9 q_known_10 q_slots q_isSaved q_pad q_length q_letters q_heats q_reactions q_newSplits q_storiesThen q_heatThen q_place q_isWrong q_toldLetter q_toldHeat q_toldStory q_toldWords q_toldStories) H locs → lv_has ls 2 [(0, .ref (a 0))] → W p l e (RM 0 0) s m args below meth c H locs 0 0 Q (F0 m 50 ls []) := by
    intro q_before_9 q_known_10 H locs ls hf hG hl
    rw [ej11] at hf
    refine lv_iconst (v := nI 0) hx hb dX4_know_50 rfl ?_
    refine lv_istore_n (lv' := [(1, .int (nI 0)), (0, .ref (a 0))]) hx hb dX4_know_51 rfl hl (by decide) rfl (fun ls hl => ?_)
    obtain ⟨k_52, ek_52, hf⟩ := jn_e hf
    have hk_52 : ∀ (q_before_18 : Ar) (H : Heap) (locs : List Loc) (ls : Array Slot), k_52 q_before_18 = some (q_before_o, q_known_o) → GG D A s.heap (w_X4 y a q_s q_aside q_before_18 q_known_10 q_slots q_isSaved q_pad q_length q_letters q_heats q_reactions q_newSplits q_storiesThen q_heatThen q_place q_isWrong q_toldLetter q_toldHeat q_toldStory q_toldWords q_toldStories) H locs → lv_has ls 2 [(0, .ref (a 0))] → W p l e (RM 0 0) s m args below meth c H locs 0 0 Q (F0 m 86 ls []) := by
      intro q_before_18 H locs ls hf hG hl
      rw [ek_52] at hf
      refine lv_aload_n hx hb dX4_know_86 rfl (lv_at hl 0 rfl) ?_
      refine lv_dup hx hb dX4_know_87 rfl ?_
      refine w_get4 F hK hG k1 0 rfl 3 (by decide) k0 rfl dX4_know_88 ?_
      refine lv_iconst (v := nI 1) hx hb dX4_know_91 rfl ?_
      refine lv_iadd hx hb dX4_know_92 ?_
      refine w_put4 F hK hG k1 0 rfl 3 (by decide) k0 rfl rfl rfl (Nat.le_of_ble_eq_true rfl) (w_X4 y a q_s q_aside q_before_18 (q_known_10 + (nI 1)) q_slots q_isSaved q_pad q_length q_letters q_heats q_reactions q_newSplits q_storiesThen q_heatThen q_place q_isWrong q_toldLetter q_toldHeat q_toldStory q_toldWords q_toldStories) rfl dX4_know_93 (fun H locs hG => ?_)
      have hf := so_e hf
      have e0 : q_before_18 = q_before_o := congrArg (fun z => z.1) hf
      have e1 : (q_known_10 + (nI 1)) = q_known_o := congrArg (fun z => z.2) hf
      exact hret _ _ _ _ (by rw [← e0, ← e1]; exact hG) dX4_know_96
    have hL52 : ∀ (fu : Nat) (x12 : Int32) (q_before_13 : Ar) (H : Heap) (locs : List Loc) (ls : Array Slot), f_X4_know_L52 Fu k_52 q_s q_known_10 fu x12 q_before_13 = some (q_before_o, q_known_o) → GG D A s.heap (w_X4 y a q_s q_aside q_before_13 q_known_10 q_slots q_isSaved q_pad q_length q_letters q_heats q_reactions q_newSplits q_storiesThen q_heatThen q_place q_isWrong q_toldLetter q_toldHeat q_toldStory q_toldWords q_toldStories) H locs → lv_has ls 2 [(0, .ref (a 0)), (1, .int x12)] → W p l e (RM 0 0) s m args below meth c H locs 0 0 Q (F0 m 52 ls []) := by
      intro fu
      induction fu with
      | zero => intro x12 q_before_13 H locs ls hf hG hl; exact no_e hf
      | succ fu ih =>
        intro x12 q_before_13 H locs ls hf hG hl
        rw [f_X4_know_L52_s] at hf
        refine lv_iload_n hx hb dX4_know_52 rfl (lv_at hl 1 rfl) ?_
        refine lv_sipush (v := nI 345) hx hb dX4_know_53 rfl ?_
        refine lv_icmp_ge (tgt := 86) hx hb dX4_know_56 (by decide) (fun c14 => ?_) (fun c14 => ?_)
        · have hf := it_e c14 hf
          exact hk_52 q_before_13 _ _ ls hf hG (lv_sub hl [0] rfl)
        · have hf := if_e c14 hf
          refine lv_aload_n hx hb dX4_know_59 rfl (lv_at hl 0 rfl) ?_
          refine w_get4 F hK hG k1 0 rfl 2 (by decide) k2 rfl dX4_know_60 ?_
          refine lv_sipush (v := nI 345) hx hb dX4_know_63 rfl ?_
          refine lv_aload_n hx hb dX4_know_66 rfl (lv_at hl 0 rfl) ?_
          refine w_get4 F hK hG k1 0 rfl 3 (by decide) k0 rfl dX4_know_67 ?_
          refine lv_imul hx hb dX4_know_70 ?_
          refine lv_iload_n hx hb dX4_know_71 rfl (lv_at hl 1 rfl) ?_
          refine lv_iadd hx hb dX4_know_72 ?_
          refine lv_aload_n hx hb dX4_know_73 rfl (lv_at hl 0 rfl) ?_
          refine w_get4 F hK hG k1 0 rfl 0 (by decide) k3 rfl dX4_know_74 ?_
          refine lv_iload_n hx hb dX4_know_77 rfl (lv_at hl 1 rfl) ?_
          obtain ⟨g15, hf⟩ := gd_e hf
          refine w_iald F hK hG 1 rfl g15 dX4_know_78 ?_
          obtain ⟨g16, hf⟩ := gd_e hf
          refine w_iast F hK hG 3 rfl g16 (w_X4 y a q_s q_aside (upd q_before_13 (((nI 345) * q_known_10) + x12).toNatClampNeg (q_s (x12).toNatClampNeg)) q_known_10 q_slots q_isSaved q_pad q_length q_letters q_heats q_reactions q_newSplits q_storiesThen q_heatThen q_place q_isWrong q_toldLetter q_toldHeat q_toldStory q_toldWords q_toldStories) rfl dX4_know_79 (fun H locs hG => ?_)
          obtain ⟨q_before_17, eq_before_17, hf⟩ := nm_o hf
          rw [← eq_before_17] at hG
          refine lv_iinc (v := x12 + (nI 1)) (lv' := [(1, .int (x12 + (nI 1))), (0, .ref (a 0))]) hx hb dX4_know_80 hl (k := 1) rfl rfl (by decide) rfl (fun ls hl => ?_)
          refine lv_goto (tgt := 52) hx hb dX4_know_83 (by decide) ?_
          exact ih (x12 + (nI 1)) q_before_17 _ _ ls hf hG (lv_sub hl [1, 0] rfl)
    exact hL52 Fu (nI 0) q_before_9 _ _ ls hf hG (lv_sub hl [1, 0] rfl)
  refine lv_icmp_ne (tgt := 50) hx hb dX4_know_6 (by decide) (fun c1 => ?_) (fun c1 => ?_)
  · have hf := if_e c1 hf
    exact hj11 q_before q_known _ _ ls hf hG (lv_sub hl [0] rfl)
  · have hf := it_e c1 hf
    refine lv_iconst (v := nI 0) hx hb dX4_know_9 rfl ?_
    refine lv_istore_n (lv' := [(1, .int (nI 0)), (0, .ref (a 0))]) hx hb dX4_know_10 rfl hl (by decide) rfl (fun ls hl => ?_)
    obtain ⟨k_11, ek_11, hf⟩ := jn_e hf
    have hk_11 : ∀ (q_before_8 : Ar) (H : Heap) (locs : List Loc) (ls : Array Slot), k_11 q_before_8 = some (q_before_o, q_known_o) → GG D A s.heap (w_X4 y a q_s q_aside q_before_8 q_known q_slots q_isSaved q_pad q_length q_letters q_heats q_reactions q_newSplits q_storiesThen q_heatThen q_place q_isWrong q_toldLetter q_toldHeat q_toldStory q_toldWords q_toldStories) H locs → lv_has ls 2 [(0, .ref (a 0))] → W p l e (RM 0 0) s m args below meth c H locs 0 0 Q (F0 m 40 ls []) := by
      intro q_before_8 H locs ls hf hG hl
      rw [ek_11] at hf
      refine lv_aload_n hx hb dX4_know_40 rfl (lv_at hl 0 rfl) ?_
      refine lv_dup hx hb dX4_know_41 rfl ?_
      refine w_get4 F hK hG k1 0 rfl 3 (by decide) k0 rfl dX4_know_42 ?_
      refine lv_iconst (v := nI 1) hx hb dX4_know_45 rfl ?_
      refine lv_isub hx hb dX4_know_46 ?_
      refine w_put4 F hK hG k1 0 rfl 3 (by decide) k0 rfl rfl rfl (Nat.le_of_ble_eq_true rfl) (w_X4 y a q_s q_aside q_before_8 (q_known - (nI 1)) q_slots q_isSaved q_pad q_length q_letters q_heats q_reactions q_newSplits q_storiesThen q_heatThen q_place q_isWrong q_toldLetter q_toldHeat q_toldStory q_toldWords q_toldStories) rfl dX4_know_47 (fun H locs hG => ?_)
      exact hj11 q_before_8 (q_known - (nI 1)) _ _ ls hf hG (lv_sub hl [0] rfl)
    have hL11 : ∀ (fu : Nat) (x2 : Int32) (q_before_3 : Ar) (H : Heap) (locs : List Loc) (ls : Array Slot), f_X4_know_L11 Fu k_11 fu x2 q_before_3 = some (q_before_o, q_known_o) → GG D A s.heap (w_X4 y a q_s q_aside q_before_3 q_known q_slots q_isSaved q_pad q_length q_letters q_heats q_reactions q_newSplits q_storiesThen q_heatThen q_place q_isWrong q_toldLetter q_toldHeat q_toldStory q_toldWords q_toldStories) H locs → lv_has ls 2 [(0, .ref (a 0)), (1, .int x2)] → W p l e (RM 0 0) s m args below meth c H locs 0 0 Q (F0 m 11 ls []) := by
      intro fu
      induction fu with
      | zero => intro x2 q_before_3 H locs ls hf hG hl; exact no_e hf
      | succ fu ih =>
        intro x2 q_before_3 H locs ls hf hG hl
        rw [f_X4_know_L11_s] at hf
        refine lv_iload_n hx hb dX4_know_11 rfl (lv_at hl 1 rfl) ?_
        refine lv_sipush (v := nI 1725) hx hb dX4_know_12 rfl ?_
        refine lv_icmp_ge (tgt := 40) hx hb dX4_know_15 (by decide) (fun c4 => ?_) (fun c4 => ?_)
        · have hf := it_e c4 hf
          exact hk_11 q_before_3 _ _ ls hf hG (lv_sub hl [0] rfl)
        · have hf := if_e c4 hf
          refine lv_aload_n hx hb dX4_know_18 rfl (lv_at hl 0 rfl) ?_
          refine w_get4 F hK hG k1 0 rfl 2 (by decide) k2 rfl dX4_know_19 ?_
          refine lv_iload_n hx hb dX4_know_22 rfl (lv_at hl 1 rfl) ?_
          refine lv_aload_n hx hb dX4_know_23 rfl (lv_at hl 0 rfl) ?_
          refine w_get4 F hK hG k1 0 rfl 2 (by decide) k2 rfl dX4_know_24 ?_
          refine lv_sipush (v := nI 345) hx hb dX4_know_27 rfl ?_
          refine lv_iload_n hx hb dX4_know_30 rfl (lv_at hl 1 rfl) ?_
          refine lv_iadd hx hb dX4_know_31 ?_
          obtain ⟨g5, hf⟩ := gd_e hf
          refine w_iald F hK hG 3 rfl g5 dX4_know_32 ?_
          obtain ⟨g6, hf⟩ := gd_e hf
          refine w_iast F hK hG 3 rfl g6 (w_X4 y a q_s q_aside (upd q_before_3 (x2).toNatClampNeg (q_before_3 ((nI 345) + x2).toNatClampNeg)) q_known q_slots q_isSaved q_pad q_length q_letters q_heats q_reactions q_newSplits q_storiesThen q_heatThen q_place q_isWrong q_toldLetter q_toldHeat q_toldStory q_toldWords q_toldStories) rfl dX4_know_33 (fun H locs hG => ?_)
          obtain ⟨q_before_7, eq_before_7, hf⟩ := nm_o hf
          rw [← eq_before_7] at hG
          refine lv_iinc (v := x2 + (nI 1)) (lv' := [(1, .int (x2 + (nI 1))), (0, .ref (a 0))]) hx hb dX4_know_34 hl (k := 1) rfl rfl (by decide) rfl (fun ls hl => ?_)
          refine lv_goto (tgt := 11) hx hb dX4_know_37 (by decide) ?_
          exact ih (x2 + (nI 1)) q_before_7 _ _ ls hf hG (lv_sub hl [1, 0] rfl)
    exact hL11 Fu (nI 0) q_before _ _ ls hf hG (lv_sub hl [1, 0] rfl)
def f_X4_warm (Fu : Nat) (q_s : Ar) (p1 : Int32) (p2 : Int32) : Option Ar :=
  gd (ix ((nI 195) + p1) 345) (
  nm (((q_s ((nI 195) + p1).toNatClampNeg) + p2)) (fun v2 =>
  nm (if v2 ≤ (nI 999) then v2 else nI 999) (fun v4 =>
  gd (ix ((nI 195) + p1) 345) (
  some (upd q_s ((nI 195) + p1).toNatClampNeg v4)))))
set_option maxHeartbeats 4000000 in
set_option maxRecDepth 100000 in
theorem c_X4_warm (l : Launch) (D : va_G) (y : Nat → ClassId) (a : Nat → Nat) (sz : Nat) (Fu : Nat) (q_s : Ar) (q_aside : Ar) (q_before : Ar) (q_known : Int32) (q_slots : Ar) (q_isSaved : Ar) (q_pad : Ar) (q_length : Int32) (q_letters : Ar) (q_heats : Ar) (q_reactions : Int32) (q_newSplits : Int32) (q_storiesThen : Int32) (q_heatThen : Int32) (q_place : Int32) (q_isWrong : Int32) (q_toldLetter : Ar) (q_toldHeat : Ar) (q_toldStory : Ar) (q_toldWords : Int32) (q_toldStories : Int32) (p1 : Int32) (p2 : Int32) (q_s_o : Ar) (hf : f_X4_warm Fu q_s p1 p2 = some (q_s_o)) : MV l yX4_warm wsX4_warm 0 0 [.ref (a 0), .int p1, .int p2] D y (w_X4 y a q_s q_aside q_before q_known q_slots q_isSaved q_pad q_length q_letters q_heats q_reactions q_newSplits q_storiesThen q_heatThen q_place q_isWrong q_toldLetter q_toldHeat q_toldStory q_toldWords q_toldStories) sz (w_X4 y a q_s_o q_aside q_before q_known q_slots q_isSaved q_pad q_length q_letters q_heats q_reactions q_newSplits q_storiesThen q_heatThen q_place q_isWrong q_toldLetter q_toldHeat q_toldStory q_toldWords q_toldStories) := by
  refine M_v (cc := cX4_warm) (maxL := 4) (own := RX4) (by decide) rfl rfl (Nat.le_of_ble_eq_true rfl) ?_
  intro p e s m args below meth c A Q F hK hA H locs hG hret ls hl
  have hx := F.1
  have hb := F.2.1
  have hl : lv_has ls 4 [(0, .ref (a 0)), (1, .int p1), (2, .int p2)] := hl
  have k0 := F.2.2.2.2 (.fieldLink RX4 7 "HeatedStoriesModel" "s" "[I") (List.mem_of_getElem? (i := 1) rfl)
  have k1 : ∀ w ∈ wsX40, w ∈ wsX4_warm := (fun w h => List.mem_cons_of_mem _ (List.mem_append_right _ (h)))
  unfold f_X4_warm at hf
  refine lv_aload_n hx hb dX4_warm_0 rfl (lv_at hl 0 rfl) ?_
  refine w_get4 F hK hG k1 0 rfl 0 (by decide) k0 rfl dX4_warm_1 ?_
  refine lv_sipush (v := nI 195) hx hb dX4_warm_4 rfl ?_
  refine lv_iload_n hx hb dX4_warm_7 rfl (lv_at hl 1 rfl) ?_
  refine lv_iadd hx hb dX4_warm_8 ?_
  obtain ⟨g1, hf⟩ := gd_e hf
  refine w_iald F hK hG 1 rfl g1 dX4_warm_9 ?_
  refine lv_iload_n hx hb dX4_warm_10 rfl (lv_at hl 2 rfl) ?_
  refine lv_iadd hx hb dX4_warm_11 ?_
  obtain ⟨v2, ev2, hf⟩ := nm_o hf
  refine w_nm ev2 ?_
  refine lv_istore_n (lv' := [(3, .int v2), (0, .ref (a 0)), (1, .int p1), (2, .int p2)]) hx hb dX4_warm_12 rfl hl (by decide) rfl (fun ls hl => ?_)
  refine lv_aload_n hx hb dX4_warm_13 rfl (lv_at hl 1 rfl) ?_
  refine w_get4 F hK hG k1 0 rfl 0 (by decide) k0 rfl dX4_warm_14 ?_
  refine lv_sipush (v := nI 195) hx hb dX4_warm_17 rfl ?_
  refine lv_iload_n hx hb dX4_warm_20 rfl (lv_at hl 2 rfl) ?_
  refine lv_iadd hx hb dX4_warm_21 ?_
  refine lv_iload_n hx hb dX4_warm_22 rfl (lv_at hl 0 rfl) ?_
  refine lv_sipush (v := nI 999) hx hb dX4_warm_23 rfl ?_
  obtain ⟨v4, ev4, hf⟩ := nm_o hf
  have hJ : ∀ (ls : Array Slot), lv_has ls 4 [] → W p l e (RM 0 0) s m args below meth c H locs 0 0 Q (F0 m 36 ls [.int v4, .int ((nI 195) + p1), .ref (a 1)]) := by
    intro ls hl
    obtain ⟨g5, hf⟩ := gd_e hf
    refine w_iast F hK hG 1 rfl g5 (w_X4 y a (upd q_s ((nI 195) + p1).toNatClampNeg v4) q_aside q_before q_known q_slots q_isSaved q_pad q_length q_letters q_heats q_reactions q_newSplits q_storiesThen q_heatThen q_place q_isWrong q_toldLetter q_toldHeat q_toldStory q_toldWords q_toldStories) rfl dX4_warm_36 (fun H locs hG => ?_)
    have hf := so_e hf
    have e0 : (upd q_s ((nI 195) + p1).toNatClampNeg v4) = q_s_o := hf
    exact hret _ _ _ _ (by rw [← e0]; exact hG) dX4_warm_37
  refine lv_icmp_le (tgt := 35) hx hb dX4_warm_26 (by decide) (fun c3 => ?_) (fun c3 => ?_)
  · refine lv_iload_n hx hb dX4_warm_35 rfl (lv_at hl 0 rfl) ?_
    have qv4 := (ev4.trans (if_pos c3))
    subst qv4
    exact hJ ls (lv_sub hl [] rfl)
  · refine lv_sipush (v := nI 999) hx hb dX4_warm_29 rfl ?_
    refine lv_goto (tgt := 36) hx hb dX4_warm_32 (by decide) ?_
    have qv4 := (ev4.trans (if_neg c3))
    subst qv4
    exact hJ ls (lv_sub hl [] rfl)
def f_X4_storyOf_L4 (Fu : Nat) (k_4 : Int32 → Option Int32) (q_s : Ar) : Nat → Int32 → Int32 → Option Int32
  | 0, _, _ => none
  | fu + 1, x1, x2 =>
    gd (ix ((nI 9) + x1) 345) (
    if x2 < (q_s ((nI 9) + x1).toNatClampNeg) then
      k_4 x1
    else
      gd (ix ((nI 9) + x1) 345) (
      nm ((x2 - (q_s ((nI 9) + x1).toNatClampNeg))) (fun v6 =>
      f_X4_storyOf_L4 Fu k_4 q_s fu (x1 + (nI 1)) v6)))
theorem f_X4_storyOf_L4_s (Fu : Nat) (k_4 : Int32 → Option Int32) (q_s : Ar) (fu : Nat) (x1 : Int32) (x2 : Int32) : f_X4_storyOf_L4 Fu k_4 q_s (fu + 1) x1 x2 =
    gd (ix ((nI 9) + x1) 345) (
    if x2 < (q_s ((nI 9) + x1).toNatClampNeg) then
      k_4 x1
    else
      gd (ix ((nI 9) + x1) 345) (
      nm ((x2 - (q_s ((nI 9) + x1).toNatClampNeg))) (fun v6 =>
      f_X4_storyOf_L4 Fu k_4 q_s fu (x1 + (nI 1)) v6))) := rfl
def f_X4_storyOf (Fu : Nat) (q_s : Ar) (p1 : Int32) : Option Int32 :=
  jn (fun (v7 : Int32) =>
    some (v7))
    (fun k_4 => f_X4_storyOf_L4 Fu k_4 q_s Fu (nI 0) p1)
set_option maxHeartbeats 4000000 in
set_option maxRecDepth 100000 in
theorem c_X4_storyOf (l : Launch) (D : va_G) (y : Nat → ClassId) (a : Nat → Nat) (sz : Nat) (Fu : Nat) (q_s : Ar) (q_aside : Ar) (q_before : Ar) (q_known : Int32) (q_slots : Ar) (q_isSaved : Ar) (q_pad : Ar) (q_length : Int32) (q_letters : Ar) (q_heats : Ar) (q_reactions : Int32) (q_newSplits : Int32) (q_storiesThen : Int32) (q_heatThen : Int32) (q_place : Int32) (q_isWrong : Int32) (q_toldLetter : Ar) (q_toldHeat : Ar) (q_toldStory : Ar) (q_toldWords : Int32) (q_toldStories : Int32) (p1 : Int32) (ro : Int32) (hf : f_X4_storyOf Fu q_s p1 = some (ro)) : MI l yX4_storyOf wsX4_storyOf 0 0 [.ref (a 0), .int p1] D y (w_X4 y a q_s q_aside q_before q_known q_slots q_isSaved q_pad q_length q_letters q_heats q_reactions q_newSplits q_storiesThen q_heatThen q_place q_isWrong q_toldLetter q_toldHeat q_toldStory q_toldWords q_toldStories) sz ro (w_X4 y a q_s q_aside q_before q_known q_slots q_isSaved q_pad q_length q_letters q_heats q_reactions q_newSplits q_storiesThen q_heatThen q_place q_isWrong q_toldLetter q_toldHeat q_toldStory q_toldWords q_toldStories) := by
  refine M_i (cc := cX4_storyOf) (maxL := 4) (own := RX4) (by decide) rfl rfl (Nat.le_of_ble_eq_true rfl) ?_
  intro p e s m args below meth c A Q F hK hA H locs hG hret ls hl
  have hx := F.1
  have hb := F.2.1
  have hl : lv_has ls 4 [(0, .ref (a 0)), (1, .int p1)] := hl
  have k0 := F.2.2.2.2 (.fieldLink RX4 7 "HeatedStoriesModel" "s" "[I") (List.mem_of_getElem? (i := 1) rfl)
  have k1 : ∀ w ∈ wsX40, w ∈ wsX4_storyOf := (fun w h => List.mem_cons_of_mem _ (List.mem_append_right _ (h)))
  unfold f_X4_storyOf at hf
  refine lv_iconst (v := nI 0) hx hb dX4_storyOf_0 rfl ?_
  refine lv_istore_n (lv' := [(2, .int (nI 0)), (0, .ref (a 0)), (1, .int p1)]) hx hb dX4_storyOf_1 rfl hl (by decide) rfl (fun ls hl => ?_)
  refine lv_iload_n hx hb dX4_storyOf_2 rfl (lv_at hl 2 rfl) ?_
  refine lv_istore_n (lv' := [(3, .int p1), (2, .int (nI 0)), (0, .ref (a 0)), (1, .int p1)]) hx hb dX4_storyOf_3 rfl hl (by decide) rfl (fun ls hl => ?_)
  obtain ⟨k_4, ek_4, hf⟩ := jn_e hf
  have hk_4 : ∀ (v7 : Int32) (H : Heap) (locs : List Loc) (ls : Array Slot), k_4 v7 = some (ro) → GG D A s.heap (w_X4 y a q_s q_aside q_before q_known q_slots q_isSaved q_pad q_length q_letters q_heats q_reactions q_newSplits q_storiesThen q_heatThen q_place q_isWrong q_toldLetter q_toldHeat q_toldStory q_toldWords q_toldStories) H locs → lv_has ls 4 [(2, .int v7)] → W p l e (RM 0 0) s m args below meth c H locs 0 0 Q (F0 m 35 ls []) := by
    intro v7 H locs ls hf hG hl
    rw [ek_4] at hf
    refine lv_iload_n hx hb dX4_storyOf_35 rfl (lv_at hl 0 rfl) ?_
    have hf := so_e hf
    have e0 : v7 = ro := hf
    exact hret _ _ _ _ _ e0 hG dX4_storyOf_36
  have hL4 : ∀ (fu : Nat) (x1 : Int32) (x2 : Int32) (H : Heap) (locs : List Loc) (ls : Array Slot), f_X4_storyOf_L4 Fu k_4 q_s fu x1 x2 = some (ro) → GG D A s.heap (w_X4 y a q_s q_aside q_before q_known q_slots q_isSaved q_pad q_length q_letters q_heats q_reactions q_newSplits q_storiesThen q_heatThen q_place q_isWrong q_toldLetter q_toldHeat q_toldStory q_toldWords q_toldStories) H locs → lv_has ls 4 [(0, .ref (a 0)), (2, .int x1), (3, .int x2)] → W p l e (RM 0 0) s m args below meth c H locs 0 0 Q (F0 m 4 ls []) := by
    intro fu
    induction fu with
    | zero => intro x1 x2 H locs ls hf hG hl; exact no_e hf
    | succ fu ih =>
      intro x1 x2 H locs ls hf hG hl
      rw [f_X4_storyOf_L4_s] at hf
      refine lv_iload_n hx hb dX4_storyOf_4 rfl (lv_at hl 2 rfl) ?_
      refine lv_aload_n hx hb dX4_storyOf_5 rfl (lv_at hl 0 rfl) ?_
      refine w_get4 F hK hG k1 0 rfl 0 (by decide) k0 rfl dX4_storyOf_6 ?_
      refine lv_bipush (v := nI 9) hx hb dX4_storyOf_9 rfl ?_
      refine lv_iload_n hx hb dX4_storyOf_11 rfl (lv_at hl 1 rfl) ?_
      refine lv_iadd hx hb dX4_storyOf_12 ?_
      obtain ⟨g3, hf⟩ := gd_e hf
      refine w_iald F hK hG 1 rfl g3 dX4_storyOf_13 ?_
      refine lv_icmp_lt (tgt := 35) hx hb dX4_storyOf_14 (by decide) (fun c4 => ?_) (fun c4 => ?_)
      · have hf := it_e c4 hf
        exact hk_4 x1 _ _ ls hf hG (lv_sub hl [1] rfl)
      · have hf := if_e c4 hf
        refine lv_iload_n hx hb dX4_storyOf_17 rfl (lv_at hl 2 rfl) ?_
        refine lv_aload_n hx hb dX4_storyOf_18 rfl (lv_at hl 0 rfl) ?_
        refine w_get4 F hK hG k1 0 rfl 0 (by decide) k0 rfl dX4_storyOf_19 ?_
        refine lv_bipush (v := nI 9) hx hb dX4_storyOf_22 rfl ?_
        refine lv_iload_n hx hb dX4_storyOf_24 rfl (lv_at hl 1 rfl) ?_
        refine lv_iadd hx hb dX4_storyOf_25 ?_
        obtain ⟨g5, hf⟩ := gd_e hf
        refine w_iald F hK hG 1 rfl g5 dX4_storyOf_26 ?_
        refine lv_isub hx hb dX4_storyOf_27 ?_
        obtain ⟨v6, ev6, hf⟩ := nm_o hf
        refine w_nm ev6 ?_
        refine lv_istore_n (lv' := [(3, .int v6), (0, .ref (a 0)), (2, .int x1)]) hx hb dX4_storyOf_28 rfl hl (by decide) rfl (fun ls hl => ?_)
        refine lv_iinc (v := x1 + (nI 1)) (lv' := [(2, .int (x1 + (nI 1))), (3, .int v6), (0, .ref (a 0))]) hx hb dX4_storyOf_29 hl (k := 2) rfl rfl (by decide) rfl (fun ls hl => ?_)
        refine lv_goto (tgt := 4) hx hb dX4_storyOf_32 (by decide) ?_
        exact ih (x1 + (nI 1)) v6 _ _ ls hf hG (lv_sub hl [2, 0, 1] rfl)
  exact hL4 Fu (nI 0) p1 _ _ ls hf hG (lv_sub hl [2, 1, 0] rfl)
def f_X4_split_L7 (Fu : Nat) (k_7 : Ar → Option Ar) (p1 : Int32) : Nat → Int32 → Ar → Option Ar
  | 0, _, _ => none
  | fu + 1, x1, q_s_2 =>
    if x1 ≤ (p1 + (nI 1)) then
      k_7 q_s_2
    else
      gd (ix (((nI 9) + x1) - (nI 1)) 345) (
      gd (ix ((nI 9) + x1) 345) (
      nm ((upd q_s_2 ((nI 9) + x1).toNatClampNeg (q_s_2 (((nI 9) + x1) - (nI 1)).toNatClampNeg))) (fun (q_s_6 : Ar) =>
      gd (ix (((nI 21) + x1) - (nI 1)) 345) (
      gd (ix ((nI 21) + x1) 345) (
      nm ((upd q_s_6 ((nI 21) + x1).toNatClampNeg (q_s_6 (((nI 21) + x1) - (nI 1)).toNatClampNeg))) (fun (q_s_9 : Ar) =>
      gd (ix (((nI 33) + x1) - (nI 1)) 345) (
      gd (ix ((nI 33) + x1) 345) (
      nm ((upd q_s_9 ((nI 33) + x1).toNatClampNeg (q_s_9 (((nI 33) + x1) - (nI 1)).toNatClampNeg))) (fun (q_s_12 : Ar) =>
      f_X4_split_L7 Fu k_7 p1 fu (x1 + (-1)) q_s_12)))))))))
theorem f_X4_split_L7_s (Fu : Nat) (k_7 : Ar → Option Ar) (p1 : Int32) (fu : Nat) (x1 : Int32) (q_s_2 : Ar) : f_X4_split_L7 Fu k_7 p1 (fu + 1) x1 q_s_2 =
    if x1 ≤ (p1 + (nI 1)) then
      k_7 q_s_2
    else
      gd (ix (((nI 9) + x1) - (nI 1)) 345) (
      gd (ix ((nI 9) + x1) 345) (
      nm ((upd q_s_2 ((nI 9) + x1).toNatClampNeg (q_s_2 (((nI 9) + x1) - (nI 1)).toNatClampNeg))) (fun (q_s_6 : Ar) =>
      gd (ix (((nI 21) + x1) - (nI 1)) 345) (
      gd (ix ((nI 21) + x1) 345) (
      nm ((upd q_s_6 ((nI 21) + x1).toNatClampNeg (q_s_6 (((nI 21) + x1) - (nI 1)).toNatClampNeg))) (fun (q_s_9 : Ar) =>
      gd (ix (((nI 33) + x1) - (nI 1)) 345) (
      gd (ix ((nI 33) + x1) 345) (
      nm ((upd q_s_9 ((nI 33) + x1).toNatClampNeg (q_s_9 (((nI 33) + x1) - (nI 1)).toNatClampNeg))) (fun (q_s_12 : Ar) =>
      f_X4_split_L7 Fu k_7 p1 fu (x1 + (-1)) q_s_12))))))))) := rfl
def f_X4_split (Fu : Nat) (q_s : Ar) (p1 : Int32) (p2 : Int32) : Option Ar :=
  jn (fun (q_s_13 : Ar) =>
    gd (ix ((nI 9) + p1) 345) (
    gd (ix (((nI 9) + p1) + (nI 1)) 345) (
    nm ((upd q_s_13 (((nI 9) + p1) + (nI 1)).toNatClampNeg ((q_s_13 ((nI 9) + p1).toNatClampNeg) - p2))) (fun (q_s_16 : Ar) =>
    gd (ix ((nI 9) + p1) 345) (
    gd (ix ((nI 21) + p1) 345) (
    gd (ix (((nI 21) + p1) + (nI 1)) 345) (
    nm ((upd (upd q_s_16 ((nI 9) + p1).toNatClampNeg p2) (((nI 21) + p1) + (nI 1)).toNatClampNeg ((upd q_s_16 ((nI 9) + p1).toNatClampNeg p2) ((nI 21) + p1).toNatClampNeg))) (fun (q_s_20 : Ar) =>
    gd (ix ((nI 33) + p1) 345) (
    gd (ix (((nI 33) + p1) + (nI 1)) 345) (
    nm ((upd q_s_20 (((nI 33) + p1) + (nI 1)).toNatClampNeg ((q_s_20 ((nI 33) + p1).toNatClampNeg) + (nI 1)))) (fun (q_s_23 : Ar) =>
    some (upd q_s_23 3 ((q_s_23 3) + (nI 1))))))))))))))
    (fun k_7 => f_X4_split_L7 Fu k_7 p1 Fu (q_s 3) q_s)
set_option maxHeartbeats 4000000 in
set_option maxRecDepth 100000 in
theorem c_X4_split (l : Launch) (D : va_G) (y : Nat → ClassId) (a : Nat → Nat) (sz : Nat) (Fu : Nat) (q_s : Ar) (q_aside : Ar) (q_before : Ar) (q_known : Int32) (q_slots : Ar) (q_isSaved : Ar) (q_pad : Ar) (q_length : Int32) (q_letters : Ar) (q_heats : Ar) (q_reactions : Int32) (q_newSplits : Int32) (q_storiesThen : Int32) (q_heatThen : Int32) (q_place : Int32) (q_isWrong : Int32) (q_toldLetter : Ar) (q_toldHeat : Ar) (q_toldStory : Ar) (q_toldWords : Int32) (q_toldStories : Int32) (p1 : Int32) (p2 : Int32) (q_s_o : Ar) (hf : f_X4_split Fu q_s p1 p2 = some (q_s_o)) : MV l yX4_split wsX4_split 0 0 [.ref (a 0), .int p1, .int p2] D y (w_X4 y a q_s q_aside q_before q_known q_slots q_isSaved q_pad q_length q_letters q_heats q_reactions q_newSplits q_storiesThen q_heatThen q_place q_isWrong q_toldLetter q_toldHeat q_toldStory q_toldWords q_toldStories) sz (w_X4 y a q_s_o q_aside q_before q_known q_slots q_isSaved q_pad q_length q_letters q_heats q_reactions q_newSplits q_storiesThen q_heatThen q_place q_isWrong q_toldLetter q_toldHeat q_toldStory q_toldWords q_toldStories) := by
  refine M_v (cc := cX4_split) (maxL := 4) (own := RX4) (by decide) rfl rfl (Nat.le_of_ble_eq_true rfl) ?_
  intro p e s m args below meth c A Q F hK hA H locs hG hret ls hl
  have hx := F.1
  have hb := F.2.1
  have hl : lv_has ls 4 [(0, .ref (a 0)), (1, .int p1), (2, .int p2)] := hl
  have k0 := F.2.2.2.2 (.fieldLink RX4 7 "HeatedStoriesModel" "s" "[I") (List.mem_of_getElem? (i := 1) rfl)
  have k1 : ∀ w ∈ wsX40, w ∈ wsX4_split := (fun w h => List.mem_cons_of_mem _ (List.mem_append_right _ (h)))
  unfold f_X4_split at hf
  refine lv_aload_n hx hb dX4_split_0 rfl (lv_at hl 0 rfl) ?_
  refine w_get4 F hK hG k1 0 rfl 0 (by decide) k0 rfl dX4_split_1 ?_
  refine lv_iconst (v := nI 3) hx hb dX4_split_4 rfl ?_
  refine w_ialdk F hK hG 1 rfl (Nat.le_of_ble_eq_true rfl) (Nat.le_of_ble_eq_true rfl) dX4_split_5 ?_
  refine lv_istore_n (lv' := [(3, .int (q_s 3)), (0, .ref (a 0)), (1, .int p1), (2, .int p2)]) hx hb dX4_split_6 rfl hl (by decide) rfl (fun ls hl => ?_)
  obtain ⟨k_7, ek_7, hf⟩ := jn_e hf
  have hk_7 : ∀ (q_s_13 : Ar) (H : Heap) (locs : List Loc) (ls : Array Slot), k_7 q_s_13 = some (q_s_o) → GG D A s.heap (w_X4 y a q_s_13 q_aside q_before q_known q_slots q_isSaved q_pad q_length q_letters q_heats q_reactions q_newSplits q_storiesThen q_heatThen q_place q_isWrong q_toldLetter q_toldHeat q_toldStory q_toldWords q_toldStories) H locs → lv_has ls 4 [(0, .ref (a 0)), (1, .int p1), (2, .int p2)] → W p l e (RM 0 0) s m args below meth c H locs 0 0 Q (F0 m 80 ls []) := by
    intro q_s_13 H locs ls hf hG hl
    rw [ek_7] at hf
    refine lv_aload_n hx hb dX4_split_80 rfl (lv_at hl 0 rfl) ?_
    refine w_get4 F hK hG k1 0 rfl 0 (by decide) k0 rfl dX4_split_81 ?_
    refine lv_bipush (v := nI 9) hx hb dX4_split_84 rfl ?_
    refine lv_iload_n hx hb dX4_split_86 rfl (lv_at hl 1 rfl) ?_
    refine lv_iadd hx hb dX4_split_87 ?_
    refine lv_iconst (v := nI 1) hx hb dX4_split_88 rfl ?_
    refine lv_iadd hx hb dX4_split_89 ?_
    refine lv_aload_n hx hb dX4_split_90 rfl (lv_at hl 0 rfl) ?_
    refine w_get4 F hK hG k1 0 rfl 0 (by decide) k0 rfl dX4_split_91 ?_
    refine lv_bipush (v := nI 9) hx hb dX4_split_94 rfl ?_
    refine lv_iload_n hx hb dX4_split_96 rfl (lv_at hl 1 rfl) ?_
    refine lv_iadd hx hb dX4_split_97 ?_
    obtain ⟨g14, hf⟩ := gd_e hf
    refine w_iald F hK hG 1 rfl g14 dX4_split_98 ?_
    refine lv_iload_n hx hb dX4_split_99 rfl (lv_at hl 2 rfl) ?_
    refine lv_isub hx hb dX4_split_100 ?_
    obtain ⟨g15, hf⟩ := gd_e hf
    refine w_iast F hK hG 1 rfl g15 (w_X4 y a (upd q_s_13 (((nI 9) + p1) + (nI 1)).toNatClampNeg ((q_s_13 ((nI 9) + p1).toNatClampNeg) - p2)) q_aside q_before q_known q_slots q_isSaved q_pad q_length q_letters q_heats q_reactions q_newSplits q_storiesThen q_heatThen q_place q_isWrong q_toldLetter q_toldHeat q_toldStory q_toldWords q_toldStories) rfl dX4_split_101 (fun H locs hG => ?_)
    obtain ⟨q_s_16, eq_s_16, hf⟩ := nm_o hf
    rw [← eq_s_16] at hG
    refine lv_aload_n hx hb dX4_split_102 rfl (lv_at hl 0 rfl) ?_
    refine w_get4 F hK hG k1 0 rfl 0 (by decide) k0 rfl dX4_split_103 ?_
    refine lv_bipush (v := nI 9) hx hb dX4_split_106 rfl ?_
    refine lv_iload_n hx hb dX4_split_108 rfl (lv_at hl 1 rfl) ?_
    refine lv_iadd hx hb dX4_split_109 ?_
    refine lv_iload_n hx hb dX4_split_110 rfl (lv_at hl 2 rfl) ?_
    obtain ⟨g17, hf⟩ := gd_e hf
    refine w_iast F hK hG 1 rfl g17 (w_X4 y a (upd q_s_16 ((nI 9) + p1).toNatClampNeg p2) q_aside q_before q_known q_slots q_isSaved q_pad q_length q_letters q_heats q_reactions q_newSplits q_storiesThen q_heatThen q_place q_isWrong q_toldLetter q_toldHeat q_toldStory q_toldWords q_toldStories) rfl dX4_split_111 (fun H locs hG => ?_)
    refine lv_aload_n hx hb dX4_split_112 rfl (lv_at hl 0 rfl) ?_
    refine w_get4 F hK hG k1 0 rfl 0 (by decide) k0 rfl dX4_split_113 ?_
    refine lv_bipush (v := nI 21) hx hb dX4_split_116 rfl ?_
    refine lv_iload_n hx hb dX4_split_118 rfl (lv_at hl 1 rfl) ?_
    refine lv_iadd hx hb dX4_split_119 ?_
    refine lv_iconst (v := nI 1) hx hb dX4_split_120 rfl ?_
    refine lv_iadd hx hb dX4_split_121 ?_
    refine lv_aload_n hx hb dX4_split_122 rfl (lv_at hl 0 rfl) ?_
    refine w_get4 F hK hG k1 0 rfl 0 (by decide) k0 rfl dX4_split_123 ?_
    refine lv_bipush (v := nI 21) hx hb dX4_split_126 rfl ?_
    refine lv_iload_n hx hb dX4_split_128 rfl (lv_at hl 1 rfl) ?_
    refine lv_iadd hx hb dX4_split_129 ?_
    obtain ⟨g18, hf⟩ := gd_e hf
    refine w_iald F hK hG 1 rfl g18 dX4_split_130 ?_
    obtain ⟨g19, hf⟩ := gd_e hf
    refine w_iast F hK hG 1 rfl g19 (w_X4 y a (upd (upd q_s_16 ((nI 9) + p1).toNatClampNeg p2) (((nI 21) + p1) + (nI 1)).toNatClampNeg ((upd q_s_16 ((nI 9) + p1).toNatClampNeg p2) ((nI 21) + p1).toNatClampNeg)) q_aside q_before q_known q_slots q_isSaved q_pad q_length q_letters q_heats q_reactions q_newSplits q_storiesThen q_heatThen q_place q_isWrong q_toldLetter q_toldHeat q_toldStory q_toldWords q_toldStories) rfl dX4_split_131 (fun H locs hG => ?_)
    obtain ⟨q_s_20, eq_s_20, hf⟩ := nm_o hf
    rw [← eq_s_20] at hG
    refine lv_aload_n hx hb dX4_split_132 rfl (lv_at hl 0 rfl) ?_
    refine w_get4 F hK hG k1 0 rfl 0 (by decide) k0 rfl dX4_split_133 ?_
    refine lv_bipush (v := nI 33) hx hb dX4_split_136 rfl ?_
    refine lv_iload_n hx hb dX4_split_138 rfl (lv_at hl 1 rfl) ?_
    refine lv_iadd hx hb dX4_split_139 ?_
    refine lv_iconst (v := nI 1) hx hb dX4_split_140 rfl ?_
    refine lv_iadd hx hb dX4_split_141 ?_
    refine lv_aload_n hx hb dX4_split_142 rfl (lv_at hl 0 rfl) ?_
    refine w_get4 F hK hG k1 0 rfl 0 (by decide) k0 rfl dX4_split_143 ?_
    refine lv_bipush (v := nI 33) hx hb dX4_split_146 rfl ?_
    refine lv_iload_n hx hb dX4_split_148 rfl (lv_at hl 1 rfl) ?_
    refine lv_iadd hx hb dX4_split_149 ?_
    obtain ⟨g21, hf⟩ := gd_e hf
    refine w_iald F hK hG 1 rfl g21 dX4_split_150 ?_
    refine lv_iconst (v := nI 1) hx hb dX4_split_151 rfl ?_
    refine lv_iadd hx hb dX4_split_152 ?_
    obtain ⟨g22, hf⟩ := gd_e hf
    refine w_iast F hK hG 1 rfl g22 (w_X4 y a (upd q_s_20 (((nI 33) + p1) + (nI 1)).toNatClampNeg ((q_s_20 ((nI 33) + p1).toNatClampNeg) + (nI 1))) q_aside q_before q_known q_slots q_isSaved q_pad q_length q_letters q_heats q_reactions q_newSplits q_storiesThen q_heatThen q_place q_isWrong q_toldLetter q_toldHeat q_toldStory q_toldWords q_toldStories) rfl dX4_split_153 (fun H locs hG => ?_)
    obtain ⟨q_s_23, eq_s_23, hf⟩ := nm_o hf
    rw [← eq_s_23] at hG
    refine lv_aload_n hx hb dX4_split_154 rfl (lv_at hl 0 rfl) ?_
    refine w_get4 F hK hG k1 0 rfl 0 (by decide) k0 rfl dX4_split_155 ?_
    refine lv_iconst (v := nI 3) hx hb dX4_split_158 rfl ?_
    refine lv_dup2_11 hx hb dX4_split_159 rfl rfl ?_
    refine w_ialdk F hK hG 1 rfl (Nat.le_of_ble_eq_true rfl) (Nat.le_of_ble_eq_true rfl) dX4_split_160 ?_
    refine lv_iconst (v := nI 1) hx hb dX4_split_161 rfl ?_
    refine lv_iadd hx hb dX4_split_162 ?_
    refine w_iastk F hK hG 1 rfl (Nat.le_of_ble_eq_true rfl) (Nat.le_of_ble_eq_true rfl) (w_X4 y a (upd q_s_23 3 ((q_s_23 3) + (nI 1))) q_aside q_before q_known q_slots q_isSaved q_pad q_length q_letters q_heats q_reactions q_newSplits q_storiesThen q_heatThen q_place q_isWrong q_toldLetter q_toldHeat q_toldStory q_toldWords q_toldStories) rfl dX4_split_163 (fun H locs hG => ?_)
    have hf := so_e hf
    have e0 : (upd q_s_23 3 ((q_s_23 3) + (nI 1))) = q_s_o := hf
    exact hret _ _ _ _ (by rw [← e0]; exact hG) dX4_split_164
  have hL7 : ∀ (fu : Nat) (x1 : Int32) (q_s_2 : Ar) (H : Heap) (locs : List Loc) (ls : Array Slot), f_X4_split_L7 Fu k_7 p1 fu x1 q_s_2 = some (q_s_o) → GG D A s.heap (w_X4 y a q_s_2 q_aside q_before q_known q_slots q_isSaved q_pad q_length q_letters q_heats q_reactions q_newSplits q_storiesThen q_heatThen q_place q_isWrong q_toldLetter q_toldHeat q_toldStory q_toldWords q_toldStories) H locs → lv_has ls 4 [(0, .ref (a 0)), (1, .int p1), (2, .int p2), (3, .int x1)] → W p l e (RM 0 0) s m args below meth c H locs 0 0 Q (F0 m 7 ls []) := by
    intro fu
    induction fu with
    | zero => intro x1 q_s_2 H locs ls hf hG hl; exact no_e hf
    | succ fu ih =>
      intro x1 q_s_2 H locs ls hf hG hl
      rw [f_X4_split_L7_s] at hf
      refine lv_iload_n hx hb dX4_split_7 rfl (lv_at hl 3 rfl) ?_
      refine lv_iload_n hx hb dX4_split_8 rfl (lv_at hl 1 rfl) ?_
      refine lv_iconst (v := nI 1) hx hb dX4_split_9 rfl ?_
      refine lv_iadd hx hb dX4_split_10 ?_
      refine lv_icmp_le (tgt := 80) hx hb dX4_split_11 (by decide) (fun c3 => ?_) (fun c3 => ?_)
      · have hf := it_e c3 hf
        exact hk_7 q_s_2 _ _ ls hf hG (lv_sub hl [0, 1, 2] rfl)
      · have hf := if_e c3 hf
        refine lv_aload_n hx hb dX4_split_14 rfl (lv_at hl 0 rfl) ?_
        refine w_get4 F hK hG k1 0 rfl 0 (by decide) k0 rfl dX4_split_15 ?_
        refine lv_bipush (v := nI 9) hx hb dX4_split_18 rfl ?_
        refine lv_iload_n hx hb dX4_split_20 rfl (lv_at hl 3 rfl) ?_
        refine lv_iadd hx hb dX4_split_21 ?_
        refine lv_aload_n hx hb dX4_split_22 rfl (lv_at hl 0 rfl) ?_
        refine w_get4 F hK hG k1 0 rfl 0 (by decide) k0 rfl dX4_split_23 ?_
        refine lv_bipush (v := nI 9) hx hb dX4_split_26 rfl ?_
        refine lv_iload_n hx hb dX4_split_28 rfl (lv_at hl 3 rfl) ?_
        refine lv_iadd hx hb dX4_split_29 ?_
        refine lv_iconst (v := nI 1) hx hb dX4_split_30 rfl ?_
        refine lv_isub hx hb dX4_split_31 ?_
        obtain ⟨g4, hf⟩ := gd_e hf
        refine w_iald F hK hG 1 rfl g4 dX4_split_32 ?_
        obtain ⟨g5, hf⟩ := gd_e hf
        refine w_iast F hK hG 1 rfl g5 (w_X4 y a (upd q_s_2 ((nI 9) + x1).toNatClampNeg (q_s_2 (((nI 9) + x1) - (nI 1)).toNatClampNeg)) q_aside q_before q_known q_slots q_isSaved q_pad q_length q_letters q_heats q_reactions q_newSplits q_storiesThen q_heatThen q_place q_isWrong q_toldLetter q_toldHeat q_toldStory q_toldWords q_toldStories) rfl dX4_split_33 (fun H locs hG => ?_)
        obtain ⟨q_s_6, eq_s_6, hf⟩ := nm_o hf
        rw [← eq_s_6] at hG
        refine lv_aload_n hx hb dX4_split_34 rfl (lv_at hl 0 rfl) ?_
        refine w_get4 F hK hG k1 0 rfl 0 (by decide) k0 rfl dX4_split_35 ?_
        refine lv_bipush (v := nI 21) hx hb dX4_split_38 rfl ?_
        refine lv_iload_n hx hb dX4_split_40 rfl (lv_at hl 3 rfl) ?_
        refine lv_iadd hx hb dX4_split_41 ?_
        refine lv_aload_n hx hb dX4_split_42 rfl (lv_at hl 0 rfl) ?_
        refine w_get4 F hK hG k1 0 rfl 0 (by decide) k0 rfl dX4_split_43 ?_
        refine lv_bipush (v := nI 21) hx hb dX4_split_46 rfl ?_
        refine lv_iload_n hx hb dX4_split_48 rfl (lv_at hl 3 rfl) ?_
        refine lv_iadd hx hb dX4_split_49 ?_
        refine lv_iconst (v := nI 1) hx hb dX4_split_50 rfl ?_
        refine lv_isub hx hb dX4_split_51 ?_
        obtain ⟨g7, hf⟩ := gd_e hf
        refine w_iald F hK hG 1 rfl g7 dX4_split_52 ?_
        obtain ⟨g8, hf⟩ := gd_e hf
        refine w_iast F hK hG 1 rfl g8 (w_X4 y a (upd q_s_6 ((nI 21) + x1).toNatClampNeg (q_s_6 (((nI 21) + x1) - (nI 1)).toNatClampNeg)) q_aside q_before q_known q_slots q_isSaved q_pad q_length q_letters q_heats q_reactions q_newSplits q_storiesThen q_heatThen q_place q_isWrong q_toldLetter q_toldHeat q_toldStory q_toldWords q_toldStories) rfl dX4_split_53 (fun H locs hG => ?_)
        obtain ⟨q_s_9, eq_s_9, hf⟩ := nm_o hf
        rw [← eq_s_9] at hG
        refine lv_aload_n hx hb dX4_split_54 rfl (lv_at hl 0 rfl) ?_
        refine w_get4 F hK hG k1 0 rfl 0 (by decide) k0 rfl dX4_split_55 ?_
        refine lv_bipush (v := nI 33) hx hb dX4_split_58 rfl ?_
        refine lv_iload_n hx hb dX4_split_60 rfl (lv_at hl 3 rfl) ?_
        refine lv_iadd hx hb dX4_split_61 ?_
        refine lv_aload_n hx hb dX4_split_62 rfl (lv_at hl 0 rfl) ?_
        refine w_get4 F hK hG k1 0 rfl 0 (by decide) k0 rfl dX4_split_63 ?_
        refine lv_bipush (v := nI 33) hx hb dX4_split_66 rfl ?_
        refine lv_iload_n hx hb dX4_split_68 rfl (lv_at hl 3 rfl) ?_
        refine lv_iadd hx hb dX4_split_69 ?_
        refine lv_iconst (v := nI 1) hx hb dX4_split_70 rfl ?_
        refine lv_isub hx hb dX4_split_71 ?_
        obtain ⟨g10, hf⟩ := gd_e hf
        refine w_iald F hK hG 1 rfl g10 dX4_split_72 ?_
        obtain ⟨g11, hf⟩ := gd_e hf
        refine w_iast F hK hG 1 rfl g11 (w_X4 y a (upd q_s_9 ((nI 33) + x1).toNatClampNeg (q_s_9 (((nI 33) + x1) - (nI 1)).toNatClampNeg)) q_aside q_before q_known q_slots q_isSaved q_pad q_length q_letters q_heats q_reactions q_newSplits q_storiesThen q_heatThen q_place q_isWrong q_toldLetter q_toldHeat q_toldStory q_toldWords q_toldStories) rfl dX4_split_73 (fun H locs hG => ?_)
        obtain ⟨q_s_12, eq_s_12, hf⟩ := nm_o hf
        rw [← eq_s_12] at hG
        refine lv_iinc (v := x1 + (-1)) (lv' := [(3, .int (x1 + (-1))), (0, .ref (a 0)), (1, .int p1), (2, .int p2)]) hx hb dX4_split_74 hl (k := 3) rfl rfl (by decide) rfl (fun ls hl => ?_)
        refine lv_goto (tgt := 7) hx hb dX4_split_77 (by decide) ?_
        exact ih (x1 + (-1)) q_s_12 _ _ ls hf hG (lv_sub hl [1, 2, 3, 0] rfl)
  exact hL7 Fu (q_s 3) q_s _ _ ls hf hG (lv_sub hl [1, 2, 3, 0] rfl)
def f_X4_reactOne (Fu : Nat) (q_s : Ar) (p1 : Int32) : Option Ar :=
  bd1 (f_X4_storyOf Fu q_s p1) (fun r1 =>
  bd1 (f_X4_first Fu q_s r1) (fun r3 =>
  gd (ix ((nI 9) + r1) 345) (
  nm (if (p1 - r3) = ((q_s ((nI 9) + r1).toNatClampNeg) - (nI 1)) then (nI 1) else nI 0) (fun v7 =>
  gd (ix ((nI 195) + p1) 345) (
  jn (fun (q_s_16 : Ar) =>
    jn (fun (q_s_21 : Ar) =>
      jn (fun (q_s_26 : Ar) =>
        some (q_s_26))
        (fun j27 =>
        if v7 = 0 then
          bd1 (f_X4_warm Fu q_s_21 (p1 + (nI 1)) (q_s_21 1)) (fun q_s_24 =>
          j27 q_s_24)
        else
          j27 q_s_21))
      (fun j22 =>
      if (p1 - r3) ≤ 0 then
        j22 q_s_16
      else
        bd1 (f_X4_warm Fu q_s_16 (p1 - (nI 1)) (q_s_16 1)) (fun q_s_19 =>
        j22 q_s_19)))
    (fun j17 =>
    if (p1 - r3) = 0 then
      nm ((upd (upd q_s ((nI 195) + p1).toNatClampNeg (nI 0)) 7 (((upd q_s ((nI 195) + p1).toNatClampNeg (nI 0)) 7) + (nI 1)))) (fun (q_s_15 : Ar) =>
      j17 q_s_15)
    else
      if (nI 12) ≤ ((upd q_s ((nI 195) + p1).toNatClampNeg (nI 0)) 3) then
        nm ((upd (upd q_s ((nI 195) + p1).toNatClampNeg (nI 0)) 8 (((upd q_s ((nI 195) + p1).toNatClampNeg (nI 0)) 8) + (nI 1)))) (fun (q_s_11 : Ar) =>
        j17 q_s_11)
      else
        nm ((upd (upd q_s ((nI 195) + p1).toNatClampNeg (nI 0)) 6 (((upd q_s ((nI 195) + p1).toNatClampNeg (nI 0)) 6) + (nI 1)))) (fun (q_s_12 : Ar) =>
        bd1 (f_X4_split Fu q_s_12 r1 (p1 - r3)) (fun q_s_13 =>
        j17 q_s_13))))))))
set_option maxHeartbeats 4000000 in
set_option maxRecDepth 100000 in
theorem c_X4_reactOne (l : Launch) (D : va_G) (y : Nat → ClassId) (a : Nat → Nat) (sz : Nat) (Fu : Nat) (q_s : Ar) (q_aside : Ar) (q_before : Ar) (q_known : Int32) (q_slots : Ar) (q_isSaved : Ar) (q_pad : Ar) (q_length : Int32) (q_letters : Ar) (q_heats : Ar) (q_reactions : Int32) (q_newSplits : Int32) (q_storiesThen : Int32) (q_heatThen : Int32) (q_place : Int32) (q_isWrong : Int32) (q_toldLetter : Ar) (q_toldHeat : Ar) (q_toldStory : Ar) (q_toldWords : Int32) (q_toldStories : Int32) (p1 : Int32) (q_s_o : Ar) (hf : f_X4_reactOne Fu q_s p1 = some (q_s_o)) : MV l yX4_reactOne wsX4_reactOne 1 23 [.ref (a 0), .int p1] D y (w_X4 y a q_s q_aside q_before q_known q_slots q_isSaved q_pad q_length q_letters q_heats q_reactions q_newSplits q_storiesThen q_heatThen q_place q_isWrong q_toldLetter q_toldHeat q_toldStory q_toldWords q_toldStories) sz (w_X4 y a q_s_o q_aside q_before q_known q_slots q_isSaved q_pad q_length q_letters q_heats q_reactions q_newSplits q_storiesThen q_heatThen q_place q_isWrong q_toldLetter q_toldHeat q_toldStory q_toldWords q_toldStories) := by
  refine M_v (cc := cX4_reactOne) (maxL := 5) (own := RX4) (by decide) rfl rfl (Nat.le_of_ble_eq_true rfl) ?_
  intro p e s m args below meth c A Q F hK hA H locs hG hret ls hl
  have hx := F.1
  have hb := F.2.1
  have hl : lv_has ls 5 [(0, .ref (a 0)), (1, .int p1)] := hl
  have k0 := F.2.2.2.2 (.fieldLink RX4 7 "HeatedStoriesModel" "s" "[I") (List.mem_of_getElem? (i := 1) rfl)
  have k1 : ∀ w ∈ wsX40, w ∈ wsX4_reactOne := (fun w h => List.mem_cons_of_mem _ (List.mem_append_right _ (h)))
  unfold f_X4_reactOne at hf
  refine lv_aload_n hx hb dX4_reactOne_0 rfl (lv_at hl 0 rfl) ?_
  refine lv_iload_n hx hb dX4_reactOne_1 rfl (lv_at hl 1 rfl) ?_
  obtain ⟨r1, h2, hf⟩ := bd1_e hf
  refine k_Wi F hK hA hG (c_X4_storyOf l D y a H.size Fu q_s q_aside q_before q_known q_slots q_isSaved q_pad q_length q_letters q_heats q_reactions q_newSplits q_storiesThen q_heatThen q_place q_isWrong q_toldLetter q_toldHeat q_toldStory q_toldWords q_toldStories p1 r1 h2) (cwV 1 F.2.2.2.2 gX4_reactOne_X4_storyOf rfl rfl rfl (by decide +kernel) ⟨Nat.le_of_ble_eq_true rfl, Nat.le_of_ble_eq_true rfl⟩) 0 rfl rfl rfl rfl rfl hl.1 (Nat.le_of_ble_eq_true rfl) dX4_reactOne_2 ⟨Nat.le_refl 0, Nat.le_refl 0⟩ (fun H locs hG => ?_)
  refine lv_istore_n (lv' := [(2, .int r1), (0, .ref (a 0)), (1, .int p1)]) hx hb dX4_reactOne_5 rfl hl (by decide) rfl (fun ls hl => ?_)
  refine lv_iload_n hx hb dX4_reactOne_6 rfl (lv_at hl 2 rfl) ?_
  refine lv_aload_n hx hb dX4_reactOne_7 rfl (lv_at hl 1 rfl) ?_
  refine lv_iload_n hx hb dX4_reactOne_8 rfl (lv_at hl 0 rfl) ?_
  obtain ⟨r3, h4, hf⟩ := bd1_e hf
  refine k_Wi F hK hA hG (c_X4_first l D y a H.size Fu q_s q_aside q_before q_known q_slots q_isSaved q_pad q_length q_letters q_heats q_reactions q_newSplits q_storiesThen q_heatThen q_place q_isWrong q_toldLetter q_toldHeat q_toldStory q_toldWords q_toldStories r1 r3 h4) (cwV 1 F.2.2.2.2 gX4_reactOne_X4_first rfl rfl rfl (by decide +kernel) ⟨Nat.le_of_ble_eq_true rfl, Nat.le_of_ble_eq_true rfl⟩) 0 rfl rfl rfl rfl rfl hl.1 (Nat.le_of_ble_eq_true rfl) dX4_reactOne_9 ⟨Nat.le_refl 0, Nat.le_refl 0⟩ (fun H locs hG => ?_)
  refine lv_isub hx hb dX4_reactOne_12 ?_
  refine lv_istore_n (lv' := [(3, .int (p1 - r3)), (2, .int r1), (0, .ref (a 0)), (1, .int p1)]) hx hb dX4_reactOne_13 rfl hl (by decide) rfl (fun ls hl => ?_)
  refine lv_iload_n hx hb dX4_reactOne_14 rfl (lv_at hl 0 rfl) ?_
  refine lv_aload_n hx hb dX4_reactOne_15 rfl (lv_at hl 2 rfl) ?_
  refine w_get4 F hK hG k1 0 rfl 0 (by decide) k0 rfl dX4_reactOne_16 ?_
  refine lv_bipush (v := nI 9) hx hb dX4_reactOne_19 rfl ?_
  refine lv_iload_n hx hb dX4_reactOne_21 rfl (lv_at hl 1 rfl) ?_
  refine lv_iadd hx hb dX4_reactOne_22 ?_
  obtain ⟨g5, hf⟩ := gd_e hf
  refine w_iald F hK hG 1 rfl g5 dX4_reactOne_23 ?_
  refine lv_iconst (v := nI 1) hx hb dX4_reactOne_24 rfl ?_
  refine lv_isub hx hb dX4_reactOne_25 ?_
  obtain ⟨v7, ev7, hf⟩ := nm_o hf
  have hJ : ∀ (ls : Array Slot), lv_has ls 5 [(0, .ref (a 0)), (1, .int p1), (2, .int r1), (3, .int (p1 - r3))] → W p l e (RM 1 23) s m args below meth c H locs 0 0 Q (F0 m 34 ls [.int v7]) := by
    intro ls hl
    refine lv_istore (lv' := [(4, .int v7), (0, .ref (a 0)), (1, .int p1), (2, .int r1), (3, .int (p1 - r3))]) hx hb dX4_reactOne_34 hl (by decide) rfl (fun ls hl => ?_)
    refine lv_aload_n hx hb dX4_reactOne_36 rfl (lv_at hl 1 rfl) ?_
    refine w_get4 F hK hG k1 0 rfl 0 (by decide) k0 rfl dX4_reactOne_37 ?_
    refine lv_sipush (v := nI 195) hx hb dX4_reactOne_40 rfl ?_
    refine lv_iload_n hx hb dX4_reactOne_43 rfl (lv_at hl 2 rfl) ?_
    refine lv_iadd hx hb dX4_reactOne_44 ?_
    refine lv_iconst (v := nI 0) hx hb dX4_reactOne_45 rfl ?_
    obtain ⟨g8, hf⟩ := gd_e hf
    refine w_iast F hK hG 1 rfl g8 (w_X4 y a (upd q_s ((nI 195) + p1).toNatClampNeg (nI 0)) q_aside q_before q_known q_slots q_isSaved q_pad q_length q_letters q_heats q_reactions q_newSplits q_storiesThen q_heatThen q_place q_isWrong q_toldLetter q_toldHeat q_toldStory q_toldWords q_toldStories) rfl dX4_reactOne_46 (fun H locs hG => ?_)
    refine lv_iload_n hx hb dX4_reactOne_47 rfl (lv_at hl 4 rfl) ?_
    obtain ⟨j17, ej17, hf⟩ := jn_e hf
    have hj17 : ∀ (q_s_16 : Ar) (H : Heap) (locs : List Loc) (ls : Array Slot), j17 q_s_16 = some (q_s_o) → GG D A s.heap (w_X4 y a q_s_16 q_aside q_before q_known q_slots q_isSaved q_pad q_length q_letters q_heats q_reactions q_newSplits q_storiesThen q_heatThen q_place q_isWrong q_toldLetter q_toldHeat q_toldStory q_toldWords q_toldStories) H locs → lv_has ls 5 [(0, .ref (a 0)), (1, .int p1), (3, .int (p1 - r3)), (4, .int v7)] → W p l e (RM 1 23) s m args below meth c H locs 0 0 Q (F0 m 107 ls []) := by
      intro q_s_16 H locs ls hf hG hl
      rw [ej17] at hf
      refine lv_iload_n hx hb dX4_reactOne_107 rfl (lv_at hl 2 rfl) ?_
      obtain ⟨j22, ej22, hf⟩ := jn_e hf
      have hj22 : ∀ (q_s_21 : Ar) (H : Heap) (locs : List Loc) (ls : Array Slot), j22 q_s_21 = some (q_s_o) → GG D A s.heap (w_X4 y a q_s_21 q_aside q_before q_known q_slots q_isSaved q_pad q_length q_letters q_heats q_reactions q_newSplits q_storiesThen q_heatThen q_place q_isWrong q_toldLetter q_toldHeat q_toldStory q_toldWords q_toldStories) H locs → lv_has ls 5 [(0, .ref (a 0)), (1, .int p1), (4, .int v7)] → W p l e (RM 1 23) s m args below meth c H locs 0 0 Q (F0 m 124 ls []) := by
        intro q_s_21 H locs ls hf hG hl
        rw [ej22] at hf
        refine lv_iload hx hb dX4_reactOne_124 (lv_at hl 2 rfl) ?_
        obtain ⟨j27, ej27, hf⟩ := jn_e hf
        have hj27 : ∀ (q_s_26 : Ar) (H : Heap) (locs : List Loc) (ls : Array Slot), j27 q_s_26 = some (q_s_o) → GG D A s.heap (w_X4 y a q_s_26 q_aside q_before q_known q_slots q_isSaved q_pad q_length q_letters q_heats q_reactions q_newSplits q_storiesThen q_heatThen q_place q_isWrong q_toldLetter q_toldHeat q_toldStory q_toldWords q_toldStories) H locs → lv_has ls 5 [] → W p l e (RM 1 23) s m args below meth c H locs 0 0 Q (F0 m 142 ls []) := by
          intro q_s_26 H locs ls hf hG hl
          rw [ej27] at hf
          have hf := so_e hf
          have e0 : q_s_26 = q_s_o := hf
          exact hret _ _ _ _ (by rw [← e0]; exact hG) dX4_reactOne_142
        refine lv_if_ne (tgt := 142) hx hb dX4_reactOne_126 (by decide) (fun c23 => ?_) (fun c23 => ?_)
        · have hf := if_e c23 hf
          exact hj27 q_s_21 _ _ ls hf hG (lv_sub hl [] rfl)
        · have hf := it_e c23 hf
          refine lv_aload_n hx hb dX4_reactOne_129 rfl (lv_at hl 0 rfl) ?_
          refine lv_iload_n hx hb dX4_reactOne_130 rfl (lv_at hl 1 rfl) ?_
          refine lv_iconst (v := nI 1) hx hb dX4_reactOne_131 rfl ?_
          refine lv_iadd hx hb dX4_reactOne_132 ?_
          refine lv_aload_n hx hb dX4_reactOne_133 rfl (lv_at hl 0 rfl) ?_
          refine w_get4 F hK hG k1 0 rfl 0 (by decide) k0 rfl dX4_reactOne_134 ?_
          refine lv_iconst (v := nI 1) hx hb dX4_reactOne_137 rfl ?_
          refine w_ialdk F hK hG 1 rfl (Nat.le_of_ble_eq_true rfl) (Nat.le_of_ble_eq_true rfl) dX4_reactOne_138 ?_
          obtain ⟨q_s_24, h25, hf⟩ := bd1_e hf
          refine k_Wv F hK hA hG (c_X4_warm l D y a H.size Fu q_s_21 q_aside q_before q_known q_slots q_isSaved q_pad q_length q_letters q_heats q_reactions q_newSplits q_storiesThen q_heatThen q_place q_isWrong q_toldLetter q_toldHeat q_toldStory q_toldWords q_toldStories (p1 + (nI 1)) (q_s_21 1) q_s_24 h25) (cwV 2 F.2.2.2.2 gX4_reactOne_X4_warm rfl rfl rfl (by decide +kernel) ⟨Nat.le_of_ble_eq_true rfl, Nat.le_of_ble_eq_true rfl⟩) 0 rfl rfl rfl rfl rfl hl.1 (Nat.le_of_ble_eq_true rfl) dX4_reactOne_139 ⟨Nat.le_refl 0, Nat.le_refl 0⟩ (fun H locs hG => ?_)
          exact hj27 q_s_24 _ _ ls hf hG (lv_sub hl [] rfl)
      refine lv_if_le (tgt := 124) hx hb dX4_reactOne_108 (by decide) (fun c18 => ?_) (fun c18 => ?_)
      · have hf := it_e c18 hf
        exact hj22 q_s_16 _ _ ls hf hG (lv_sub hl [0, 1, 3] rfl)
      · have hf := if_e c18 hf
        refine lv_aload_n hx hb dX4_reactOne_111 rfl (lv_at hl 0 rfl) ?_
        refine lv_iload_n hx hb dX4_reactOne_112 rfl (lv_at hl 1 rfl) ?_
        refine lv_iconst (v := nI 1) hx hb dX4_reactOne_113 rfl ?_
        refine lv_isub hx hb dX4_reactOne_114 ?_
        refine lv_aload_n hx hb dX4_reactOne_115 rfl (lv_at hl 0 rfl) ?_
        refine w_get4 F hK hG k1 0 rfl 0 (by decide) k0 rfl dX4_reactOne_116 ?_
        refine lv_iconst (v := nI 1) hx hb dX4_reactOne_119 rfl ?_
        refine w_ialdk F hK hG 1 rfl (Nat.le_of_ble_eq_true rfl) (Nat.le_of_ble_eq_true rfl) dX4_reactOne_120 ?_
        obtain ⟨q_s_19, h20, hf⟩ := bd1_e hf
        refine k_Wv F hK hA hG (c_X4_warm l D y a H.size Fu q_s_16 q_aside q_before q_known q_slots q_isSaved q_pad q_length q_letters q_heats q_reactions q_newSplits q_storiesThen q_heatThen q_place q_isWrong q_toldLetter q_toldHeat q_toldStory q_toldWords q_toldStories (p1 - (nI 1)) (q_s_16 1) q_s_19 h20) (cwV 2 F.2.2.2.2 gX4_reactOne_X4_warm rfl rfl rfl (by decide +kernel) ⟨Nat.le_of_ble_eq_true rfl, Nat.le_of_ble_eq_true rfl⟩) 0 rfl rfl rfl rfl rfl hl.1 (Nat.le_of_ble_eq_true rfl) dX4_reactOne_121 ⟨Nat.le_refl 0, Nat.le_refl 0⟩ (fun H locs hG => ?_)
        exact hj22 q_s_19 _ _ ls hf hG (lv_sub hl [0, 1, 3] rfl)
    refine lv_if_ne (tgt := 65) hx hb dX4_reactOne_48 (by decide) (fun c9 => ?_) (fun c9 => ?_)
    · have hf := if_e c9 hf
      refine lv_aload_n hx hb dX4_reactOne_65 rfl (lv_at hl 1 rfl) ?_
      refine w_get4 F hK hG k1 0 rfl 0 (by decide) k0 rfl dX4_reactOne_66 ?_
      refine lv_iconst (v := nI 3) hx hb dX4_reactOne_69 rfl ?_
      refine w_ialdk F hK hG 1 rfl (Nat.le_of_ble_eq_true rfl) (Nat.le_of_ble_eq_true rfl) dX4_reactOne_70 ?_
      refine lv_bipush (v := nI 12) hx hb dX4_reactOne_71 rfl ?_
      refine lv_icmp_ge (tgt := 96) hx hb dX4_reactOne_73 (by decide) (fun c10 => ?_) (fun c10 => ?_)
      · have hf := it_e c10 hf
        refine lv_aload_n hx hb dX4_reactOne_96 rfl (lv_at hl 1 rfl) ?_
        refine w_get4 F hK hG k1 0 rfl 0 (by decide) k0 rfl dX4_reactOne_97 ?_
        refine lv_bipush (v := nI 8) hx hb dX4_reactOne_100 rfl ?_
        refine lv_dup2_11 hx hb dX4_reactOne_102 rfl rfl ?_
        refine w_ialdk F hK hG 1 rfl (Nat.le_of_ble_eq_true rfl) (Nat.le_of_ble_eq_true rfl) dX4_reactOne_103 ?_
        refine lv_iconst (v := nI 1) hx hb dX4_reactOne_104 rfl ?_
        refine lv_iadd hx hb dX4_reactOne_105 ?_
        refine w_iastk F hK hG 1 rfl (Nat.le_of_ble_eq_true rfl) (Nat.le_of_ble_eq_true rfl) (w_X4 y a (upd (upd q_s ((nI 195) + p1).toNatClampNeg (nI 0)) 8 (((upd q_s ((nI 195) + p1).toNatClampNeg (nI 0)) 8) + (nI 1))) q_aside q_before q_known q_slots q_isSaved q_pad q_length q_letters q_heats q_reactions q_newSplits q_storiesThen q_heatThen q_place q_isWrong q_toldLetter q_toldHeat q_toldStory q_toldWords q_toldStories) rfl dX4_reactOne_106 (fun H locs hG => ?_)
        obtain ⟨q_s_11, eq_s_11, hf⟩ := nm_o hf
        rw [← eq_s_11] at hG
        exact hj17 q_s_11 _ _ ls hf hG (lv_sub hl [1, 2, 4, 0] rfl)
      · have hf := if_e c10 hf
        refine lv_aload_n hx hb dX4_reactOne_76 rfl (lv_at hl 1 rfl) ?_
        refine w_get4 F hK hG k1 0 rfl 0 (by decide) k0 rfl dX4_reactOne_77 ?_
        refine lv_bipush (v := nI 6) hx hb dX4_reactOne_80 rfl ?_
        refine lv_dup2_11 hx hb dX4_reactOne_82 rfl rfl ?_
        refine w_ialdk F hK hG 1 rfl (Nat.le_of_ble_eq_true rfl) (Nat.le_of_ble_eq_true rfl) dX4_reactOne_83 ?_
        refine lv_iconst (v := nI 1) hx hb dX4_reactOne_84 rfl ?_
        refine lv_iadd hx hb dX4_reactOne_85 ?_
        refine w_iastk F hK hG 1 rfl (Nat.le_of_ble_eq_true rfl) (Nat.le_of_ble_eq_true rfl) (w_X4 y a (upd (upd q_s ((nI 195) + p1).toNatClampNeg (nI 0)) 6 (((upd q_s ((nI 195) + p1).toNatClampNeg (nI 0)) 6) + (nI 1))) q_aside q_before q_known q_slots q_isSaved q_pad q_length q_letters q_heats q_reactions q_newSplits q_storiesThen q_heatThen q_place q_isWrong q_toldLetter q_toldHeat q_toldStory q_toldWords q_toldStories) rfl dX4_reactOne_86 (fun H locs hG => ?_)
        obtain ⟨q_s_12, eq_s_12, hf⟩ := nm_o hf
        rw [← eq_s_12] at hG
        refine lv_aload_n hx hb dX4_reactOne_87 rfl (lv_at hl 1 rfl) ?_
        refine lv_iload_n hx hb dX4_reactOne_88 rfl (lv_at hl 3 rfl) ?_
        refine lv_iload_n hx hb dX4_reactOne_89 rfl (lv_at hl 4 rfl) ?_
        obtain ⟨q_s_13, h14, hf⟩ := bd1_e hf
        refine k_Wv F hK hA hG (c_X4_split l D y a H.size Fu q_s_12 q_aside q_before q_known q_slots q_isSaved q_pad q_length q_letters q_heats q_reactions q_newSplits q_storiesThen q_heatThen q_place q_isWrong q_toldLetter q_toldHeat q_toldStory q_toldWords q_toldStories r1 (p1 - r3) q_s_13 h14) (cwV 2 F.2.2.2.2 gX4_reactOne_X4_split rfl rfl rfl (by decide +kernel) ⟨Nat.le_of_ble_eq_true rfl, Nat.le_of_ble_eq_true rfl⟩) 0 rfl rfl rfl rfl rfl hl.1 (Nat.le_of_ble_eq_true rfl) dX4_reactOne_90 ⟨Nat.le_refl 0, Nat.le_refl 0⟩ (fun H locs hG => ?_)
        refine lv_goto (tgt := 107) hx hb dX4_reactOne_93 (by decide) ?_
        exact hj17 q_s_13 _ _ ls hf hG (lv_sub hl [1, 2, 4, 0] rfl)
    · have hf := it_e c9 hf
      refine lv_aload_n hx hb dX4_reactOne_51 rfl (lv_at hl 1 rfl) ?_
      refine w_get4 F hK hG k1 0 rfl 0 (by decide) k0 rfl dX4_reactOne_52 ?_
      refine lv_bipush (v := nI 7) hx hb dX4_reactOne_55 rfl ?_
      refine lv_dup2_11 hx hb dX4_reactOne_57 rfl rfl ?_
      refine w_ialdk F hK hG 1 rfl (Nat.le_of_ble_eq_true rfl) (Nat.le_of_ble_eq_true rfl) dX4_reactOne_58 ?_
      refine lv_iconst (v := nI 1) hx hb dX4_reactOne_59 rfl ?_
      refine lv_iadd hx hb dX4_reactOne_60 ?_
      refine w_iastk F hK hG 1 rfl (Nat.le_of_ble_eq_true rfl) (Nat.le_of_ble_eq_true rfl) (w_X4 y a (upd (upd q_s ((nI 195) + p1).toNatClampNeg (nI 0)) 7 (((upd q_s ((nI 195) + p1).toNatClampNeg (nI 0)) 7) + (nI 1))) q_aside q_before q_known q_slots q_isSaved q_pad q_length q_letters q_heats q_reactions q_newSplits q_storiesThen q_heatThen q_place q_isWrong q_toldLetter q_toldHeat q_toldStory q_toldWords q_toldStories) rfl dX4_reactOne_61 (fun H locs hG => ?_)
      obtain ⟨q_s_15, eq_s_15, hf⟩ := nm_o hf
      rw [← eq_s_15] at hG
      refine lv_goto (tgt := 107) hx hb dX4_reactOne_62 (by decide) ?_
      exact hj17 q_s_15 _ _ ls hf hG (lv_sub hl [1, 2, 4, 0] rfl)
  refine lv_icmp_ne (tgt := 33) hx hb dX4_reactOne_26 (by decide) (fun c6 => ?_) (fun c6 => ?_)
  · refine lv_iconst (v := nI 0) hx hb dX4_reactOne_33 rfl ?_
    have qv7 := (ev7.trans (if_neg c6))
    subst qv7
    exact hJ ls (lv_sub hl [2, 3, 1, 0] rfl)
  · refine lv_iconst (v := nI 1) hx hb dX4_reactOne_29 rfl ?_
    refine lv_goto (tgt := 34) hx hb dX4_reactOne_30 (by decide) ?_
    have qv7 := (ev7.trans (if_pos c6))
    subst qv7
    exact hJ ls (lv_sub hl [2, 3, 1, 0] rfl)
def f_X4_react_L4 (Fu : Nat) (k_4 : Int32 → Ar → Option (Int32 × Ar)) : Nat → Int32 → Int32 → Ar → Option (Int32 × Ar)
  | 0, _, _, _ => none
  | fu + 1, x1, x2, q_s_3 =>
    if (q_s_3 4) ≤ x2 then
      k_4 x1 q_s_3
    else
      gd (ix ((nI 195) + x2) 345) (
      if (q_s_3 ((nI 195) + x2).toNatClampNeg) < (q_s_3 0) then
        f_X4_react_L4 Fu k_4 fu x1 (x2 + (nI 1)) q_s_3
      else
        bd1 (f_X4_reactOne Fu q_s_3 x2) (fun q_s_7 =>
        f_X4_react_L4 Fu k_4 fu (x1 + (nI 1)) (nI 0) q_s_7))
theorem f_X4_react_L4_s (Fu : Nat) (k_4 : Int32 → Ar → Option (Int32 × Ar)) (fu : Nat) (x1 : Int32) (x2 : Int32) (q_s_3 : Ar) : f_X4_react_L4 Fu k_4 (fu + 1) x1 x2 q_s_3 =
    if (q_s_3 4) ≤ x2 then
      k_4 x1 q_s_3
    else
      gd (ix ((nI 195) + x2) 345) (
      if (q_s_3 ((nI 195) + x2).toNatClampNeg) < (q_s_3 0) then
        f_X4_react_L4 Fu k_4 fu x1 (x2 + (nI 1)) q_s_3
      else
        bd1 (f_X4_reactOne Fu q_s_3 x2) (fun q_s_7 =>
        f_X4_react_L4 Fu k_4 fu (x1 + (nI 1)) (nI 0) q_s_7)) := rfl
def f_X4_react (Fu : Nat) (q_s : Ar) : Option (Int32 × Ar) :=
  jn (fun (v9 : Int32) (q_s_10 : Ar) =>
    some (v9, q_s_10))
    (fun k_4 => f_X4_react_L4 Fu k_4 Fu (nI 0) (nI 0) q_s)
set_option maxHeartbeats 4000000 in
set_option maxRecDepth 100000 in
theorem c_X4_react (l : Launch) (D : va_G) (y : Nat → ClassId) (a : Nat → Nat) (sz : Nat) (Fu : Nat) (q_s : Ar) (q_aside : Ar) (q_before : Ar) (q_known : Int32) (q_slots : Ar) (q_isSaved : Ar) (q_pad : Ar) (q_length : Int32) (q_letters : Ar) (q_heats : Ar) (q_reactions : Int32) (q_newSplits : Int32) (q_storiesThen : Int32) (q_heatThen : Int32) (q_place : Int32) (q_isWrong : Int32) (q_toldLetter : Ar) (q_toldHeat : Ar) (q_toldStory : Ar) (q_toldWords : Int32) (q_toldStories : Int32) (ro : Int32) (q_s_o : Ar) (hf : f_X4_react Fu q_s = some (ro, q_s_o)) : MI l yX4_react wsX4_react 2 47 [.ref (a 0)] D y (w_X4 y a q_s q_aside q_before q_known q_slots q_isSaved q_pad q_length q_letters q_heats q_reactions q_newSplits q_storiesThen q_heatThen q_place q_isWrong q_toldLetter q_toldHeat q_toldStory q_toldWords q_toldStories) sz ro (w_X4 y a q_s_o q_aside q_before q_known q_slots q_isSaved q_pad q_length q_letters q_heats q_reactions q_newSplits q_storiesThen q_heatThen q_place q_isWrong q_toldLetter q_toldHeat q_toldStory q_toldWords q_toldStories) := by
  refine M_i (cc := cX4_react) (maxL := 3) (own := RX4) (by decide) rfl rfl (Nat.le_of_ble_eq_true rfl) ?_
  intro p e s m args below meth c A Q F hK hA H locs hG hret ls hl
  have hx := F.1
  have hb := F.2.1
  have hl : lv_has ls 3 [(0, .ref (a 0))] := hl
  have k0 := F.2.2.2.2 (.fieldLink RX4 7 "HeatedStoriesModel" "s" "[I") (List.mem_of_getElem? (i := 1) rfl)
  have k1 : ∀ w ∈ wsX40, w ∈ wsX4_react := (fun w h => List.mem_cons_of_mem _ (List.mem_append_right _ (h)))
  unfold f_X4_react at hf
  refine lv_iconst (v := nI 0) hx hb dX4_react_0 rfl ?_
  refine lv_istore_n (lv' := [(1, .int (nI 0)), (0, .ref (a 0))]) hx hb dX4_react_1 rfl hl (by decide) rfl (fun ls hl => ?_)
  refine lv_iconst (v := nI 0) hx hb dX4_react_2 rfl ?_
  refine lv_istore_n (lv' := [(2, .int (nI 0)), (1, .int (nI 0)), (0, .ref (a 0))]) hx hb dX4_react_3 rfl hl (by decide) rfl (fun ls hl => ?_)
  obtain ⟨k_4, ek_4, hf⟩ := jn_e hf
  have hk_4 : ∀ (v9 : Int32) (q_s_10 : Ar) (H : Heap) (locs : List Loc) (ls : Array Slot), k_4 v9 q_s_10 = some (ro, q_s_o) → GG D A s.heap (w_X4 y a q_s_10 q_aside q_before q_known q_slots q_isSaved q_pad q_length q_letters q_heats q_reactions q_newSplits q_storiesThen q_heatThen q_place q_isWrong q_toldLetter q_toldHeat q_toldStory q_toldWords q_toldStories) H locs → lv_has ls 3 [(1, .int v9)] → W p l e (RM 2 47) s m args below meth c H locs 0 0 Q (F0 m 52 ls []) := by
    intro v9 q_s_10 H locs ls hf hG hl
    rw [ek_4] at hf
    refine lv_iload_n hx hb dX4_react_52 rfl (lv_at hl 0 rfl) ?_
    have hf := so_e hf
    have e0 : v9 = ro := congrArg (fun z => z.1) hf
    have e1 : q_s_10 = q_s_o := congrArg (fun z => z.2) hf
    exact hret _ _ _ _ _ e0 (by rw [← e1]; exact hG) dX4_react_53
  have hL4 : ∀ (fu : Nat) (x1 : Int32) (x2 : Int32) (q_s_3 : Ar) (H : Heap) (locs : List Loc) (ls : Array Slot), f_X4_react_L4 Fu k_4 fu x1 x2 q_s_3 = some (ro, q_s_o) → GG D A s.heap (w_X4 y a q_s_3 q_aside q_before q_known q_slots q_isSaved q_pad q_length q_letters q_heats q_reactions q_newSplits q_storiesThen q_heatThen q_place q_isWrong q_toldLetter q_toldHeat q_toldStory q_toldWords q_toldStories) H locs → lv_has ls 3 [(0, .ref (a 0)), (1, .int x1), (2, .int x2)] → W p l e (RM 2 47) s m args below meth c H locs 0 0 Q (F0 m 4 ls []) := by
    intro fu
    induction fu with
    | zero => intro x1 x2 q_s_3 H locs ls hf hG hl; exact no_e hf
    | succ fu ih =>
      intro x1 x2 q_s_3 H locs ls hf hG hl
      rw [f_X4_react_L4_s] at hf
      refine lv_iload_n hx hb dX4_react_4 rfl (lv_at hl 2 rfl) ?_
      refine lv_aload_n hx hb dX4_react_5 rfl (lv_at hl 0 rfl) ?_
      refine w_get4 F hK hG k1 0 rfl 0 (by decide) k0 rfl dX4_react_6 ?_
      refine lv_iconst (v := nI 4) hx hb dX4_react_9 rfl ?_
      refine w_ialdk F hK hG 1 rfl (Nat.le_of_ble_eq_true rfl) (Nat.le_of_ble_eq_true rfl) dX4_react_10 ?_
      refine lv_icmp_ge (tgt := 52) hx hb dX4_react_11 (by decide) (fun c4 => ?_) (fun c4 => ?_)
      · have hf := it_e c4 hf
        exact hk_4 x1 q_s_3 _ _ ls hf hG (lv_sub hl [1] rfl)
      · have hf := if_e c4 hf
        refine lv_aload_n hx hb dX4_react_14 rfl (lv_at hl 0 rfl) ?_
        refine w_get4 F hK hG k1 0 rfl 0 (by decide) k0 rfl dX4_react_15 ?_
        refine lv_sipush (v := nI 195) hx hb dX4_react_18 rfl ?_
        refine lv_iload_n hx hb dX4_react_21 rfl (lv_at hl 2 rfl) ?_
        refine lv_iadd hx hb dX4_react_22 ?_
        obtain ⟨g5, hf⟩ := gd_e hf
        refine w_iald F hK hG 1 rfl g5 dX4_react_23 ?_
        refine lv_aload_n hx hb dX4_react_24 rfl (lv_at hl 0 rfl) ?_
        refine w_get4 F hK hG k1 0 rfl 0 (by decide) k0 rfl dX4_react_25 ?_
        refine lv_iconst (v := nI 0) hx hb dX4_react_28 rfl ?_
        refine w_ialdk F hK hG 1 rfl (Nat.le_of_ble_eq_true rfl) (Nat.le_of_ble_eq_true rfl) dX4_react_29 ?_
        refine lv_icmp_lt (tgt := 46) hx hb dX4_react_30 (by decide) (fun c6 => ?_) (fun c6 => ?_)
        · have hf := it_e c6 hf
          refine lv_iinc (v := x2 + (nI 1)) (lv' := [(2, .int (x2 + (nI 1))), (0, .ref (a 0)), (1, .int x1)]) hx hb dX4_react_46 hl (k := 2) rfl rfl (by decide) rfl (fun ls hl => ?_)
          refine lv_goto (tgt := 4) hx hb dX4_react_49 (by decide) ?_
          exact ih x1 (x2 + (nI 1)) q_s_3 _ _ ls hf hG (lv_sub hl [1, 2, 0] rfl)
        · have hf := if_e c6 hf
          refine lv_aload_n hx hb dX4_react_33 rfl (lv_at hl 0 rfl) ?_
          refine lv_iload_n hx hb dX4_react_34 rfl (lv_at hl 2 rfl) ?_
          obtain ⟨q_s_7, h8, hf⟩ := bd1_e hf
          refine k_Wv F hK hA hG (c_X4_reactOne l D y a H.size Fu q_s_3 q_aside q_before q_known q_slots q_isSaved q_pad q_length q_letters q_heats q_reactions q_newSplits q_storiesThen q_heatThen q_place q_isWrong q_toldLetter q_toldHeat q_toldStory q_toldWords q_toldStories x2 q_s_7 h8) (cwV 1 F.2.2.2.2 gX4_react_X4_reactOne rfl rfl rfl (by decide +kernel) ⟨Nat.le_of_ble_eq_true rfl, Nat.le_of_ble_eq_true rfl⟩) 0 rfl rfl rfl rfl rfl hl.1 (Nat.le_of_ble_eq_true rfl) dX4_react_35 ⟨Nat.le_refl 0, Nat.le_refl 0⟩ (fun H locs hG => ?_)
          refine lv_iinc (v := x1 + (nI 1)) (lv' := [(1, .int (x1 + (nI 1))), (0, .ref (a 0)), (2, .int x2)]) hx hb dX4_react_38 hl (k := 1) rfl rfl (by decide) rfl (fun ls hl => ?_)
          refine lv_iconst (v := nI 0) hx hb dX4_react_41 rfl ?_
          refine lv_istore_n (lv' := [(2, .int (nI 0)), (1, .int (x1 + (nI 1))), (0, .ref (a 0))]) hx hb dX4_react_42 rfl hl (by decide) rfl (fun ls hl => ?_)
          refine lv_goto (tgt := 4) hx hb dX4_react_43 (by decide) ?_
          exact ih (x1 + (nI 1)) (nI 0) q_s_7 _ _ ls hf hG (lv_sub hl [2, 1, 0] rfl)
  exact hL4 Fu (nI 0) (nI 0) q_s _ _ ls hf hG (lv_sub hl [2, 1, 0] rfl)
end
