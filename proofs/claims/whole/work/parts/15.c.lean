set_option maxHeartbeats 1000000 in
set_option maxRecDepth 100000 in
theorem c_X3_read (l : Launch) (D : va_G) (y : Nat → ClassId) (a pa na ta ha : Nat → Nat) (hsb : Nat → Nat → Nat) (sl : Nat) (ssb : Nat → Nat → Nat) (sz : Nat) (Fu : Nat) (q_saved : Ar) (q_runs : Ar) (q_themes : Ar) (q_storyHeats : Ar) (p_characters : Ar) (p_length : Int32) (n_settings : Ar) (n_letters : Ar) (n_heats : Ar) (n_starts : Ar) (n_families : Ar) (n_generations : Ar) (n_tally : Ar) (n_stories : Int32) (n_nextFamily : Int32) (n_splits : Int32) (n_boilings : Int32) (n_fizzles : Int32) (t_settings : Ar) (t_letters : Ar) (t_heats : Ar) (t_starts : Ar) (t_families : Ar) (t_generations : Ar) (t_tally : Ar) (t_stories : Int32) (t_nextFamily : Int32) (t_splits : Int32) (t_boilings : Int32) (t_fizzles : Int32) (h_v : (Nat → SV)) (h_oldest : Int32) (h_size : Int32) (s_v : (Nat → SV)) (p1 : Int32) (p2 : Int32) (ro : Int32) (n_heats_o : Ar) (n_starts_o : Ar) (n_families_o : Ar) (n_generations_o : Ar) (n_stories_o : Int32) (n_splits_o : Int32) (n_boilings_o : Int32) (n_fizzles_o : Int32) (h_v_o : (Nat → SV)) (h_oldest_o : Int32) (h_size_o : Int32) (hf : f_X3_read Fu n_settings n_letters n_heats n_starts n_families n_generations n_stories n_nextFamily n_splits n_boilings n_fizzles h_v h_oldest h_size p1 p2 = some (ro, n_heats_o, n_starts_o, n_families_o, n_generations_o, n_stories_o, n_splits_o, n_boilings_o, n_fizzles_o, h_v_o, h_oldest_o, h_size_o)) : MI l yX3_read wsX3_read 4 110 [.ref (a 0), .int p1, .int p2] D y (w_X3 y a pa na ta ha sl q_saved q_runs q_themes q_storyHeats ++ (w_X1 y pa p_characters p_length ++ (w_X2 y na n_settings n_letters n_heats n_starts n_families n_generations n_tally n_stories n_nextFamily n_splits n_boilings n_fizzles ++ (w_X2 y ta t_settings t_letters t_heats t_starts t_families t_generations t_tally t_stories t_nextFamily t_splits t_boilings t_fizzles ++ (w_X0 y ha hsb h_v h_oldest h_size ++ w_SL y sl ssb s_v))))) sz ro (w_X3 y a pa na ta ha sl q_saved q_runs q_themes q_storyHeats ++ (w_X1 y pa p_characters p_length ++ (w_X2 y na n_settings n_letters n_heats_o n_starts_o n_families_o n_generations_o n_tally n_stories_o n_nextFamily n_splits_o n_boilings_o n_fizzles_o ++ (w_X2 y ta t_settings t_letters t_heats t_starts t_families t_generations t_tally t_stories t_nextFamily t_splits t_boilings t_fizzles ++ (w_X0 y ha hsb h_v_o h_oldest_o h_size_o ++ w_SL y sl ssb s_v))))) := by
  refine M_i (cc := cX3_read) (maxL := 4) (own := RX3) (by decide) rfl rfl (Nat.le_of_ble_eq_true rfl) ?_
  intro p e s m args below meth c A Q F hK hA H locs hG hret ls hl
  have hx := F.1
  have hb := F.2.1
  have hl : lv_has ls 4 [(0, .ref (a 0)), (1, .int p1), (2, .int p2)] := hl
  have k0 := F.2.2.2.2 (.fieldLink RX3 10 "HeatedStories" "now" "LHeatedStories$Shelf;") (List.mem_of_getElem? (i := 1) rfl)
  have k1 : ∀ w ∈ wsX30, w ∈ wsX3_read := (fun w h => List.mem_cons_of_mem _ (List.mem_append_left _ (List.mem_append_left _ (List.mem_append_right _ (h)))))
  have k2 := F.2.2.2.2 (.fieldLink RX3 22 "HeatedStories" "history" "LHeatedStories$History;") (List.mem_of_getElem? (i := 2) rfl)
  have k3 := F.2.2.2.2 (.fieldLink RX3 98 "HeatedStories$Shelf" "starts" "[I") (List.mem_of_getElem? (i := 3) rfl)
  have k4 : ∀ w ∈ wsX20, w ∈ wsX3_read := (fun w h => List.mem_cons_of_mem _ (List.mem_append_left _ (List.mem_append_right _ (h))))
  unfold f_X3_read at hf
  refine lv_aload_n hx hb dX3_read_0 rfl (lv_at hl 0 rfl) ?_
  refine w_get3 F hK hG k1 0 rfl 0 (by decide) k0 rfl dX3_read_1 ?_
  refine lv_iload_n hx hb dX3_read_4 rfl (lv_at hl 1 rfl) ?_
  obtain ⟨r1, h2, hf⟩ := bd1_e hf
  have hG : GG D A s.heap ((w_X2 y na n_settings n_letters n_heats n_starts n_families n_generations n_tally n_stories n_nextFamily n_splits n_boilings n_fizzles) ++ (w_X3 y a pa na ta ha sl q_saved q_runs q_themes q_storyHeats ++ (w_X1 y pa p_characters p_length ++ (w_X2 y ta t_settings t_letters t_heats t_starts t_families t_generations t_tally t_stories t_nextFamily t_splits t_boilings t_fizzles ++ (w_X0 y ha hsb h_v h_oldest h_size ++ (w_SL y sl ssb s_v)))))) H locs := GG.blk (fun k => match k with | 0 => w_X3 y a pa na ta ha sl q_saved q_runs q_themes q_storyHeats | 1 => w_X1 y pa p_characters p_length | 2 => w_X2 y na n_settings n_letters n_heats n_starts n_families n_generations n_tally n_stories n_nextFamily n_splits n_boilings n_fizzles | 3 => w_X2 y ta t_settings t_letters t_heats t_starts t_families t_generations t_tally t_stories t_nextFamily t_splits t_boilings t_fizzles | 4 => w_X0 y ha hsb h_v h_oldest h_size | _ => w_SL y sl ssb s_v) [0, 1, 2, 3, 4, 5] [2, 0, 1, 3, 4, 5] (blkp _ _ rfl) _ _ rfl rfl hG
  refine k_Pi F hK hA hG (c_X2_hasStory l D y na H.size Fu n_settings n_letters n_heats n_starts n_families n_generations n_tally n_stories n_nextFamily n_splits n_boilings n_fizzles p1 r1 h2) (cwV 1 F.2.2.2.2 gX3_read_X2_hasStory rfl rfl rfl (by decide +kernel) ⟨Nat.le_of_ble_eq_true rfl, Nat.le_of_ble_eq_true rfl⟩) 0 rfl rfl rfl rfl rfl hl.1 (Nat.le_of_ble_eq_true rfl) dX3_read_5 ⟨Nat.le_refl 0, Nat.le_refl 0⟩ (fun H locs hG => ?_)
  have hG : GG D A s.heap (w_X3 y a pa na ta ha sl q_saved q_runs q_themes q_storyHeats ++ (w_X1 y pa p_characters p_length ++ (w_X2 y na n_settings n_letters n_heats n_starts n_families n_generations n_tally n_stories n_nextFamily n_splits n_boilings n_fizzles ++ (w_X2 y ta t_settings t_letters t_heats t_starts t_families t_generations t_tally t_stories t_nextFamily t_splits t_boilings t_fizzles ++ (w_X0 y ha hsb h_v h_oldest h_size ++ w_SL y sl ssb s_v))))) H locs := GG.blk (fun k => match k with | 0 => w_X3 y a pa na ta ha sl q_saved q_runs q_themes q_storyHeats | 1 => w_X1 y pa p_characters p_length | 2 => w_X2 y na n_settings n_letters n_heats n_starts n_families n_generations n_tally n_stories n_nextFamily n_splits n_boilings n_fizzles | 3 => w_X2 y ta t_settings t_letters t_heats t_starts t_families t_generations t_tally t_stories t_nextFamily t_splits t_boilings t_fizzles | 4 => w_X0 y ha hsb h_v h_oldest h_size | _ => w_SL y sl ssb s_v) [2, 0, 1, 3, 4, 5] [0, 1, 2, 3, 4, 5] (blkp _ _ rfl) _ _ rfl rfl hG
  refine lv_if_ne (tgt := 13) hx hb dX3_read_8 (by decide) (fun c3 => ?_) (fun c3 => ?_)
  · have hf := if_e c3 hf
    refine lv_iload_n hx hb dX3_read_13 rfl (lv_at hl 2 rfl) ?_
    refine lv_iconst (v := nI 1) hx hb dX3_read_14 rfl ?_
    refine lv_bipush (v := nI 50) hx hb dX3_read_15 rfl ?_
    obtain ⟨r4, h5, hf⟩ := bd1_e hf
    refine k_Si F hK hA hG (c_X3_isWithin l D y  H.size Fu  p2 (nI 1) (nI 50) r4 h5) (va_cwS 3 F.2.2.2.2 gX3_read_X3_isWithin rfl rfl rfl (by decide +kernel) ⟨Nat.le_of_ble_eq_true rfl, Nat.le_of_ble_eq_true rfl⟩) rfl rfl hl.1 (Nat.le_of_ble_eq_true rfl) dX3_read_17 ⟨Nat.le_refl 0, Nat.le_refl 0⟩ (fun H locs hG => ?_)
    refine lv_if_ne (tgt := 26) hx hb dX3_read_20 (by decide) (fun c6 => ?_) (fun c6 => ?_)
    · have hf := if_e c6 hf
      refine lv_aload_n hx hb dX3_read_26 rfl (lv_at hl 0 rfl) ?_
      refine w_get3 F hK hG k1 0 rfl 2 (by decide) k2 rfl dX3_read_27 ?_
      refine lv_aload_n hx hb dX3_read_30 rfl (lv_at hl 0 rfl) ?_
      refine w_get3 F hK hG k1 0 rfl 0 (by decide) k0 rfl dX3_read_31 ?_
      obtain ⟨h_v_7, h_oldest_8, h_size_9, h10, hf⟩ := bd3_e hf
      have hG : GG D A s.heap ((w_X0 y ha hsb h_v h_oldest h_size ++ (w_X2 y na n_settings n_letters n_heats n_starts n_families n_generations n_tally n_stories n_nextFamily n_splits n_boilings n_fizzles)) ++ (w_X3 y a pa na ta ha sl q_saved q_runs q_themes q_storyHeats ++ (w_X1 y pa p_characters p_length ++ (w_X2 y ta t_settings t_letters t_heats t_starts t_families t_generations t_tally t_stories t_nextFamily t_splits t_boilings t_fizzles ++ (w_SL y sl ssb s_v))))) H locs := GG.blk (fun k => match k with | 0 => w_X3 y a pa na ta ha sl q_saved q_runs q_themes q_storyHeats | 1 => w_X1 y pa p_characters p_length | 2 => w_X2 y na n_settings n_letters n_heats n_starts n_families n_generations n_tally n_stories n_nextFamily n_splits n_boilings n_fizzles | 3 => w_X2 y ta t_settings t_letters t_heats t_starts t_families t_generations t_tally t_stories t_nextFamily t_splits t_boilings t_fizzles | 4 => w_X0 y ha hsb h_v h_oldest h_size | _ => w_SL y sl ssb s_v) [0, 1, 2, 3, 4, 5] [4, 2, 0, 1, 3, 5] (blkp _ _ rfl) _ _ rfl (List.append_assoc (w_X0 y ha hsb h_v h_oldest h_size) (w_X2 y na n_settings n_letters n_heats n_starts n_families n_generations n_tally n_stories n_nextFamily n_splits n_boilings n_fizzles) (w_X3 y a pa na ta ha sl q_saved q_runs q_themes q_storyHeats ++ (w_X1 y pa p_characters p_length ++ (w_X2 y ta t_settings t_letters t_heats t_starts t_families t_generations t_tally t_stories t_nextFamily t_splits t_boilings t_fizzles ++ (w_SL y sl ssb s_v))))).symm hG
      refine k_Pv F hK hA hG (c_X0_record l D y ha na hsb H.size Fu h_v h_oldest h_size n_settings n_letters n_heats n_starts n_families n_generations n_tally n_stories n_nextFamily n_splits n_boilings n_fizzles h_v_7 h_oldest_8 h_size_9 h10) (cwV 1 F.2.2.2.2 gX3_read_X0_record rfl rfl rfl (by decide +kernel) ⟨Nat.le_of_ble_eq_true rfl, Nat.le_of_ble_eq_true rfl⟩) 0 rfl rfl (adr_app (adr_X0 ..) rfl) rfl rfl hl.1 (Nat.le_of_ble_eq_true rfl) dX3_read_34 ⟨Nat.le_refl 0, Nat.le_refl 0⟩ (fun H locs hG => ?_)
      have hG : GG D A s.heap (w_X3 y a pa na ta ha sl q_saved q_runs q_themes q_storyHeats ++ (w_X1 y pa p_characters p_length ++ (w_X2 y na n_settings n_letters n_heats n_starts n_families n_generations n_tally n_stories n_nextFamily n_splits n_boilings n_fizzles ++ (w_X2 y ta t_settings t_letters t_heats t_starts t_families t_generations t_tally t_stories t_nextFamily t_splits t_boilings t_fizzles ++ (w_X0 y ha hsb h_v_7 h_oldest_8 h_size_9 ++ w_SL y sl ssb s_v))))) H locs := GG.blk (fun k => match k with | 0 => w_X3 y a pa na ta ha sl q_saved q_runs q_themes q_storyHeats | 1 => w_X1 y pa p_characters p_length | 2 => w_X2 y na n_settings n_letters n_heats n_starts n_families n_generations n_tally n_stories n_nextFamily n_splits n_boilings n_fizzles | 3 => w_X2 y ta t_settings t_letters t_heats t_starts t_families t_generations t_tally t_stories t_nextFamily t_splits t_boilings t_fizzles | 4 => w_X0 y ha hsb h_v_7 h_oldest_8 h_size_9 | _ => w_SL y sl ssb s_v) [4, 2, 0, 1, 3, 5] [0, 1, 2, 3, 4, 5] (blkp _ _ rfl) _ _ (List.append_assoc (w_X0 y ha hsb h_v_7 h_oldest_8 h_size_9) (w_X2 y na n_settings n_letters n_heats n_starts n_families n_generations n_tally n_stories n_nextFamily n_splits n_boilings n_fizzles) (w_X3 y a pa na ta ha sl q_saved q_runs q_themes q_storyHeats ++ (w_X1 y pa p_characters p_length ++ (w_X2 y ta t_settings t_letters t_heats t_starts t_families t_generations t_tally t_stories t_nextFamily t_splits t_boilings t_fizzles ++ (w_SL y sl ssb s_v))))) rfl hG
      refine lv_aload_n hx hb dX3_read_37 rfl (lv_at hl 0 rfl) ?_
      refine w_get3 F hK hG k1 0 rfl 0 (by decide) k0 rfl dX3_read_38 ?_
      refine w_get2 F hK hG k4 7 rfl 3 (by decide) k3 rfl dX3_read_41 ?_
      refine lv_iload_n hx hb dX3_read_44 rfl (lv_at hl 1 rfl) ?_
      obtain ⟨g11, hf⟩ := gd_e hf
      refine w_iald F hK hG 11 rfl g11 dX3_read_45 ?_
      refine lv_istore_n (lv' := [(3, .int (n_starts (p1).toNatClampNeg)), (0, .ref (a 0)), (1, .int p1), (2, .int p2)]) hx hb dX3_read_46 rfl hl (by decide) rfl (fun ls hl => ?_)
      obtain ⟨k_47, ek_47, hf⟩ := jn_e hf
      have hk_47 : ∀ (n_heats_18 : Ar) (H : Heap) (locs : List Loc) (ls : Array Slot), k_47 n_heats_18 = some (ro, n_heats_o, n_starts_o, n_families_o, n_generations_o, n_stories_o, n_splits_o, n_boilings_o, n_fizzles_o, h_v_o, h_oldest_o, h_size_o) → GG D A s.heap (w_X3 y a pa na ta ha sl q_saved q_runs q_themes q_storyHeats ++ (w_X1 y pa p_characters p_length ++ (w_X2 y na n_settings n_letters n_heats_18 n_starts n_families n_generations n_tally n_stories n_nextFamily n_splits n_boilings n_fizzles ++ (w_X2 y ta t_settings t_letters t_heats t_starts t_families t_generations t_tally t_stories t_nextFamily t_splits t_boilings t_fizzles ++ (w_X0 y ha hsb h_v_7 h_oldest_8 h_size_9 ++ w_SL y sl ssb s_v))))) H locs → lv_has ls 4 [(0, .ref (a 0))] → W p l e (RM 4 110) s m args below meth c H locs 0 0 Q (F0 m 77 ls []) := by
        intro n_heats_18 H locs ls hf hG hl
        rw [ek_47] at hf
        refine lv_aload_n hx hb dX3_read_77 rfl (lv_at hl 0 rfl) ?_
        refine w_get3 F hK hG k1 0 rfl 0 (by decide) k0 rfl dX3_read_78 ?_
        obtain ⟨r19, n_heats_20, n_starts_21, n_families_22, n_generations_23, n_stories_24, n_splits_25, n_boilings_26, n_fizzles_27, h28, hf⟩ := bd9_e hf
        have hG : GG D A s.heap ((w_X2 y na n_settings n_letters n_heats_18 n_starts n_families n_generations n_tally n_stories n_nextFamily n_splits n_boilings n_fizzles) ++ (w_X3 y a pa na ta ha sl q_saved q_runs q_themes q_storyHeats ++ (w_X1 y pa p_characters p_length ++ (w_X2 y ta t_settings t_letters t_heats t_starts t_families t_generations t_tally t_stories t_nextFamily t_splits t_boilings t_fizzles ++ (w_X0 y ha hsb h_v_7 h_oldest_8 h_size_9 ++ (w_SL y sl ssb s_v)))))) H locs := GG.blk (fun k => match k with | 0 => w_X3 y a pa na ta ha sl q_saved q_runs q_themes q_storyHeats | 1 => w_X1 y pa p_characters p_length | 2 => w_X2 y na n_settings n_letters n_heats_18 n_starts n_families n_generations n_tally n_stories n_nextFamily n_splits n_boilings n_fizzles | 3 => w_X2 y ta t_settings t_letters t_heats t_starts t_families t_generations t_tally t_stories t_nextFamily t_splits t_boilings t_fizzles | 4 => w_X0 y ha hsb h_v_7 h_oldest_8 h_size_9 | _ => w_SL y sl ssb s_v) [0, 1, 2, 3, 4, 5] [2, 0, 1, 3, 4, 5] (blkp _ _ rfl) _ _ rfl rfl hG
        refine k_Pi F hK hA hG (c_X2_react l D y na H.size Fu n_settings n_letters n_heats_18 n_starts n_families n_generations n_tally n_stories n_nextFamily n_splits n_boilings n_fizzles r19 n_heats_20 n_starts_21 n_families_22 n_generations_23 n_stories_24 n_splits_25 n_boilings_26 n_fizzles_27 h28) (cwV 0 F.2.2.2.2 gX3_read_X2_react rfl rfl rfl (by decide +kernel) ⟨Nat.le_of_ble_eq_true rfl, Nat.le_of_ble_eq_true rfl⟩) 0 rfl rfl rfl rfl rfl hl.1 (Nat.le_of_ble_eq_true rfl) dX3_read_81 ⟨Nat.le_refl 0, Nat.le_refl 0⟩ (fun H locs hG => ?_)
        have hG : GG D A s.heap (w_X3 y a pa na ta ha sl q_saved q_runs q_themes q_storyHeats ++ (w_X1 y pa p_characters p_length ++ (w_X2 y na n_settings n_letters n_heats_20 n_starts_21 n_families_22 n_generations_23 n_tally n_stories_24 n_nextFamily n_splits_25 n_boilings_26 n_fizzles_27 ++ (w_X2 y ta t_settings t_letters t_heats t_starts t_families t_generations t_tally t_stories t_nextFamily t_splits t_boilings t_fizzles ++ (w_X0 y ha hsb h_v_7 h_oldest_8 h_size_9 ++ w_SL y sl ssb s_v))))) H locs := GG.blk (fun k => match k with | 0 => w_X3 y a pa na ta ha sl q_saved q_runs q_themes q_storyHeats | 1 => w_X1 y pa p_characters p_length | 2 => w_X2 y na n_settings n_letters n_heats_20 n_starts_21 n_families_22 n_generations_23 n_tally n_stories_24 n_nextFamily n_splits_25 n_boilings_26 n_fizzles_27 | 3 => w_X2 y ta t_settings t_letters t_heats t_starts t_families t_generations t_tally t_stories t_nextFamily t_splits t_boilings t_fizzles | 4 => w_X0 y ha hsb h_v_7 h_oldest_8 h_size_9 | _ => w_SL y sl ssb s_v) [2, 0, 1, 3, 4, 5] [0, 1, 2, 3, 4, 5] (blkp _ _ rfl) _ _ rfl rfl hG
        have hf := so_e hf
        have e0 : r19 = ro := congrArg (fun z => z.1) hf
        have e1 : n_heats_20 = n_heats_o := congrArg (fun z => z.2.1) hf
        have e2 : n_starts_21 = n_starts_o := congrArg (fun z => z.2.2.1) hf
        have e3 : n_families_22 = n_families_o := congrArg (fun z => z.2.2.2.1) hf
        have e4 : n_generations_23 = n_generations_o := congrArg (fun z => z.2.2.2.2.1) hf
        have e5 : n_stories_24 = n_stories_o := congrArg (fun z => z.2.2.2.2.2.1) hf
        have e6 : n_splits_25 = n_splits_o := congrArg (fun z => z.2.2.2.2.2.2.1) hf
        have e7 : n_boilings_26 = n_boilings_o := congrArg (fun z => z.2.2.2.2.2.2.2.1) hf
        have e8 : n_fizzles_27 = n_fizzles_o := congrArg (fun z => z.2.2.2.2.2.2.2.2.1) hf
        have e9 : h_v_7 = h_v_o := congrArg (fun z => z.2.2.2.2.2.2.2.2.2.1) hf
        have e10 : h_oldest_8 = h_oldest_o := congrArg (fun z => z.2.2.2.2.2.2.2.2.2.2.1) hf
        have e11 : h_size_9 = h_size_o := congrArg (fun z => z.2.2.2.2.2.2.2.2.2.2.2) hf
        exact hret _ _ _ _ _ e0 (by rw [← e1, ← e2, ← e3, ← e4, ← e5, ← e6, ← e7, ← e8, ← e9, ← e10, ← e11]; exact hG) dX3_read_84
      have hL47 : ∀ (fu : Nat) (x12 : Int32) (n_heats_13 : Ar) (H : Heap) (locs : List Loc) (ls : Array Slot), f_X3_read_L47 Fu k_47 n_starts p1 p2 fu x12 n_heats_13 = some (ro, n_heats_o, n_starts_o, n_families_o, n_generations_o, n_stories_o, n_splits_o, n_boilings_o, n_fizzles_o, h_v_o, h_oldest_o, h_size_o) → GG D A s.heap (w_X3 y a pa na ta ha sl q_saved q_runs q_themes q_storyHeats ++ (w_X1 y pa p_characters p_length ++ (w_X2 y na n_settings n_letters n_heats_13 n_starts n_families n_generations n_tally n_stories n_nextFamily n_splits n_boilings n_fizzles ++ (w_X2 y ta t_settings t_letters t_heats t_starts t_families t_generations t_tally t_stories t_nextFamily t_splits t_boilings t_fizzles ++ (w_X0 y ha hsb h_v_7 h_oldest_8 h_size_9 ++ w_SL y sl ssb s_v))))) H locs → lv_has ls 4 [(0, .ref (a 0)), (1, .int p1), (2, .int p2), (3, .int x12)] → W p l e (RM 4 110) s m args below meth c H locs 0 0 Q (F0 m 47 ls []) := by
        intro fu
        induction fu with
        | zero => intro x12 n_heats_13 H locs ls hf hG hl; exact no_e hf
        | succ fu ih =>
          intro x12 n_heats_13 H locs ls hf hG hl
          rw [f_X3_read_L47_s] at hf
          refine lv_iload_n hx hb dX3_read_47 rfl (lv_at hl 3 rfl) ?_
          refine lv_aload_n hx hb dX3_read_48 rfl (lv_at hl 0 rfl) ?_
          refine w_get3 F hK hG k1 0 rfl 0 (by decide) k0 rfl dX3_read_49 ?_
          refine w_get2 F hK hG k4 7 rfl 3 (by decide) k3 rfl dX3_read_52 ?_
          refine lv_iload_n hx hb dX3_read_55 rfl (lv_at hl 1 rfl) ?_
          refine lv_iconst (v := nI 1) hx hb dX3_read_56 rfl ?_
          refine lv_iadd hx hb dX3_read_57 ?_
          obtain ⟨g14, hf⟩ := gd_e hf
          refine w_iald F hK hG 11 rfl g14 dX3_read_58 ?_
          refine lv_icmp_ge (tgt := 77) hx hb dX3_read_59 (by decide) (fun c15 => ?_) (fun c15 => ?_)
          · have hf := it_e c15 hf
            exact hk_47 n_heats_13 _ _ ls hf hG (lv_sub hl [0] rfl)
          · have hf := if_e c15 hf
            refine lv_aload_n hx hb dX3_read_62 rfl (lv_at hl 0 rfl) ?_
            refine w_get3 F hK hG k1 0 rfl 0 (by decide) k0 rfl dX3_read_63 ?_
            refine lv_iload_n hx hb dX3_read_66 rfl (lv_at hl 3 rfl) ?_
            refine lv_iload_n hx hb dX3_read_67 rfl (lv_at hl 2 rfl) ?_
            obtain ⟨n_heats_16, h17, hf⟩ := bd1_e hf
            have hG : GG D A s.heap ((w_X2 y na n_settings n_letters n_heats_13 n_starts n_families n_generations n_tally n_stories n_nextFamily n_splits n_boilings n_fizzles) ++ (w_X3 y a pa na ta ha sl q_saved q_runs q_themes q_storyHeats ++ (w_X1 y pa p_characters p_length ++ (w_X2 y ta t_settings t_letters t_heats t_starts t_families t_generations t_tally t_stories t_nextFamily t_splits t_boilings t_fizzles ++ (w_X0 y ha hsb h_v_7 h_oldest_8 h_size_9 ++ (w_SL y sl ssb s_v)))))) H locs := GG.blk (fun k => match k with | 0 => w_X3 y a pa na ta ha sl q_saved q_runs q_themes q_storyHeats | 1 => w_X1 y pa p_characters p_length | 2 => w_X2 y na n_settings n_letters n_heats_13 n_starts n_families n_generations n_tally n_stories n_nextFamily n_splits n_boilings n_fizzles | 3 => w_X2 y ta t_settings t_letters t_heats t_starts t_families t_generations t_tally t_stories t_nextFamily t_splits t_boilings t_fizzles | 4 => w_X0 y ha hsb h_v_7 h_oldest_8 h_size_9 | _ => w_SL y sl ssb s_v) [0, 1, 2, 3, 4, 5] [2, 0, 1, 3, 4, 5] (blkp _ _ rfl) _ _ rfl rfl hG
            refine k_Pv F hK hA hG (c_X2_warm l D y na H.size Fu n_settings n_letters n_heats_13 n_starts n_families n_generations n_tally n_stories n_nextFamily n_splits n_boilings n_fizzles x12 p2 n_heats_16 h17) (cwV 2 F.2.2.2.2 gX3_read_X2_warm rfl rfl rfl (by decide +kernel) ⟨Nat.le_of_ble_eq_true rfl, Nat.le_of_ble_eq_true rfl⟩) 0 rfl rfl rfl rfl rfl hl.1 (Nat.le_of_ble_eq_true rfl) dX3_read_68 ⟨Nat.le_refl 0, Nat.le_refl 0⟩ (fun H locs hG => ?_)
            have hG : GG D A s.heap (w_X3 y a pa na ta ha sl q_saved q_runs q_themes q_storyHeats ++ (w_X1 y pa p_characters p_length ++ (w_X2 y na n_settings n_letters n_heats_16 n_starts n_families n_generations n_tally n_stories n_nextFamily n_splits n_boilings n_fizzles ++ (w_X2 y ta t_settings t_letters t_heats t_starts t_families t_generations t_tally t_stories t_nextFamily t_splits t_boilings t_fizzles ++ (w_X0 y ha hsb h_v_7 h_oldest_8 h_size_9 ++ w_SL y sl ssb s_v))))) H locs := GG.blk (fun k => match k with | 0 => w_X3 y a pa na ta ha sl q_saved q_runs q_themes q_storyHeats | 1 => w_X1 y pa p_characters p_length | 2 => w_X2 y na n_settings n_letters n_heats_16 n_starts n_families n_generations n_tally n_stories n_nextFamily n_splits n_boilings n_fizzles | 3 => w_X2 y ta t_settings t_letters t_heats t_starts t_families t_generations t_tally t_stories t_nextFamily t_splits t_boilings t_fizzles | 4 => w_X0 y ha hsb h_v_7 h_oldest_8 h_size_9 | _ => w_SL y sl ssb s_v) [2, 0, 1, 3, 4, 5] [0, 1, 2, 3, 4, 5] (blkp _ _ rfl) _ _ rfl rfl hG
            refine lv_iinc (v := x12 + (nI 1)) (lv' := [(3, .int (x12 + (nI 1))), (0, .ref (a 0)), (1, .int p1), (2, .int p2)]) hx hb dX3_read_71 hl (k := 3) rfl rfl (by decide) rfl (fun ls hl => ?_)
            refine lv_goto (tgt := 47) hx hb dX3_read_74 (by decide) ?_
            exact ih (x12 + (nI 1)) n_heats_16 _ _ ls hf hG (lv_sub hl [1, 2, 3, 0] rfl)
      exact hL47 Fu (n_starts (p1).toNatClampNeg) n_heats _ _ ls hf hG (lv_sub hl [1, 2, 3, 0] rfl)
    · have hf := it_e c6 hf
      refine lv_bipush (v := -2) hx hb dX3_read_23 rfl ?_
      have hf := so_e hf
      have e0 : (-2) = ro := congrArg (fun z => z.1) hf
      have e1 : n_heats = n_heats_o := congrArg (fun z => z.2.1) hf
      have e2 : n_starts = n_starts_o := congrArg (fun z => z.2.2.1) hf
      have e3 : n_families = n_families_o := congrArg (fun z => z.2.2.2.1) hf
      have e4 : n_generations = n_generations_o := congrArg (fun z => z.2.2.2.2.1) hf
      have e5 : n_stories = n_stories_o := congrArg (fun z => z.2.2.2.2.2.1) hf
      have e6 : n_splits = n_splits_o := congrArg (fun z => z.2.2.2.2.2.2.1) hf
      have e7 : n_boilings = n_boilings_o := congrArg (fun z => z.2.2.2.2.2.2.2.1) hf
      have e8 : n_fizzles = n_fizzles_o := congrArg (fun z => z.2.2.2.2.2.2.2.2.1) hf
      have e9 : h_v = h_v_o := congrArg (fun z => z.2.2.2.2.2.2.2.2.2.1) hf
      have e10 : h_oldest = h_oldest_o := congrArg (fun z => z.2.2.2.2.2.2.2.2.2.2.1) hf
      have e11 : h_size = h_size_o := congrArg (fun z => z.2.2.2.2.2.2.2.2.2.2.2) hf
      exact hret _ _ _ _ _ e0 (by rw [← e1, ← e2, ← e3, ← e4, ← e5, ← e6, ← e7, ← e8, ← e9, ← e10, ← e11]; exact hG) dX3_read_25
  · have hf := it_e c3 hf
    refine lv_iconst (v := -1) hx hb dX3_read_11 rfl ?_
    have hf := so_e hf
    have e0 : (-1) = ro := congrArg (fun z => z.1) hf
    have e1 : n_heats = n_heats_o := congrArg (fun z => z.2.1) hf
    have e2 : n_starts = n_starts_o := congrArg (fun z => z.2.2.1) hf
    have e3 : n_families = n_families_o := congrArg (fun z => z.2.2.2.1) hf
    have e4 : n_generations = n_generations_o := congrArg (fun z => z.2.2.2.2.1) hf
    have e5 : n_stories = n_stories_o := congrArg (fun z => z.2.2.2.2.2.1) hf
    have e6 : n_splits = n_splits_o := congrArg (fun z => z.2.2.2.2.2.2.1) hf
    have e7 : n_boilings = n_boilings_o := congrArg (fun z => z.2.2.2.2.2.2.2.1) hf
    have e8 : n_fizzles = n_fizzles_o := congrArg (fun z => z.2.2.2.2.2.2.2.2.1) hf
    have e9 : h_v = h_v_o := congrArg (fun z => z.2.2.2.2.2.2.2.2.2.1) hf
    have e10 : h_oldest = h_oldest_o := congrArg (fun z => z.2.2.2.2.2.2.2.2.2.2.1) hf
    have e11 : h_size = h_size_o := congrArg (fun z => z.2.2.2.2.2.2.2.2.2.2.2) hf
    exact hret _ _ _ _ _ e0 (by rw [← e1, ← e2, ← e3, ← e4, ← e5, ← e6, ← e7, ← e8, ← e9, ← e10, ← e11]; exact hG) dX3_read_12
set_option maxHeartbeats 1000000 in
set_option maxRecDepth 100000 in
theorem c_X3_fuse (l : Launch) (D : va_G) (y : Nat → ClassId) (a pa na ta ha : Nat → Nat) (hsb : Nat → Nat → Nat) (sl : Nat) (ssb : Nat → Nat → Nat) (sz : Nat) (Fu : Nat) (q_saved : Ar) (q_runs : Ar) (q_themes : Ar) (q_storyHeats : Ar) (p_characters : Ar) (p_length : Int32) (n_settings : Ar) (n_letters : Ar) (n_heats : Ar) (n_starts : Ar) (n_families : Ar) (n_generations : Ar) (n_tally : Ar) (n_stories : Int32) (n_nextFamily : Int32) (n_splits : Int32) (n_boilings : Int32) (n_fizzles : Int32) (t_settings : Ar) (t_letters : Ar) (t_heats : Ar) (t_starts : Ar) (t_families : Ar) (t_generations : Ar) (t_tally : Ar) (t_stories : Int32) (t_nextFamily : Int32) (t_splits : Int32) (t_boilings : Int32) (t_fizzles : Int32) (h_v : (Nat → SV)) (h_oldest : Int32) (h_size : Int32) (s_v : (Nat → SV)) (p1 : Int32) (p2 : Int32) (ro : Int32) (n_letters_o : Ar) (n_heats_o : Ar) (n_starts_o : Ar) (n_families_o : Ar) (n_generations_o : Ar) (n_tally_o : Ar) (n_stories_o : Int32) (n_splits_o : Int32) (n_boilings_o : Int32) (n_fizzles_o : Int32) (t_settings_o : Ar) (t_letters_o : Ar) (t_heats_o : Ar) (t_starts_o : Ar) (t_families_o : Ar) (t_generations_o : Ar) (t_stories_o : Int32) (t_nextFamily_o : Int32) (t_splits_o : Int32) (t_boilings_o : Int32) (t_fizzles_o : Int32) (h_v_o : (Nat → SV)) (h_oldest_o : Int32) (h_size_o : Int32) (hf : f_X3_fuse Fu n_settings n_letters n_heats n_starts n_families n_generations n_tally n_stories n_nextFamily n_splits n_boilings n_fizzles t_settings t_letters t_heats t_starts t_families t_generations t_stories t_nextFamily t_splits t_boilings t_fizzles h_v h_oldest h_size p1 p2 = some (ro, n_letters_o, n_heats_o, n_starts_o, n_families_o, n_generations_o, n_tally_o, n_stories_o, n_splits_o, n_boilings_o, n_fizzles_o, t_settings_o, t_letters_o, t_heats_o, t_starts_o, t_families_o, t_generations_o, t_stories_o, t_nextFamily_o, t_splits_o, t_boilings_o, t_fizzles_o, h_v_o, h_oldest_o, h_size_o)) : MI l yX3_fuse wsX3_fuse 4 110 [.ref (a 0), .int p1, .int p2] D y (w_X3 y a pa na ta ha sl q_saved q_runs q_themes q_storyHeats ++ (w_X1 y pa p_characters p_length ++ (w_X2 y na n_settings n_letters n_heats n_starts n_families n_generations n_tally n_stories n_nextFamily n_splits n_boilings n_fizzles ++ (w_X2 y ta t_settings t_letters t_heats t_starts t_families t_generations t_tally t_stories t_nextFamily t_splits t_boilings t_fizzles ++ (w_X0 y ha hsb h_v h_oldest h_size ++ w_SL y sl ssb s_v))))) sz ro (w_X3 y a pa na ta ha sl q_saved q_runs q_themes q_storyHeats ++ (w_X1 y pa p_characters p_length ++ (w_X2 y na n_settings n_letters_o n_heats_o n_starts_o n_families_o n_generations_o n_tally_o n_stories_o n_nextFamily n_splits_o n_boilings_o n_fizzles_o ++ (w_X2 y ta t_settings_o t_letters_o t_heats_o t_starts_o t_families_o t_generations_o t_tally t_stories_o t_nextFamily_o t_splits_o t_boilings_o t_fizzles_o ++ (w_X0 y ha hsb h_v_o h_oldest_o h_size_o ++ w_SL y sl ssb s_v))))) := by
  refine M_i (cc := cX3_fuse) (maxL := 5) (own := RX3) (by decide) rfl rfl (Nat.le_of_ble_eq_true rfl) ?_
  intro p e s m args below meth c A Q F hK hA H locs hG hret ls hl
  have hx := F.1
  have hb := F.2.1
  have hl : lv_has ls 5 [(0, .ref (a 0)), (1, .int p1), (2, .int p2)] := hl
  have k0 := F.2.2.2.2 (.fieldLink RX3 10 "HeatedStories" "now" "LHeatedStories$Shelf;") (List.mem_of_getElem? (i := 1) rfl)
  have k1 : ∀ w ∈ wsX30, w ∈ wsX3_fuse := (fun w h => List.mem_cons_of_mem _ (List.mem_append_left _ (List.mem_append_left _ (List.mem_append_right _ (h)))))
  have k2 := F.2.2.2.2 (.fieldLink RX3 22 "HeatedStories" "history" "LHeatedStories$History;") (List.mem_of_getElem? (i := 2) rfl)
  have k3 := F.2.2.2.2 (.fieldLink RX3 16 "HeatedStories" "trial" "LHeatedStories$Shelf;") (List.mem_of_getElem? (i := 3) rfl)
  have k4 := F.2.2.2.2 (.fieldLink RX3 98 "HeatedStories$Shelf" "starts" "[I") (List.mem_of_getElem? (i := 4) rfl)
  have k5 : ∀ w ∈ wsX20, w ∈ wsX3_fuse := (fun w h => List.mem_cons_of_mem _ (List.mem_append_left _ (List.mem_append_right _ (h))))
  have k6 := F.2.2.2.2 (.fieldLink RX3 124 "HeatedStories$Shelf" "generations" "[I") (List.mem_of_getElem? (i := 5) rfl)
  have k7 := F.2.2.2.2 (.methodLink RX3 127 Lib.Math.max.name) (List.mem_of_getElem? (i := 6) rfl)
  have k8 := F.2.2.2.2 (.static Lib.Math.max.name) (List.mem_of_getElem? (i := 7) rfl)
  have k9 := F.2.2.2.2 (.initialized "java/lang/Math") (List.mem_of_getElem? (i := 8) rfl)
  have k10 := F.2.2.2.2 (.code Lib.Math.max.name Lib.Math.max.code 2 (some .int)) (List.mem_of_getElem? (i := 9) rfl)
  have k11 := F.2.2.2.2 (.fieldLink RX3 65 "HeatedStories$Shelf" "settings" "[I") (List.mem_of_getElem? (i := 10) rfl)
  unfold f_X3_fuse at hf
  refine lv_aload_n hx hb dX3_fuse_0 rfl (lv_at hl 0 rfl) ?_
  refine w_get3 F hK hG k1 0 rfl 0 (by decide) k0 rfl dX3_fuse_1 ?_
  refine lv_iload_n hx hb dX3_fuse_4 rfl (lv_at hl 1 rfl) ?_
  obtain ⟨r1, h2, hf⟩ := bd1_e hf
  have hG : GG D A s.heap ((w_X2 y na n_settings n_letters n_heats n_starts n_families n_generations n_tally n_stories n_nextFamily n_splits n_boilings n_fizzles) ++ (w_X3 y a pa na ta ha sl q_saved q_runs q_themes q_storyHeats ++ (w_X1 y pa p_characters p_length ++ (w_X2 y ta t_settings t_letters t_heats t_starts t_families t_generations t_tally t_stories t_nextFamily t_splits t_boilings t_fizzles ++ (w_X0 y ha hsb h_v h_oldest h_size ++ (w_SL y sl ssb s_v)))))) H locs := GG.blk (fun k => match k with | 0 => w_X3 y a pa na ta ha sl q_saved q_runs q_themes q_storyHeats | 1 => w_X1 y pa p_characters p_length | 2 => w_X2 y na n_settings n_letters n_heats n_starts n_families n_generations n_tally n_stories n_nextFamily n_splits n_boilings n_fizzles | 3 => w_X2 y ta t_settings t_letters t_heats t_starts t_families t_generations t_tally t_stories t_nextFamily t_splits t_boilings t_fizzles | 4 => w_X0 y ha hsb h_v h_oldest h_size | _ => w_SL y sl ssb s_v) [0, 1, 2, 3, 4, 5] [2, 0, 1, 3, 4, 5] (blkp _ _ rfl) _ _ rfl rfl hG
  refine k_Pi F hK hA hG (c_X2_hasStory l D y na H.size Fu n_settings n_letters n_heats n_starts n_families n_generations n_tally n_stories n_nextFamily n_splits n_boilings n_fizzles p1 r1 h2) (cwV 1 F.2.2.2.2 gX3_fuse_X2_hasStory rfl rfl rfl (by decide +kernel) ⟨Nat.le_of_ble_eq_true rfl, Nat.le_of_ble_eq_true rfl⟩) 0 rfl rfl rfl rfl rfl hl.1 (Nat.le_of_ble_eq_true rfl) dX3_fuse_5 ⟨Nat.le_refl 0, Nat.le_refl 0⟩ (fun H locs hG => ?_)
  have hG : GG D A s.heap (w_X3 y a pa na ta ha sl q_saved q_runs q_themes q_storyHeats ++ (w_X1 y pa p_characters p_length ++ (w_X2 y na n_settings n_letters n_heats n_starts n_families n_generations n_tally n_stories n_nextFamily n_splits n_boilings n_fizzles ++ (w_X2 y ta t_settings t_letters t_heats t_starts t_families t_generations t_tally t_stories t_nextFamily t_splits t_boilings t_fizzles ++ (w_X0 y ha hsb h_v h_oldest h_size ++ w_SL y sl ssb s_v))))) H locs := GG.blk (fun k => match k with | 0 => w_X3 y a pa na ta ha sl q_saved q_runs q_themes q_storyHeats | 1 => w_X1 y pa p_characters p_length | 2 => w_X2 y na n_settings n_letters n_heats n_starts n_families n_generations n_tally n_stories n_nextFamily n_splits n_boilings n_fizzles | 3 => w_X2 y ta t_settings t_letters t_heats t_starts t_families t_generations t_tally t_stories t_nextFamily t_splits t_boilings t_fizzles | 4 => w_X0 y ha hsb h_v h_oldest h_size | _ => w_SL y sl ssb s_v) [2, 0, 1, 3, 4, 5] [0, 1, 2, 3, 4, 5] (blkp _ _ rfl) _ _ rfl rfl hG
  refine lv_if_eq (tgt := 22) hx hb dX3_fuse_8 (by decide) (fun c3 => ?_) (fun c3 => ?_)
  · have hf := it_e c3 hf
    refine lv_iconst (v := -1) hx hb dX3_fuse_22 rfl ?_
    have hf := so_e hf
    have e0 : (-1) = ro := congrArg (fun z => z.1) hf
    have e1 : n_letters = n_letters_o := congrArg (fun z => z.2.1) hf
    have e2 : n_heats = n_heats_o := congrArg (fun z => z.2.2.1) hf
    have e3 : n_starts = n_starts_o := congrArg (fun z => z.2.2.2.1) hf
    have e4 : n_families = n_families_o := congrArg (fun z => z.2.2.2.2.1) hf
    have e5 : n_generations = n_generations_o := congrArg (fun z => z.2.2.2.2.2.1) hf
    have e6 : n_tally = n_tally_o := congrArg (fun z => z.2.2.2.2.2.2.1) hf
    have e7 : n_stories = n_stories_o := congrArg (fun z => z.2.2.2.2.2.2.2.1) hf
    have e8 : n_splits = n_splits_o := congrArg (fun z => z.2.2.2.2.2.2.2.2.1) hf
    have e9 : n_boilings = n_boilings_o := congrArg (fun z => z.2.2.2.2.2.2.2.2.2.1) hf
    have e10 : n_fizzles = n_fizzles_o := congrArg (fun z => z.2.2.2.2.2.2.2.2.2.2.1) hf
    have e11 : t_settings = t_settings_o := congrArg (fun z => z.2.2.2.2.2.2.2.2.2.2.2.1) hf
    have e12 : t_letters = t_letters_o := congrArg (fun z => z.2.2.2.2.2.2.2.2.2.2.2.2.1) hf
    have e13 : t_heats = t_heats_o := congrArg (fun z => z.2.2.2.2.2.2.2.2.2.2.2.2.2.1) hf
    have e14 : t_starts = t_starts_o := congrArg (fun z => z.2.2.2.2.2.2.2.2.2.2.2.2.2.2.1) hf
    have e15 : t_families = t_families_o := congrArg (fun z => z.2.2.2.2.2.2.2.2.2.2.2.2.2.2.2.1) hf
    have e16 : t_generations = t_generations_o := congrArg (fun z => z.2.2.2.2.2.2.2.2.2.2.2.2.2.2.2.2.1) hf
    have e17 : t_stories = t_stories_o := congrArg (fun z => z.2.2.2.2.2.2.2.2.2.2.2.2.2.2.2.2.2.1) hf
    have e18 : t_nextFamily = t_nextFamily_o := congrArg (fun z => z.2.2.2.2.2.2.2.2.2.2.2.2.2.2.2.2.2.2.1) hf
    have e19 : t_splits = t_splits_o := congrArg (fun z => z.2.2.2.2.2.2.2.2.2.2.2.2.2.2.2.2.2.2.2.1) hf
    have e20 : t_boilings = t_boilings_o := congrArg (fun z => z.2.2.2.2.2.2.2.2.2.2.2.2.2.2.2.2.2.2.2.2.1) hf
    have e21 : t_fizzles = t_fizzles_o := congrArg (fun z => z.2.2.2.2.2.2.2.2.2.2.2.2.2.2.2.2.2.2.2.2.2.1) hf
    have e22 : h_v = h_v_o := congrArg (fun z => z.2.2.2.2.2.2.2.2.2.2.2.2.2.2.2.2.2.2.2.2.2.2.1) hf
    have e23 : h_oldest = h_oldest_o := congrArg (fun z => z.2.2.2.2.2.2.2.2.2.2.2.2.2.2.2.2.2.2.2.2.2.2.2.1) hf
    have e24 : h_size = h_size_o := congrArg (fun z => z.2.2.2.2.2.2.2.2.2.2.2.2.2.2.2.2.2.2.2.2.2.2.2.2) hf
    exact hret _ _ _ _ _ e0 (by rw [← e1, ← e2, ← e3, ← e4, ← e5, ← e6, ← e7, ← e8, ← e9, ← e10, ← e11, ← e12, ← e13, ← e14, ← e15, ← e16, ← e17, ← e18, ← e19, ← e20, ← e21, ← e22, ← e23, ← e24]; exact hG) dX3_fuse_23
  · have hf := if_e c3 hf
    refine lv_aload_n hx hb dX3_fuse_11 rfl (lv_at hl 0 rfl) ?_
    refine w_get3 F hK hG k1 0 rfl 0 (by decide) k0 rfl dX3_fuse_12 ?_
    refine lv_iload_n hx hb dX3_fuse_15 rfl (lv_at hl 2 rfl) ?_
    obtain ⟨r4, h5, hf⟩ := bd1_e hf
    have hG : GG D A s.heap ((w_X2 y na n_settings n_letters n_heats n_starts n_families n_generations n_tally n_stories n_nextFamily n_splits n_boilings n_fizzles) ++ (w_X3 y a pa na ta ha sl q_saved q_runs q_themes q_storyHeats ++ (w_X1 y pa p_characters p_length ++ (w_X2 y ta t_settings t_letters t_heats t_starts t_families t_generations t_tally t_stories t_nextFamily t_splits t_boilings t_fizzles ++ (w_X0 y ha hsb h_v h_oldest h_size ++ (w_SL y sl ssb s_v)))))) H locs := GG.blk (fun k => match k with | 0 => w_X3 y a pa na ta ha sl q_saved q_runs q_themes q_storyHeats | 1 => w_X1 y pa p_characters p_length | 2 => w_X2 y na n_settings n_letters n_heats n_starts n_families n_generations n_tally n_stories n_nextFamily n_splits n_boilings n_fizzles | 3 => w_X2 y ta t_settings t_letters t_heats t_starts t_families t_generations t_tally t_stories t_nextFamily t_splits t_boilings t_fizzles | 4 => w_X0 y ha hsb h_v h_oldest h_size | _ => w_SL y sl ssb s_v) [0, 1, 2, 3, 4, 5] [2, 0, 1, 3, 4, 5] (blkp _ _ rfl) _ _ rfl rfl hG
    refine k_Pi F hK hA hG (c_X2_hasStory l D y na H.size Fu n_settings n_letters n_heats n_starts n_families n_generations n_tally n_stories n_nextFamily n_splits n_boilings n_fizzles p2 r4 h5) (cwV 1 F.2.2.2.2 gX3_fuse_X2_hasStory rfl rfl rfl (by decide +kernel) ⟨Nat.le_of_ble_eq_true rfl, Nat.le_of_ble_eq_true rfl⟩) 0 rfl rfl rfl rfl rfl hl.1 (Nat.le_of_ble_eq_true rfl) dX3_fuse_16 ⟨Nat.le_refl 0, Nat.le_refl 0⟩ (fun H locs hG => ?_)
    have hG : GG D A s.heap (w_X3 y a pa na ta ha sl q_saved q_runs q_themes q_storyHeats ++ (w_X1 y pa p_characters p_length ++ (w_X2 y na n_settings n_letters n_heats n_starts n_families n_generations n_tally n_stories n_nextFamily n_splits n_boilings n_fizzles ++ (w_X2 y ta t_settings t_letters t_heats t_starts t_families t_generations t_tally t_stories t_nextFamily t_splits t_boilings t_fizzles ++ (w_X0 y ha hsb h_v h_oldest h_size ++ w_SL y sl ssb s_v))))) H locs := GG.blk (fun k => match k with | 0 => w_X3 y a pa na ta ha sl q_saved q_runs q_themes q_storyHeats | 1 => w_X1 y pa p_characters p_length | 2 => w_X2 y na n_settings n_letters n_heats n_starts n_families n_generations n_tally n_stories n_nextFamily n_splits n_boilings n_fizzles | 3 => w_X2 y ta t_settings t_letters t_heats t_starts t_families t_generations t_tally t_stories t_nextFamily t_splits t_boilings t_fizzles | 4 => w_X0 y ha hsb h_v h_oldest h_size | _ => w_SL y sl ssb s_v) [2, 0, 1, 3, 4, 5] [0, 1, 2, 3, 4, 5] (blkp _ _ rfl) _ _ rfl rfl hG
    refine lv_if_ne (tgt := 24) hx hb dX3_fuse_19 (by decide) (fun c6 => ?_) (fun c6 => ?_)
    · have hf := if_e c6 hf
      refine lv_iload_n hx hb dX3_fuse_24 rfl (lv_at hl 1 rfl) ?_
      refine lv_iload_n hx hb dX3_fuse_25 rfl (lv_at hl 2 rfl) ?_
      refine lv_icmp_ne (tgt := 32) hx hb dX3_fuse_26 (by decide) (fun c7 => ?_) (fun c7 => ?_)
      · have hf := if_e c7 hf
        refine lv_aload_n hx hb dX3_fuse_32 rfl (lv_at hl 0 rfl) ?_
        refine w_get3 F hK hG k1 0 rfl 0 (by decide) k0 rfl dX3_fuse_33 ?_
        refine lv_iload_n hx hb dX3_fuse_36 rfl (lv_at hl 1 rfl) ?_
        obtain ⟨r8, n_tally_9, h10, hf⟩ := bd2_e hf
        have hG : GG D A s.heap ((w_X2 y na n_settings n_letters n_heats n_starts n_families n_generations n_tally n_stories n_nextFamily n_splits n_boilings n_fizzles) ++ (w_X3 y a pa na ta ha sl q_saved q_runs q_themes q_storyHeats ++ (w_X1 y pa p_characters p_length ++ (w_X2 y ta t_settings t_letters t_heats t_starts t_families t_generations t_tally t_stories t_nextFamily t_splits t_boilings t_fizzles ++ (w_X0 y ha hsb h_v h_oldest h_size ++ (w_SL y sl ssb s_v)))))) H locs := GG.blk (fun k => match k with | 0 => w_X3 y a pa na ta ha sl q_saved q_runs q_themes q_storyHeats | 1 => w_X1 y pa p_characters p_length | 2 => w_X2 y na n_settings n_letters n_heats n_starts n_families n_generations n_tally n_stories n_nextFamily n_splits n_boilings n_fizzles | 3 => w_X2 y ta t_settings t_letters t_heats t_starts t_families t_generations t_tally t_stories t_nextFamily t_splits t_boilings t_fizzles | 4 => w_X0 y ha hsb h_v h_oldest h_size | _ => w_SL y sl ssb s_v) [0, 1, 2, 3, 4, 5] [2, 0, 1, 3, 4, 5] (blkp _ _ rfl) _ _ rfl rfl hG
        refine k_Pi F hK hA hG (c_X2_themeOf l D y na H.size Fu n_settings n_letters n_heats n_starts n_families n_generations n_tally n_stories n_nextFamily n_splits n_boilings n_fizzles p1 r8 n_tally_9 h10) (cwV 1 F.2.2.2.2 gX3_fuse_X2_themeOf rfl rfl rfl (by decide +kernel) ⟨Nat.le_of_ble_eq_true rfl, Nat.le_of_ble_eq_true rfl⟩) 0 rfl rfl rfl rfl rfl hl.1 (Nat.le_of_ble_eq_true rfl) dX3_fuse_37 ⟨Nat.le_refl 0, Nat.le_refl 0⟩ (fun H locs hG => ?_)
        have hG : GG D A s.heap (w_X3 y a pa na ta ha sl q_saved q_runs q_themes q_storyHeats ++ (w_X1 y pa p_characters p_length ++ (w_X2 y na n_settings n_letters n_heats n_starts n_families n_generations n_tally_9 n_stories n_nextFamily n_splits n_boilings n_fizzles ++ (w_X2 y ta t_settings t_letters t_heats t_starts t_families t_generations t_tally t_stories t_nextFamily t_splits t_boilings t_fizzles ++ (w_X0 y ha hsb h_v h_oldest h_size ++ w_SL y sl ssb s_v))))) H locs := GG.blk (fun k => match k with | 0 => w_X3 y a pa na ta ha sl q_saved q_runs q_themes q_storyHeats | 1 => w_X1 y pa p_characters p_length | 2 => w_X2 y na n_settings n_letters n_heats n_starts n_families n_generations n_tally_9 n_stories n_nextFamily n_splits n_boilings n_fizzles | 3 => w_X2 y ta t_settings t_letters t_heats t_starts t_families t_generations t_tally t_stories t_nextFamily t_splits t_boilings t_fizzles | 4 => w_X0 y ha hsb h_v h_oldest h_size | _ => w_SL y sl ssb s_v) [2, 0, 1, 3, 4, 5] [0, 1, 2, 3, 4, 5] (blkp _ _ rfl) _ _ rfl rfl hG
        refine lv_aload_n hx hb dX3_fuse_40 rfl (lv_at hl 0 rfl) ?_
        refine w_get3 F hK hG k1 0 rfl 0 (by decide) k0 rfl dX3_fuse_41 ?_
        refine lv_iload_n hx hb dX3_fuse_44 rfl (lv_at hl 2 rfl) ?_
        obtain ⟨r11, n_tally_12, h13, hf⟩ := bd2_e hf
        have hG : GG D A s.heap ((w_X2 y na n_settings n_letters n_heats n_starts n_families n_generations n_tally_9 n_stories n_nextFamily n_splits n_boilings n_fizzles) ++ (w_X3 y a pa na ta ha sl q_saved q_runs q_themes q_storyHeats ++ (w_X1 y pa p_characters p_length ++ (w_X2 y ta t_settings t_letters t_heats t_starts t_families t_generations t_tally t_stories t_nextFamily t_splits t_boilings t_fizzles ++ (w_X0 y ha hsb h_v h_oldest h_size ++ (w_SL y sl ssb s_v)))))) H locs := GG.blk (fun k => match k with | 0 => w_X3 y a pa na ta ha sl q_saved q_runs q_themes q_storyHeats | 1 => w_X1 y pa p_characters p_length | 2 => w_X2 y na n_settings n_letters n_heats n_starts n_families n_generations n_tally_9 n_stories n_nextFamily n_splits n_boilings n_fizzles | 3 => w_X2 y ta t_settings t_letters t_heats t_starts t_families t_generations t_tally t_stories t_nextFamily t_splits t_boilings t_fizzles | 4 => w_X0 y ha hsb h_v h_oldest h_size | _ => w_SL y sl ssb s_v) [0, 1, 2, 3, 4, 5] [2, 0, 1, 3, 4, 5] (blkp _ _ rfl) _ _ rfl rfl hG
        refine k_Pi F hK hA hG (c_X2_themeOf l D y na H.size Fu n_settings n_letters n_heats n_starts n_families n_generations n_tally_9 n_stories n_nextFamily n_splits n_boilings n_fizzles p2 r11 n_tally_12 h13) (cwV 1 F.2.2.2.2 gX3_fuse_X2_themeOf rfl rfl rfl (by decide +kernel) ⟨Nat.le_of_ble_eq_true rfl, Nat.le_of_ble_eq_true rfl⟩) 0 rfl rfl rfl rfl rfl hl.1 (Nat.le_of_ble_eq_true rfl) dX3_fuse_45 ⟨Nat.le_refl 0, Nat.le_refl 0⟩ (fun H locs hG => ?_)
        have hG : GG D A s.heap (w_X3 y a pa na ta ha sl q_saved q_runs q_themes q_storyHeats ++ (w_X1 y pa p_characters p_length ++ (w_X2 y na n_settings n_letters n_heats n_starts n_families n_generations n_tally_12 n_stories n_nextFamily n_splits n_boilings n_fizzles ++ (w_X2 y ta t_settings t_letters t_heats t_starts t_families t_generations t_tally t_stories t_nextFamily t_splits t_boilings t_fizzles ++ (w_X0 y ha hsb h_v h_oldest h_size ++ w_SL y sl ssb s_v))))) H locs := GG.blk (fun k => match k with | 0 => w_X3 y a pa na ta ha sl q_saved q_runs q_themes q_storyHeats | 1 => w_X1 y pa p_characters p_length | 2 => w_X2 y na n_settings n_letters n_heats n_starts n_families n_generations n_tally_12 n_stories n_nextFamily n_splits n_boilings n_fizzles | 3 => w_X2 y ta t_settings t_letters t_heats t_starts t_families t_generations t_tally t_stories t_nextFamily t_splits t_boilings t_fizzles | 4 => w_X0 y ha hsb h_v h_oldest h_size | _ => w_SL y sl ssb s_v) [2, 0, 1, 3, 4, 5] [0, 1, 2, 3, 4, 5] (blkp _ _ rfl) _ _ rfl rfl hG
        refine lv_icmp_eq (tgt := 54) hx hb dX3_fuse_48 (by decide) (fun c14 => ?_) (fun c14 => ?_)
        · have hf := it_e c14 hf
          refine lv_aload_n hx hb dX3_fuse_54 rfl (lv_at hl 0 rfl) ?_
          refine w_get3 F hK hG k1 0 rfl 2 (by decide) k2 rfl dX3_fuse_55 ?_
          refine lv_aload_n hx hb dX3_fuse_58 rfl (lv_at hl 0 rfl) ?_
          refine w_get3 F hK hG k1 0 rfl 0 (by decide) k0 rfl dX3_fuse_59 ?_
          obtain ⟨h_v_15, h_oldest_16, h_size_17, h18, hf⟩ := bd3_e hf
          have hG : GG D A s.heap ((w_X0 y ha hsb h_v h_oldest h_size ++ (w_X2 y na n_settings n_letters n_heats n_starts n_families n_generations n_tally_12 n_stories n_nextFamily n_splits n_boilings n_fizzles)) ++ (w_X3 y a pa na ta ha sl q_saved q_runs q_themes q_storyHeats ++ (w_X1 y pa p_characters p_length ++ (w_X2 y ta t_settings t_letters t_heats t_starts t_families t_generations t_tally t_stories t_nextFamily t_splits t_boilings t_fizzles ++ (w_SL y sl ssb s_v))))) H locs := GG.blk (fun k => match k with | 0 => w_X3 y a pa na ta ha sl q_saved q_runs q_themes q_storyHeats | 1 => w_X1 y pa p_characters p_length | 2 => w_X2 y na n_settings n_letters n_heats n_starts n_families n_generations n_tally_12 n_stories n_nextFamily n_splits n_boilings n_fizzles | 3 => w_X2 y ta t_settings t_letters t_heats t_starts t_families t_generations t_tally t_stories t_nextFamily t_splits t_boilings t_fizzles | 4 => w_X0 y ha hsb h_v h_oldest h_size | _ => w_SL y sl ssb s_v) [0, 1, 2, 3, 4, 5] [4, 2, 0, 1, 3, 5] (blkp _ _ rfl) _ _ rfl (List.append_assoc (w_X0 y ha hsb h_v h_oldest h_size) (w_X2 y na n_settings n_letters n_heats n_starts n_families n_generations n_tally_12 n_stories n_nextFamily n_splits n_boilings n_fizzles) (w_X3 y a pa na ta ha sl q_saved q_runs q_themes q_storyHeats ++ (w_X1 y pa p_characters p_length ++ (w_X2 y ta t_settings t_letters t_heats t_starts t_families t_generations t_tally t_stories t_nextFamily t_splits t_boilings t_fizzles ++ (w_SL y sl ssb s_v))))).symm hG
          refine k_Pv F hK hA hG (c_X0_record l D y ha na hsb H.size Fu h_v h_oldest h_size n_settings n_letters n_heats n_starts n_families n_generations n_tally_12 n_stories n_nextFamily n_splits n_boilings n_fizzles h_v_15 h_oldest_16 h_size_17 h18) (cwV 1 F.2.2.2.2 gX3_fuse_X0_record rfl rfl rfl (by decide +kernel) ⟨Nat.le_of_ble_eq_true rfl, Nat.le_of_ble_eq_true rfl⟩) 0 rfl rfl (adr_app (adr_X0 ..) rfl) rfl rfl hl.1 (Nat.le_of_ble_eq_true rfl) dX3_fuse_62 ⟨Nat.le_refl 0, Nat.le_refl 0⟩ (fun H locs hG => ?_)
          have hG : GG D A s.heap (w_X3 y a pa na ta ha sl q_saved q_runs q_themes q_storyHeats ++ (w_X1 y pa p_characters p_length ++ (w_X2 y na n_settings n_letters n_heats n_starts n_families n_generations n_tally_12 n_stories n_nextFamily n_splits n_boilings n_fizzles ++ (w_X2 y ta t_settings t_letters t_heats t_starts t_families t_generations t_tally t_stories t_nextFamily t_splits t_boilings t_fizzles ++ (w_X0 y ha hsb h_v_15 h_oldest_16 h_size_17 ++ w_SL y sl ssb s_v))))) H locs := GG.blk (fun k => match k with | 0 => w_X3 y a pa na ta ha sl q_saved q_runs q_themes q_storyHeats | 1 => w_X1 y pa p_characters p_length | 2 => w_X2 y na n_settings n_letters n_heats n_starts n_families n_generations n_tally_12 n_stories n_nextFamily n_splits n_boilings n_fizzles | 3 => w_X2 y ta t_settings t_letters t_heats t_starts t_families t_generations t_tally t_stories t_nextFamily t_splits t_boilings t_fizzles | 4 => w_X0 y ha hsb h_v_15 h_oldest_16 h_size_17 | _ => w_SL y sl ssb s_v) [4, 2, 0, 1, 3, 5] [0, 1, 2, 3, 4, 5] (blkp _ _ rfl) _ _ (List.append_assoc (w_X0 y ha hsb h_v_15 h_oldest_16 h_size_17) (w_X2 y na n_settings n_letters n_heats n_starts n_families n_generations n_tally_12 n_stories n_nextFamily n_splits n_boilings n_fizzles) (w_X3 y a pa na ta ha sl q_saved q_runs q_themes q_storyHeats ++ (w_X1 y pa p_characters p_length ++ (w_X2 y ta t_settings t_letters t_heats t_starts t_families t_generations t_tally t_stories t_nextFamily t_splits t_boilings t_fizzles ++ (w_SL y sl ssb s_v))))) rfl hG
          refine lv_aload_n hx hb dX3_fuse_65 rfl (lv_at hl 0 rfl) ?_
          refine w_get3 F hK hG k1 0 rfl 1 (by decide) k3 rfl dX3_fuse_66 ?_
          refine lv_aload_n hx hb dX3_fuse_69 rfl (lv_at hl 0 rfl) ?_
          refine w_get3 F hK hG k1 0 rfl 0 (by decide) k0 rfl dX3_fuse_70 ?_
          obtain ⟨t_settings_19, t_letters_20, t_heats_21, t_starts_22, t_families_23, t_generations_24, t_stories_25, t_nextFamily_26, t_splits_27, t_boilings_28, t_fizzles_29, h30, hf⟩ := bd11_e hf
          have hG : GG D A s.heap ((w_X2 y ta t_settings t_letters t_heats t_starts t_families t_generations t_tally t_stories t_nextFamily t_splits t_boilings t_fizzles ++ (w_X2 y na n_settings n_letters n_heats n_starts n_families n_generations n_tally_12 n_stories n_nextFamily n_splits n_boilings n_fizzles)) ++ (w_X3 y a pa na ta ha sl q_saved q_runs q_themes q_storyHeats ++ (w_X1 y pa p_characters p_length ++ (w_X0 y ha hsb h_v_15 h_oldest_16 h_size_17 ++ (w_SL y sl ssb s_v))))) H locs := GG.blk (fun k => match k with | 0 => w_X3 y a pa na ta ha sl q_saved q_runs q_themes q_storyHeats | 1 => w_X1 y pa p_characters p_length | 2 => w_X2 y na n_settings n_letters n_heats n_starts n_families n_generations n_tally_12 n_stories n_nextFamily n_splits n_boilings n_fizzles | 3 => w_X2 y ta t_settings t_letters t_heats t_starts t_families t_generations t_tally t_stories t_nextFamily t_splits t_boilings t_fizzles | 4 => w_X0 y ha hsb h_v_15 h_oldest_16 h_size_17 | _ => w_SL y sl ssb s_v) [0, 1, 2, 3, 4, 5] [3, 2, 0, 1, 4, 5] (blkp _ _ rfl) _ _ rfl (List.append_assoc (w_X2 y ta t_settings t_letters t_heats t_starts t_families t_generations t_tally t_stories t_nextFamily t_splits t_boilings t_fizzles) (w_X2 y na n_settings n_letters n_heats n_starts n_families n_generations n_tally_12 n_stories n_nextFamily n_splits n_boilings n_fizzles) (w_X3 y a pa na ta ha sl q_saved q_runs q_themes q_storyHeats ++ (w_X1 y pa p_characters p_length ++ (w_X0 y ha hsb h_v_15 h_oldest_16 h_size_17 ++ (w_SL y sl ssb s_v))))).symm hG
          refine k_Pv F hK hA hG (c_X2_copyFrom l D y ta na H.size Fu t_settings t_letters t_heats t_starts t_families t_generations t_tally t_stories t_nextFamily t_splits t_boilings t_fizzles n_settings n_letters n_heats n_starts n_families n_generations n_tally_12 n_stories n_nextFamily n_splits n_boilings n_fizzles t_settings_19 t_letters_20 t_heats_21 t_starts_22 t_families_23 t_generations_24 t_stories_25 t_nextFamily_26 t_splits_27 t_boilings_28 t_fizzles_29 h30) (cwV 1 F.2.2.2.2 gX3_fuse_X2_copyFrom rfl rfl rfl (by decide +kernel) ⟨Nat.le_of_ble_eq_true rfl, Nat.le_of_ble_eq_true rfl⟩) 0 rfl rfl (adr_app rfl rfl) rfl rfl hl.1 (Nat.le_of_ble_eq_true rfl) dX3_fuse_73 ⟨Nat.le_refl 0, Nat.le_refl 0⟩ (fun H locs hG => ?_)
          have hG : GG D A s.heap (w_X3 y a pa na ta ha sl q_saved q_runs q_themes q_storyHeats ++ (w_X1 y pa p_characters p_length ++ (w_X2 y na n_settings n_letters n_heats n_starts n_families n_generations n_tally_12 n_stories n_nextFamily n_splits n_boilings n_fizzles ++ (w_X2 y ta t_settings_19 t_letters_20 t_heats_21 t_starts_22 t_families_23 t_generations_24 t_tally t_stories_25 t_nextFamily_26 t_splits_27 t_boilings_28 t_fizzles_29 ++ (w_X0 y ha hsb h_v_15 h_oldest_16 h_size_17 ++ w_SL y sl ssb s_v))))) H locs := GG.blk (fun k => match k with | 0 => w_X3 y a pa na ta ha sl q_saved q_runs q_themes q_storyHeats | 1 => w_X1 y pa p_characters p_length | 2 => w_X2 y na n_settings n_letters n_heats n_starts n_families n_generations n_tally_12 n_stories n_nextFamily n_splits n_boilings n_fizzles | 3 => w_X2 y ta t_settings_19 t_letters_20 t_heats_21 t_starts_22 t_families_23 t_generations_24 t_tally t_stories_25 t_nextFamily_26 t_splits_27 t_boilings_28 t_fizzles_29 | 4 => w_X0 y ha hsb h_v_15 h_oldest_16 h_size_17 | _ => w_SL y sl ssb s_v) [3, 2, 0, 1, 4, 5] [0, 1, 2, 3, 4, 5] (blkp _ _ rfl) _ _ (List.append_assoc (w_X2 y ta t_settings_19 t_letters_20 t_heats_21 t_starts_22 t_families_23 t_generations_24 t_tally t_stories_25 t_nextFamily_26 t_splits_27 t_boilings_28 t_fizzles_29) (w_X2 y na n_settings n_letters n_heats n_starts n_families n_generations n_tally_12 n_stories n_nextFamily n_splits n_boilings n_fizzles) (w_X3 y a pa na ta ha sl q_saved q_runs q_themes q_storyHeats ++ (w_X1 y pa p_characters p_length ++ (w_X0 y ha hsb h_v_15 h_oldest_16 h_size_17 ++ (w_SL y sl ssb s_v))))) rfl hG
          refine lv_aload_n hx hb dX3_fuse_76 rfl (lv_at hl 0 rfl) ?_
          refine w_get3 F hK hG k1 0 rfl 0 (by decide) k0 rfl dX3_fuse_77 ?_
          refine lv_iload_n hx hb dX3_fuse_80 rfl (lv_at hl 2 rfl) ?_
          obtain ⟨n_letters_31, n_heats_32, n_starts_33, n_families_34, n_generations_35, n_stories_36, h37, hf⟩ := bd6_e hf
          have hG : GG D A s.heap ((w_X2 y na n_settings n_letters n_heats n_starts n_families n_generations n_tally_12 n_stories n_nextFamily n_splits n_boilings n_fizzles) ++ (w_X3 y a pa na ta ha sl q_saved q_runs q_themes q_storyHeats ++ (w_X1 y pa p_characters p_length ++ (w_X2 y ta t_settings_19 t_letters_20 t_heats_21 t_starts_22 t_families_23 t_generations_24 t_tally t_stories_25 t_nextFamily_26 t_splits_27 t_boilings_28 t_fizzles_29 ++ (w_X0 y ha hsb h_v_15 h_oldest_16 h_size_17 ++ (w_SL y sl ssb s_v)))))) H locs := GG.blk (fun k => match k with | 0 => w_X3 y a pa na ta ha sl q_saved q_runs q_themes q_storyHeats | 1 => w_X1 y pa p_characters p_length | 2 => w_X2 y na n_settings n_letters n_heats n_starts n_families n_generations n_tally_12 n_stories n_nextFamily n_splits n_boilings n_fizzles | 3 => w_X2 y ta t_settings_19 t_letters_20 t_heats_21 t_starts_22 t_families_23 t_generations_24 t_tally t_stories_25 t_nextFamily_26 t_splits_27 t_boilings_28 t_fizzles_29 | 4 => w_X0 y ha hsb h_v_15 h_oldest_16 h_size_17 | _ => w_SL y sl ssb s_v) [0, 1, 2, 3, 4, 5] [2, 0, 1, 3, 4, 5] (blkp _ _ rfl) _ _ rfl rfl hG
          refine k_Pv F hK hA hG (c_X2_remove l D y na H.size Fu n_settings n_letters n_heats n_starts n_families n_generations n_tally_12 n_stories n_nextFamily n_splits n_boilings n_fizzles p2 n_letters_31 n_heats_32 n_starts_33 n_families_34 n_generations_35 n_stories_36 h37) (cwV 1 F.2.2.2.2 gX3_fuse_X2_remove rfl rfl rfl (by decide +kernel) ⟨Nat.le_of_ble_eq_true rfl, Nat.le_of_ble_eq_true rfl⟩) 0 rfl rfl rfl rfl rfl hl.1 (Nat.le_of_ble_eq_true rfl) dX3_fuse_81 ⟨Nat.le_refl 0, Nat.le_refl 0⟩ (fun H locs hG => ?_)
          have hG : GG D A s.heap (w_X3 y a pa na ta ha sl q_saved q_runs q_themes q_storyHeats ++ (w_X1 y pa p_characters p_length ++ (w_X2 y na n_settings n_letters_31 n_heats_32 n_starts_33 n_families_34 n_generations_35 n_tally_12 n_stories_36 n_nextFamily n_splits n_boilings n_fizzles ++ (w_X2 y ta t_settings_19 t_letters_20 t_heats_21 t_starts_22 t_families_23 t_generations_24 t_tally t_stories_25 t_nextFamily_26 t_splits_27 t_boilings_28 t_fizzles_29 ++ (w_X0 y ha hsb h_v_15 h_oldest_16 h_size_17 ++ w_SL y sl ssb s_v))))) H locs := GG.blk (fun k => match k with | 0 => w_X3 y a pa na ta ha sl q_saved q_runs q_themes q_storyHeats | 1 => w_X1 y pa p_characters p_length | 2 => w_X2 y na n_settings n_letters_31 n_heats_32 n_starts_33 n_families_34 n_generations_35 n_tally_12 n_stories_36 n_nextFamily n_splits n_boilings n_fizzles | 3 => w_X2 y ta t_settings_19 t_letters_20 t_heats_21 t_starts_22 t_families_23 t_generations_24 t_tally t_stories_25 t_nextFamily_26 t_splits_27 t_boilings_28 t_fizzles_29 | 4 => w_X0 y ha hsb h_v_15 h_oldest_16 h_size_17 | _ => w_SL y sl ssb s_v) [2, 0, 1, 3, 4, 5] [0, 1, 2, 3, 4, 5] (blkp _ _ rfl) _ _ rfl rfl hG
          refine lv_iload_n hx hb dX3_fuse_84 rfl (lv_at hl 2 rfl) ?_
          refine lv_iload_n hx hb dX3_fuse_85 rfl (lv_at hl 1 rfl) ?_
          obtain ⟨v39, ev39, hf⟩ := nm_o hf
          have hJ : ∀ (ls : Array Slot), lv_has ls 5 [(0, .ref (a 0)), (1, .int p1), (2, .int p2)] → W p l e (RM 4 110) s m args below meth c H locs 0 0 Q (F0 m 96 ls [.int v39]) := by
            intro ls hl
            refine lv_istore_n (lv' := [(3, .int v39), (0, .ref (a 0)), (1, .int p1), (2, .int p2)]) hx hb dX3_fuse_96 rfl hl (by decide) rfl (fun ls hl => ?_)
            refine lv_aload_n hx hb dX3_fuse_97 rfl (lv_at hl 1 rfl) ?_
            refine w_get3 F hK hG k1 0 rfl 0 (by decide) k0 rfl dX3_fuse_98 ?_
            refine w_get2 F hK hG k5 7 rfl 3 (by decide) k4 rfl dX3_fuse_101 ?_
            refine lv_iload_n hx hb dX3_fuse_104 rfl (lv_at hl 0 rfl) ?_
            refine lv_iconst (v := nI 1) hx hb dX3_fuse_105 rfl ?_
            refine lv_iadd hx hb dX3_fuse_106 ?_
            obtain ⟨g40, hf⟩ := gd_e hf
            refine w_iald F hK hG 11 rfl g40 dX3_fuse_107 ?_
            obtain ⟨v41, ev41, hf⟩ := nm_o hf
            refine w_nm ev41 ?_
            refine lv_istore (lv' := [(4, .int v41), (3, .int v39), (0, .ref (a 0)), (1, .int p1), (2, .int p2)]) hx hb dX3_fuse_108 hl (by decide) rfl (fun ls hl => ?_)
            refine lv_aload_n hx hb dX3_fuse_110 rfl (lv_at hl 2 rfl) ?_
            refine w_get3 F hK hG k1 0 rfl 0 (by decide) k0 rfl dX3_fuse_111 ?_
            refine lv_iload_n hx hb dX3_fuse_114 rfl (lv_at hl 1 rfl) ?_
            refine lv_aload_n hx hb dX3_fuse_115 rfl (lv_at hl 2 rfl) ?_
            refine w_get3 F hK hG k1 0 rfl 1 (by decide) k3 rfl dX3_fuse_116 ?_
            refine lv_iload_n hx hb dX3_fuse_119 rfl (lv_at hl 4 rfl) ?_
            obtain ⟨n_letters_42, n_heats_43, n_starts_44, h45, hf⟩ := bd3_e hf
            have hG : GG D A s.heap ((w_X2 y na n_settings n_letters_31 n_heats_32 n_starts_33 n_families_34 n_generations_35 n_tally_12 n_stories_36 n_nextFamily n_splits n_boilings n_fizzles ++ (w_X2 y ta t_settings_19 t_letters_20 t_heats_21 t_starts_22 t_families_23 t_generations_24 t_tally t_stories_25 t_nextFamily_26 t_splits_27 t_boilings_28 t_fizzles_29)) ++ (w_X3 y a pa na ta ha sl q_saved q_runs q_themes q_storyHeats ++ (w_X1 y pa p_characters p_length ++ (w_X0 y ha hsb h_v_15 h_oldest_16 h_size_17 ++ (w_SL y sl ssb s_v))))) H locs := GG.blk (fun k => match k with | 0 => w_X3 y a pa na ta ha sl q_saved q_runs q_themes q_storyHeats | 1 => w_X1 y pa p_characters p_length | 2 => w_X2 y na n_settings n_letters_31 n_heats_32 n_starts_33 n_families_34 n_generations_35 n_tally_12 n_stories_36 n_nextFamily n_splits n_boilings n_fizzles | 3 => w_X2 y ta t_settings_19 t_letters_20 t_heats_21 t_starts_22 t_families_23 t_generations_24 t_tally t_stories_25 t_nextFamily_26 t_splits_27 t_boilings_28 t_fizzles_29 | 4 => w_X0 y ha hsb h_v_15 h_oldest_16 h_size_17 | _ => w_SL y sl ssb s_v) [0, 1, 2, 3, 4, 5] [2, 3, 0, 1, 4, 5] (blkp _ _ rfl) _ _ rfl (List.append_assoc (w_X2 y na n_settings n_letters_31 n_heats_32 n_starts_33 n_families_34 n_generations_35 n_tally_12 n_stories_36 n_nextFamily n_splits n_boilings n_fizzles) (w_X2 y ta t_settings_19 t_letters_20 t_heats_21 t_starts_22 t_families_23 t_generations_24 t_tally t_stories_25 t_nextFamily_26 t_splits_27 t_boilings_28 t_fizzles_29) (w_X3 y a pa na ta ha sl q_saved q_runs q_themes q_storyHeats ++ (w_X1 y pa p_characters p_length ++ (w_X0 y ha hsb h_v_15 h_oldest_16 h_size_17 ++ (w_SL y sl ssb s_v))))).symm hG
            refine k_Pv F hK hA hG (c_X2_append l D y na ta H.size Fu n_settings n_letters_31 n_heats_32 n_starts_33 n_families_34 n_generations_35 n_tally_12 n_stories_36 n_nextFamily n_splits n_boilings n_fizzles t_settings_19 t_letters_20 t_heats_21 t_starts_22 t_families_23 t_generations_24 t_tally t_stories_25 t_nextFamily_26 t_splits_27 t_boilings_28 t_fizzles_29 v39 p2 n_letters_42 n_heats_43 n_starts_44 h45) (cwV 3 F.2.2.2.2 gX3_fuse_X2_append rfl rfl rfl (by decide +kernel) ⟨Nat.le_of_ble_eq_true rfl, Nat.le_of_ble_eq_true rfl⟩) 0 rfl rfl (adr_app rfl rfl) rfl rfl hl.1 (Nat.le_of_ble_eq_true rfl) dX3_fuse_120 ⟨Nat.le_refl 0, Nat.le_refl 0⟩ (fun H locs hG => ?_)
            have hG : GG D A s.heap (w_X3 y a pa na ta ha sl q_saved q_runs q_themes q_storyHeats ++ (w_X1 y pa p_characters p_length ++ (w_X2 y na n_settings n_letters_42 n_heats_43 n_starts_44 n_families_34 n_generations_35 n_tally_12 n_stories_36 n_nextFamily n_splits n_boilings n_fizzles ++ (w_X2 y ta t_settings_19 t_letters_20 t_heats_21 t_starts_22 t_families_23 t_generations_24 t_tally t_stories_25 t_nextFamily_26 t_splits_27 t_boilings_28 t_fizzles_29 ++ (w_X0 y ha hsb h_v_15 h_oldest_16 h_size_17 ++ w_SL y sl ssb s_v))))) H locs := GG.blk (fun k => match k with | 0 => w_X3 y a pa na ta ha sl q_saved q_runs q_themes q_storyHeats | 1 => w_X1 y pa p_characters p_length | 2 => w_X2 y na n_settings n_letters_42 n_heats_43 n_starts_44 n_families_34 n_generations_35 n_tally_12 n_stories_36 n_nextFamily n_splits n_boilings n_fizzles | 3 => w_X2 y ta t_settings_19 t_letters_20 t_heats_21 t_starts_22 t_families_23 t_generations_24 t_tally t_stories_25 t_nextFamily_26 t_splits_27 t_boilings_28 t_fizzles_29 | 4 => w_X0 y ha hsb h_v_15 h_oldest_16 h_size_17 | _ => w_SL y sl ssb s_v) [2, 3, 0, 1, 4, 5] [0, 1, 2, 3, 4, 5] (blkp _ _ rfl) _ _ (List.append_assoc (w_X2 y na n_settings n_letters_42 n_heats_43 n_starts_44 n_families_34 n_generations_35 n_tally_12 n_stories_36 n_nextFamily n_splits n_boilings n_fizzles) (w_X2 y ta t_settings_19 t_letters_20 t_heats_21 t_starts_22 t_families_23 t_generations_24 t_tally t_stories_25 t_nextFamily_26 t_splits_27 t_boilings_28 t_fizzles_29) (w_X3 y a pa na ta ha sl q_saved q_runs q_themes q_storyHeats ++ (w_X1 y pa p_characters p_length ++ (w_X0 y ha hsb h_v_15 h_oldest_16 h_size_17 ++ (w_SL y sl ssb s_v))))) rfl hG
            refine lv_aload_n hx hb dX3_fuse_123 rfl (lv_at hl 2 rfl) ?_
            refine w_get3 F hK hG k1 0 rfl 0 (by decide) k0 rfl dX3_fuse_124 ?_
            refine w_get2 F hK hG k5 7 rfl 5 (by decide) k6 rfl dX3_fuse_127 ?_
            refine lv_iload_n hx hb dX3_fuse_130 rfl (lv_at hl 1 rfl) ?_
            refine lv_iconst (v := nI 1) hx hb dX3_fuse_131 rfl ?_
            refine lv_aload_n hx hb dX3_fuse_132 rfl (lv_at hl 2 rfl) ?_
            refine w_get3 F hK hG k1 0 rfl 1 (by decide) k3 rfl dX3_fuse_133 ?_
            refine w_get2 F hK hG k5 15 rfl 5 (by decide) k6 rfl dX3_fuse_136 ?_
            refine lv_iload_n hx hb dX3_fuse_139 rfl (lv_at hl 3 rfl) ?_
            obtain ⟨g46, hf⟩ := gd_e hf
            refine w_iald F hK hG 21 rfl g46 dX3_fuse_140 ?_
            refine lv_aload_n hx hb dX3_fuse_141 rfl (lv_at hl 2 rfl) ?_
            refine w_get3 F hK hG k1 0 rfl 1 (by decide) k3 rfl dX3_fuse_142 ?_
            refine w_get2 F hK hG k5 15 rfl 5 (by decide) k6 rfl dX3_fuse_145 ?_
            refine lv_iload_n hx hb dX3_fuse_148 rfl (lv_at hl 4 rfl) ?_
            obtain ⟨g47, hf⟩ := gd_e hf
            refine w_iald F hK hG 21 rfl g47 dX3_fuse_149 ?_
            refine w_max F hl.1 k7 k8 k9 k10 ⟨Nat.le_of_ble_eq_true rfl, Nat.le_of_ble_eq_true rfl⟩ ⟨Nat.le_refl 0, Nat.le_refl 0⟩ dX3_fuse_150 ?_
            refine lv_iadd hx hb dX3_fuse_153 ?_
            obtain ⟨g48, hf⟩ := gd_e hf
            refine w_iast F hK hG 13 rfl g48 (w_X3 y a pa na ta ha sl q_saved q_runs q_themes q_storyHeats ++ (w_X1 y pa p_characters p_length ++ (w_X2 y na n_settings n_letters_42 n_heats_43 n_starts_44 n_families_34 (upd n_generations_35 (v39).toNatClampNeg ((nI 1) + (jmax (t_generations_24 (p1).toNatClampNeg) (t_generations_24 (p2).toNatClampNeg)))) n_tally_12 n_stories_36 n_nextFamily n_splits n_boilings n_fizzles ++ (w_X2 y ta t_settings_19 t_letters_20 t_heats_21 t_starts_22 t_families_23 t_generations_24 t_tally t_stories_25 t_nextFamily_26 t_splits_27 t_boilings_28 t_fizzles_29 ++ (w_X0 y ha hsb h_v_15 h_oldest_16 h_size_17 ++ w_SL y sl ssb s_v))))) rfl dX3_fuse_154 (fun H locs hG => ?_)
            obtain ⟨n_generations_49, en_generations_49, hf⟩ := nm_o hf
            rw [← en_generations_49] at hG
            refine lv_aload_n hx hb dX3_fuse_155 rfl (lv_at hl 2 rfl) ?_
            refine w_get3 F hK hG k1 0 rfl 0 (by decide) k0 rfl dX3_fuse_156 ?_
            refine lv_iload hx hb dX3_fuse_159 (lv_at hl 0 rfl) ?_
            refine lv_iconst (v := nI 1) hx hb dX3_fuse_161 rfl ?_
            refine lv_isub hx hb dX3_fuse_162 ?_
            refine lv_aload_n hx hb dX3_fuse_163 rfl (lv_at hl 2 rfl) ?_
            refine w_get3 F hK hG k1 0 rfl 0 (by decide) k0 rfl dX3_fuse_164 ?_
            refine w_get2 F hK hG k5 7 rfl 0 (by decide) k11 rfl dX3_fuse_167 ?_
            refine lv_iconst (v := nI 1) hx hb dX3_fuse_170 rfl ?_
            refine w_ialdk F hK hG 8 rfl (Nat.le_of_ble_eq_true rfl) (Nat.le_of_ble_eq_true rfl) dX3_fuse_171 ?_
            obtain ⟨n_heats_50, h51, hf⟩ := bd1_e hf
            have hG : GG D A s.heap ((w_X2 y na n_settings n_letters_42 n_heats_43 n_starts_44 n_families_34 n_generations_49 n_tally_12 n_stories_36 n_nextFamily n_splits n_boilings n_fizzles) ++ (w_X3 y a pa na ta ha sl q_saved q_runs q_themes q_storyHeats ++ (w_X1 y pa p_characters p_length ++ (w_X2 y ta t_settings_19 t_letters_20 t_heats_21 t_starts_22 t_families_23 t_generations_24 t_tally t_stories_25 t_nextFamily_26 t_splits_27 t_boilings_28 t_fizzles_29 ++ (w_X0 y ha hsb h_v_15 h_oldest_16 h_size_17 ++ (w_SL y sl ssb s_v)))))) H locs := GG.blk (fun k => match k with | 0 => w_X3 y a pa na ta ha sl q_saved q_runs q_themes q_storyHeats | 1 => w_X1 y pa p_characters p_length | 2 => w_X2 y na n_settings n_letters_42 n_heats_43 n_starts_44 n_families_34 n_generations_49 n_tally_12 n_stories_36 n_nextFamily n_splits n_boilings n_fizzles | 3 => w_X2 y ta t_settings_19 t_letters_20 t_heats_21 t_starts_22 t_families_23 t_generations_24 t_tally t_stories_25 t_nextFamily_26 t_splits_27 t_boilings_28 t_fizzles_29 | 4 => w_X0 y ha hsb h_v_15 h_oldest_16 h_size_17 | _ => w_SL y sl ssb s_v) [0, 1, 2, 3, 4, 5] [2, 0, 1, 3, 4, 5] (blkp _ _ rfl) _ _ rfl rfl hG
            refine k_Pv F hK hA hG (c_X2_warm l D y na H.size Fu n_settings n_letters_42 n_heats_43 n_starts_44 n_families_34 n_generations_49 n_tally_12 n_stories_36 n_nextFamily n_splits n_boilings n_fizzles (v41 - (nI 1)) (n_settings 1) n_heats_50 h51) (cwV 2 F.2.2.2.2 gX3_fuse_X2_warm rfl rfl rfl (by decide +kernel) ⟨Nat.le_of_ble_eq_true rfl, Nat.le_of_ble_eq_true rfl⟩) 0 rfl rfl rfl rfl rfl hl.1 (Nat.le_of_ble_eq_true rfl) dX3_fuse_172 ⟨Nat.le_refl 0, Nat.le_refl 0⟩ (fun H locs hG => ?_)
            have hG : GG D A s.heap (w_X3 y a pa na ta ha sl q_saved q_runs q_themes q_storyHeats ++ (w_X1 y pa p_characters p_length ++ (w_X2 y na n_settings n_letters_42 n_heats_50 n_starts_44 n_families_34 n_generations_49 n_tally_12 n_stories_36 n_nextFamily n_splits n_boilings n_fizzles ++ (w_X2 y ta t_settings_19 t_letters_20 t_heats_21 t_starts_22 t_families_23 t_generations_24 t_tally t_stories_25 t_nextFamily_26 t_splits_27 t_boilings_28 t_fizzles_29 ++ (w_X0 y ha hsb h_v_15 h_oldest_16 h_size_17 ++ w_SL y sl ssb s_v))))) H locs := GG.blk (fun k => match k with | 0 => w_X3 y a pa na ta ha sl q_saved q_runs q_themes q_storyHeats | 1 => w_X1 y pa p_characters p_length | 2 => w_X2 y na n_settings n_letters_42 n_heats_50 n_starts_44 n_families_34 n_generations_49 n_tally_12 n_stories_36 n_nextFamily n_splits n_boilings n_fizzles | 3 => w_X2 y ta t_settings_19 t_letters_20 t_heats_21 t_starts_22 t_families_23 t_generations_24 t_tally t_stories_25 t_nextFamily_26 t_splits_27 t_boilings_28 t_fizzles_29 | 4 => w_X0 y ha hsb h_v_15 h_oldest_16 h_size_17 | _ => w_SL y sl ssb s_v) [2, 0, 1, 3, 4, 5] [0, 1, 2, 3, 4, 5] (blkp _ _ rfl) _ _ rfl rfl hG
            refine lv_aload_n hx hb dX3_fuse_175 rfl (lv_at hl 2 rfl) ?_
            refine w_get3 F hK hG k1 0 rfl 0 (by decide) k0 rfl dX3_fuse_176 ?_
            refine lv_iload hx hb dX3_fuse_179 (lv_at hl 0 rfl) ?_
            refine lv_aload_n hx hb dX3_fuse_181 rfl (lv_at hl 2 rfl) ?_
            refine w_get3 F hK hG k1 0 rfl 0 (by decide) k0 rfl dX3_fuse_182 ?_
            refine w_get2 F hK hG k5 7 rfl 0 (by decide) k11 rfl dX3_fuse_185 ?_
            refine lv_iconst (v := nI 1) hx hb dX3_fuse_188 rfl ?_
            refine w_ialdk F hK hG 8 rfl (Nat.le_of_ble_eq_true rfl) (Nat.le_of_ble_eq_true rfl) dX3_fuse_189 ?_
            obtain ⟨n_heats_52, h53, hf⟩ := bd1_e hf
            have hG : GG D A s.heap ((w_X2 y na n_settings n_letters_42 n_heats_50 n_starts_44 n_families_34 n_generations_49 n_tally_12 n_stories_36 n_nextFamily n_splits n_boilings n_fizzles) ++ (w_X3 y a pa na ta ha sl q_saved q_runs q_themes q_storyHeats ++ (w_X1 y pa p_characters p_length ++ (w_X2 y ta t_settings_19 t_letters_20 t_heats_21 t_starts_22 t_families_23 t_generations_24 t_tally t_stories_25 t_nextFamily_26 t_splits_27 t_boilings_28 t_fizzles_29 ++ (w_X0 y ha hsb h_v_15 h_oldest_16 h_size_17 ++ (w_SL y sl ssb s_v)))))) H locs := GG.blk (fun k => match k with | 0 => w_X3 y a pa na ta ha sl q_saved q_runs q_themes q_storyHeats | 1 => w_X1 y pa p_characters p_length | 2 => w_X2 y na n_settings n_letters_42 n_heats_50 n_starts_44 n_families_34 n_generations_49 n_tally_12 n_stories_36 n_nextFamily n_splits n_boilings n_fizzles | 3 => w_X2 y ta t_settings_19 t_letters_20 t_heats_21 t_starts_22 t_families_23 t_generations_24 t_tally t_stories_25 t_nextFamily_26 t_splits_27 t_boilings_28 t_fizzles_29 | 4 => w_X0 y ha hsb h_v_15 h_oldest_16 h_size_17 | _ => w_SL y sl ssb s_v) [0, 1, 2, 3, 4, 5] [2, 0, 1, 3, 4, 5] (blkp _ _ rfl) _ _ rfl rfl hG
            refine k_Pv F hK hA hG (c_X2_warm l D y na H.size Fu n_settings n_letters_42 n_heats_50 n_starts_44 n_families_34 n_generations_49 n_tally_12 n_stories_36 n_nextFamily n_splits n_boilings n_fizzles v41 (n_settings 1) n_heats_52 h53) (cwV 2 F.2.2.2.2 gX3_fuse_X2_warm rfl rfl rfl (by decide +kernel) ⟨Nat.le_of_ble_eq_true rfl, Nat.le_of_ble_eq_true rfl⟩) 0 rfl rfl rfl rfl rfl hl.1 (Nat.le_of_ble_eq_true rfl) dX3_fuse_190 ⟨Nat.le_refl 0, Nat.le_refl 0⟩ (fun H locs hG => ?_)
            have hG : GG D A s.heap (w_X3 y a pa na ta ha sl q_saved q_runs q_themes q_storyHeats ++ (w_X1 y pa p_characters p_length ++ (w_X2 y na n_settings n_letters_42 n_heats_52 n_starts_44 n_families_34 n_generations_49 n_tally_12 n_stories_36 n_nextFamily n_splits n_boilings n_fizzles ++ (w_X2 y ta t_settings_19 t_letters_20 t_heats_21 t_starts_22 t_families_23 t_generations_24 t_tally t_stories_25 t_nextFamily_26 t_splits_27 t_boilings_28 t_fizzles_29 ++ (w_X0 y ha hsb h_v_15 h_oldest_16 h_size_17 ++ w_SL y sl ssb s_v))))) H locs := GG.blk (fun k => match k with | 0 => w_X3 y a pa na ta ha sl q_saved q_runs q_themes q_storyHeats | 1 => w_X1 y pa p_characters p_length | 2 => w_X2 y na n_settings n_letters_42 n_heats_52 n_starts_44 n_families_34 n_generations_49 n_tally_12 n_stories_36 n_nextFamily n_splits n_boilings n_fizzles | 3 => w_X2 y ta t_settings_19 t_letters_20 t_heats_21 t_starts_22 t_families_23 t_generations_24 t_tally t_stories_25 t_nextFamily_26 t_splits_27 t_boilings_28 t_fizzles_29 | 4 => w_X0 y ha hsb h_v_15 h_oldest_16 h_size_17 | _ => w_SL y sl ssb s_v) [2, 0, 1, 3, 4, 5] [0, 1, 2, 3, 4, 5] (blkp _ _ rfl) _ _ rfl rfl hG
            refine lv_aload_n hx hb dX3_fuse_193 rfl (lv_at hl 2 rfl) ?_
            refine w_get3 F hK hG k1 0 rfl 0 (by decide) k0 rfl dX3_fuse_194 ?_
            obtain ⟨r54, n_heats_55, n_starts_56, n_families_57, n_generations_58, n_stories_59, n_splits_60, n_boilings_61, n_fizzles_62, h63, hf⟩ := bd9_e hf
            have hG : GG D A s.heap ((w_X2 y na n_settings n_letters_42 n_heats_52 n_starts_44 n_families_34 n_generations_49 n_tally_12 n_stories_36 n_nextFamily n_splits n_boilings n_fizzles) ++ (w_X3 y a pa na ta ha sl q_saved q_runs q_themes q_storyHeats ++ (w_X1 y pa p_characters p_length ++ (w_X2 y ta t_settings_19 t_letters_20 t_heats_21 t_starts_22 t_families_23 t_generations_24 t_tally t_stories_25 t_nextFamily_26 t_splits_27 t_boilings_28 t_fizzles_29 ++ (w_X0 y ha hsb h_v_15 h_oldest_16 h_size_17 ++ (w_SL y sl ssb s_v)))))) H locs := GG.blk (fun k => match k with | 0 => w_X3 y a pa na ta ha sl q_saved q_runs q_themes q_storyHeats | 1 => w_X1 y pa p_characters p_length | 2 => w_X2 y na n_settings n_letters_42 n_heats_52 n_starts_44 n_families_34 n_generations_49 n_tally_12 n_stories_36 n_nextFamily n_splits n_boilings n_fizzles | 3 => w_X2 y ta t_settings_19 t_letters_20 t_heats_21 t_starts_22 t_families_23 t_generations_24 t_tally t_stories_25 t_nextFamily_26 t_splits_27 t_boilings_28 t_fizzles_29 | 4 => w_X0 y ha hsb h_v_15 h_oldest_16 h_size_17 | _ => w_SL y sl ssb s_v) [0, 1, 2, 3, 4, 5] [2, 0, 1, 3, 4, 5] (blkp _ _ rfl) _ _ rfl rfl hG
            refine k_Pi F hK hA hG (c_X2_react l D y na H.size Fu n_settings n_letters_42 n_heats_52 n_starts_44 n_families_34 n_generations_49 n_tally_12 n_stories_36 n_nextFamily n_splits n_boilings n_fizzles r54 n_heats_55 n_starts_56 n_families_57 n_generations_58 n_stories_59 n_splits_60 n_boilings_61 n_fizzles_62 h63) (cwV 0 F.2.2.2.2 gX3_fuse_X2_react rfl rfl rfl (by decide +kernel) ⟨Nat.le_of_ble_eq_true rfl, Nat.le_of_ble_eq_true rfl⟩) 0 rfl rfl rfl rfl rfl hl.1 (Nat.le_of_ble_eq_true rfl) dX3_fuse_197 ⟨Nat.le_refl 0, Nat.le_refl 0⟩ (fun H locs hG => ?_)
            have hG : GG D A s.heap (w_X3 y a pa na ta ha sl q_saved q_runs q_themes q_storyHeats ++ (w_X1 y pa p_characters p_length ++ (w_X2 y na n_settings n_letters_42 n_heats_55 n_starts_56 n_families_57 n_generations_58 n_tally_12 n_stories_59 n_nextFamily n_splits_60 n_boilings_61 n_fizzles_62 ++ (w_X2 y ta t_settings_19 t_letters_20 t_heats_21 t_starts_22 t_families_23 t_generations_24 t_tally t_stories_25 t_nextFamily_26 t_splits_27 t_boilings_28 t_fizzles_29 ++ (w_X0 y ha hsb h_v_15 h_oldest_16 h_size_17 ++ w_SL y sl ssb s_v))))) H locs := GG.blk (fun k => match k with | 0 => w_X3 y a pa na ta ha sl q_saved q_runs q_themes q_storyHeats | 1 => w_X1 y pa p_characters p_length | 2 => w_X2 y na n_settings n_letters_42 n_heats_55 n_starts_56 n_families_57 n_generations_58 n_tally_12 n_stories_59 n_nextFamily n_splits_60 n_boilings_61 n_fizzles_62 | 3 => w_X2 y ta t_settings_19 t_letters_20 t_heats_21 t_starts_22 t_families_23 t_generations_24 t_tally t_stories_25 t_nextFamily_26 t_splits_27 t_boilings_28 t_fizzles_29 | 4 => w_X0 y ha hsb h_v_15 h_oldest_16 h_size_17 | _ => w_SL y sl ssb s_v) [2, 0, 1, 3, 4, 5] [0, 1, 2, 3, 4, 5] (blkp _ _ rfl) _ _ rfl rfl hG
            have hf := so_e hf
            have e0 : r54 = ro := congrArg (fun z => z.1) hf
            have e1 : n_letters_42 = n_letters_o := congrArg (fun z => z.2.1) hf
            have e2 : n_heats_55 = n_heats_o := congrArg (fun z => z.2.2.1) hf
            have e3 : n_starts_56 = n_starts_o := congrArg (fun z => z.2.2.2.1) hf
            have e4 : n_families_57 = n_families_o := congrArg (fun z => z.2.2.2.2.1) hf
            have e5 : n_generations_58 = n_generations_o := congrArg (fun z => z.2.2.2.2.2.1) hf
            have e6 : n_tally_12 = n_tally_o := congrArg (fun z => z.2.2.2.2.2.2.1) hf
            have e7 : n_stories_59 = n_stories_o := congrArg (fun z => z.2.2.2.2.2.2.2.1) hf
            have e8 : n_splits_60 = n_splits_o := congrArg (fun z => z.2.2.2.2.2.2.2.2.1) hf
            have e9 : n_boilings_61 = n_boilings_o := congrArg (fun z => z.2.2.2.2.2.2.2.2.2.1) hf
            have e10 : n_fizzles_62 = n_fizzles_o := congrArg (fun z => z.2.2.2.2.2.2.2.2.2.2.1) hf
            have e11 : t_settings_19 = t_settings_o := congrArg (fun z => z.2.2.2.2.2.2.2.2.2.2.2.1) hf
            have e12 : t_letters_20 = t_letters_o := congrArg (fun z => z.2.2.2.2.2.2.2.2.2.2.2.2.1) hf
            have e13 : t_heats_21 = t_heats_o := congrArg (fun z => z.2.2.2.2.2.2.2.2.2.2.2.2.2.1) hf
            have e14 : t_starts_22 = t_starts_o := congrArg (fun z => z.2.2.2.2.2.2.2.2.2.2.2.2.2.2.1) hf
            have e15 : t_families_23 = t_families_o := congrArg (fun z => z.2.2.2.2.2.2.2.2.2.2.2.2.2.2.2.1) hf
            have e16 : t_generations_24 = t_generations_o := congrArg (fun z => z.2.2.2.2.2.2.2.2.2.2.2.2.2.2.2.2.1) hf
            have e17 : t_stories_25 = t_stories_o := congrArg (fun z => z.2.2.2.2.2.2.2.2.2.2.2.2.2.2.2.2.2.1) hf
            have e18 : t_nextFamily_26 = t_nextFamily_o := congrArg (fun z => z.2.2.2.2.2.2.2.2.2.2.2.2.2.2.2.2.2.2.1) hf
            have e19 : t_splits_27 = t_splits_o := congrArg (fun z => z.2.2.2.2.2.2.2.2.2.2.2.2.2.2.2.2.2.2.2.1) hf
            have e20 : t_boilings_28 = t_boilings_o := congrArg (fun z => z.2.2.2.2.2.2.2.2.2.2.2.2.2.2.2.2.2.2.2.2.1) hf
            have e21 : t_fizzles_29 = t_fizzles_o := congrArg (fun z => z.2.2.2.2.2.2.2.2.2.2.2.2.2.2.2.2.2.2.2.2.2.1) hf
            have e22 : h_v_15 = h_v_o := congrArg (fun z => z.2.2.2.2.2.2.2.2.2.2.2.2.2.2.2.2.2.2.2.2.2.2.1) hf
            have e23 : h_oldest_16 = h_oldest_o := congrArg (fun z => z.2.2.2.2.2.2.2.2.2.2.2.2.2.2.2.2.2.2.2.2.2.2.2.1) hf
            have e24 : h_size_17 = h_size_o := congrArg (fun z => z.2.2.2.2.2.2.2.2.2.2.2.2.2.2.2.2.2.2.2.2.2.2.2.2) hf
            exact hret _ _ _ _ _ e0 (by rw [← e1, ← e2, ← e3, ← e4, ← e5, ← e6, ← e7, ← e8, ← e9, ← e10, ← e11, ← e12, ← e13, ← e14, ← e15, ← e16, ← e17, ← e18, ← e19, ← e20, ← e21, ← e22, ← e23, ← e24]; exact hG) dX3_fuse_200
          refine lv_icmp_ge (tgt := 95) hx hb dX3_fuse_86 (by decide) (fun c38 => ?_) (fun c38 => ?_)
          · refine lv_iload_n hx hb dX3_fuse_95 rfl (lv_at hl 1 rfl) ?_
            have qv39 := (ev39.trans (if_pos c38))
            subst qv39
            exact hJ ls (lv_sub hl [0, 1, 2] rfl)
          · refine lv_iload_n hx hb dX3_fuse_89 rfl (lv_at hl 1 rfl) ?_
            refine lv_iconst (v := nI 1) hx hb dX3_fuse_90 rfl ?_
            refine lv_isub hx hb dX3_fuse_91 ?_
            refine lv_goto (tgt := 96) hx hb dX3_fuse_92 (by decide) ?_
            have qv39 := (ev39.trans (if_neg c38))
            subst qv39
            exact hJ ls (lv_sub hl [0, 1, 2] rfl)
        · have hf := if_e c14 hf
          refine lv_bipush (v := -5) hx hb dX3_fuse_51 rfl ?_
          have hf := so_e hf
          have e0 : (-5) = ro := congrArg (fun z => z.1) hf
          have e1 : n_letters = n_letters_o := congrArg (fun z => z.2.1) hf
          have e2 : n_heats = n_heats_o := congrArg (fun z => z.2.2.1) hf
          have e3 : n_starts = n_starts_o := congrArg (fun z => z.2.2.2.1) hf
          have e4 : n_families = n_families_o := congrArg (fun z => z.2.2.2.2.1) hf
          have e5 : n_generations = n_generations_o := congrArg (fun z => z.2.2.2.2.2.1) hf
          have e6 : n_tally_12 = n_tally_o := congrArg (fun z => z.2.2.2.2.2.2.1) hf
          have e7 : n_stories = n_stories_o := congrArg (fun z => z.2.2.2.2.2.2.2.1) hf
          have e8 : n_splits = n_splits_o := congrArg (fun z => z.2.2.2.2.2.2.2.2.1) hf
          have e9 : n_boilings = n_boilings_o := congrArg (fun z => z.2.2.2.2.2.2.2.2.2.1) hf
          have e10 : n_fizzles = n_fizzles_o := congrArg (fun z => z.2.2.2.2.2.2.2.2.2.2.1) hf
          have e11 : t_settings = t_settings_o := congrArg (fun z => z.2.2.2.2.2.2.2.2.2.2.2.1) hf
          have e12 : t_letters = t_letters_o := congrArg (fun z => z.2.2.2.2.2.2.2.2.2.2.2.2.1) hf
          have e13 : t_heats = t_heats_o := congrArg (fun z => z.2.2.2.2.2.2.2.2.2.2.2.2.2.1) hf
          have e14 : t_starts = t_starts_o := congrArg (fun z => z.2.2.2.2.2.2.2.2.2.2.2.2.2.2.1) hf
          have e15 : t_families = t_families_o := congrArg (fun z => z.2.2.2.2.2.2.2.2.2.2.2.2.2.2.2.1) hf
          have e16 : t_generations = t_generations_o := congrArg (fun z => z.2.2.2.2.2.2.2.2.2.2.2.2.2.2.2.2.1) hf
          have e17 : t_stories = t_stories_o := congrArg (fun z => z.2.2.2.2.2.2.2.2.2.2.2.2.2.2.2.2.2.1) hf
          have e18 : t_nextFamily = t_nextFamily_o := congrArg (fun z => z.2.2.2.2.2.2.2.2.2.2.2.2.2.2.2.2.2.2.1) hf
          have e19 : t_splits = t_splits_o := congrArg (fun z => z.2.2.2.2.2.2.2.2.2.2.2.2.2.2.2.2.2.2.2.1) hf
          have e20 : t_boilings = t_boilings_o := congrArg (fun z => z.2.2.2.2.2.2.2.2.2.2.2.2.2.2.2.2.2.2.2.2.1) hf
          have e21 : t_fizzles = t_fizzles_o := congrArg (fun z => z.2.2.2.2.2.2.2.2.2.2.2.2.2.2.2.2.2.2.2.2.2.1) hf
          have e22 : h_v = h_v_o := congrArg (fun z => z.2.2.2.2.2.2.2.2.2.2.2.2.2.2.2.2.2.2.2.2.2.2.1) hf
          have e23 : h_oldest = h_oldest_o := congrArg (fun z => z.2.2.2.2.2.2.2.2.2.2.2.2.2.2.2.2.2.2.2.2.2.2.2.1) hf
          have e24 : h_size = h_size_o := congrArg (fun z => z.2.2.2.2.2.2.2.2.2.2.2.2.2.2.2.2.2.2.2.2.2.2.2.2) hf
          exact hret _ _ _ _ _ e0 (by rw [← e1, ← e2, ← e3, ← e4, ← e5, ← e6, ← e7, ← e8, ← e9, ← e10, ← e11, ← e12, ← e13, ← e14, ← e15, ← e16, ← e17, ← e18, ← e19, ← e20, ← e21, ← e22, ← e23, ← e24]; exact hG) dX3_fuse_53
      · have hf := it_e c7 hf
        refine lv_bipush (v := -2) hx hb dX3_fuse_29 rfl ?_
        have hf := so_e hf
        have e0 : (-2) = ro := congrArg (fun z => z.1) hf
        have e1 : n_letters = n_letters_o := congrArg (fun z => z.2.1) hf
        have e2 : n_heats = n_heats_o := congrArg (fun z => z.2.2.1) hf
        have e3 : n_starts = n_starts_o := congrArg (fun z => z.2.2.2.1) hf
        have e4 : n_families = n_families_o := congrArg (fun z => z.2.2.2.2.1) hf
        have e5 : n_generations = n_generations_o := congrArg (fun z => z.2.2.2.2.2.1) hf
        have e6 : n_tally = n_tally_o := congrArg (fun z => z.2.2.2.2.2.2.1) hf
        have e7 : n_stories = n_stories_o := congrArg (fun z => z.2.2.2.2.2.2.2.1) hf
        have e8 : n_splits = n_splits_o := congrArg (fun z => z.2.2.2.2.2.2.2.2.1) hf
        have e9 : n_boilings = n_boilings_o := congrArg (fun z => z.2.2.2.2.2.2.2.2.2.1) hf
        have e10 : n_fizzles = n_fizzles_o := congrArg (fun z => z.2.2.2.2.2.2.2.2.2.2.1) hf
        have e11 : t_settings = t_settings_o := congrArg (fun z => z.2.2.2.2.2.2.2.2.2.2.2.1) hf
        have e12 : t_letters = t_letters_o := congrArg (fun z => z.2.2.2.2.2.2.2.2.2.2.2.2.1) hf
        have e13 : t_heats = t_heats_o := congrArg (fun z => z.2.2.2.2.2.2.2.2.2.2.2.2.2.1) hf
        have e14 : t_starts = t_starts_o := congrArg (fun z => z.2.2.2.2.2.2.2.2.2.2.2.2.2.2.1) hf
        have e15 : t_families = t_families_o := congrArg (fun z => z.2.2.2.2.2.2.2.2.2.2.2.2.2.2.2.1) hf
        have e16 : t_generations = t_generations_o := congrArg (fun z => z.2.2.2.2.2.2.2.2.2.2.2.2.2.2.2.2.1) hf
        have e17 : t_stories = t_stories_o := congrArg (fun z => z.2.2.2.2.2.2.2.2.2.2.2.2.2.2.2.2.2.1) hf
        have e18 : t_nextFamily = t_nextFamily_o := congrArg (fun z => z.2.2.2.2.2.2.2.2.2.2.2.2.2.2.2.2.2.2.1) hf
        have e19 : t_splits = t_splits_o := congrArg (fun z => z.2.2.2.2.2.2.2.2.2.2.2.2.2.2.2.2.2.2.2.1) hf
        have e20 : t_boilings = t_boilings_o := congrArg (fun z => z.2.2.2.2.2.2.2.2.2.2.2.2.2.2.2.2.2.2.2.2.1) hf
        have e21 : t_fizzles = t_fizzles_o := congrArg (fun z => z.2.2.2.2.2.2.2.2.2.2.2.2.2.2.2.2.2.2.2.2.2.1) hf
        have e22 : h_v = h_v_o := congrArg (fun z => z.2.2.2.2.2.2.2.2.2.2.2.2.2.2.2.2.2.2.2.2.2.2.1) hf
        have e23 : h_oldest = h_oldest_o := congrArg (fun z => z.2.2.2.2.2.2.2.2.2.2.2.2.2.2.2.2.2.2.2.2.2.2.2.1) hf
        have e24 : h_size = h_size_o := congrArg (fun z => z.2.2.2.2.2.2.2.2.2.2.2.2.2.2.2.2.2.2.2.2.2.2.2.2) hf
        exact hret _ _ _ _ _ e0 (by rw [← e1, ← e2, ← e3, ← e4, ← e5, ← e6, ← e7, ← e8, ← e9, ← e10, ← e11, ← e12, ← e13, ← e14, ← e15, ← e16, ← e17, ← e18, ← e19, ← e20, ← e21, ← e22, ← e23, ← e24]; exact hG) dX3_fuse_31
    · have hf := it_e c6 hf
      refine lv_iconst (v := -1) hx hb dX3_fuse_22 rfl ?_
      have hf := so_e hf
      have e0 : (-1) = ro := congrArg (fun z => z.1) hf
      have e1 : n_letters = n_letters_o := congrArg (fun z => z.2.1) hf
      have e2 : n_heats = n_heats_o := congrArg (fun z => z.2.2.1) hf
      have e3 : n_starts = n_starts_o := congrArg (fun z => z.2.2.2.1) hf
      have e4 : n_families = n_families_o := congrArg (fun z => z.2.2.2.2.1) hf
      have e5 : n_generations = n_generations_o := congrArg (fun z => z.2.2.2.2.2.1) hf
      have e6 : n_tally = n_tally_o := congrArg (fun z => z.2.2.2.2.2.2.1) hf
      have e7 : n_stories = n_stories_o := congrArg (fun z => z.2.2.2.2.2.2.2.1) hf
      have e8 : n_splits = n_splits_o := congrArg (fun z => z.2.2.2.2.2.2.2.2.1) hf
      have e9 : n_boilings = n_boilings_o := congrArg (fun z => z.2.2.2.2.2.2.2.2.2.1) hf
      have e10 : n_fizzles = n_fizzles_o := congrArg (fun z => z.2.2.2.2.2.2.2.2.2.2.1) hf
      have e11 : t_settings = t_settings_o := congrArg (fun z => z.2.2.2.2.2.2.2.2.2.2.2.1) hf
      have e12 : t_letters = t_letters_o := congrArg (fun z => z.2.2.2.2.2.2.2.2.2.2.2.2.1) hf
      have e13 : t_heats = t_heats_o := congrArg (fun z => z.2.2.2.2.2.2.2.2.2.2.2.2.2.1) hf
      have e14 : t_starts = t_starts_o := congrArg (fun z => z.2.2.2.2.2.2.2.2.2.2.2.2.2.2.1) hf
      have e15 : t_families = t_families_o := congrArg (fun z => z.2.2.2.2.2.2.2.2.2.2.2.2.2.2.2.1) hf
      have e16 : t_generations = t_generations_o := congrArg (fun z => z.2.2.2.2.2.2.2.2.2.2.2.2.2.2.2.2.1) hf
      have e17 : t_stories = t_stories_o := congrArg (fun z => z.2.2.2.2.2.2.2.2.2.2.2.2.2.2.2.2.2.1) hf
      have e18 : t_nextFamily = t_nextFamily_o := congrArg (fun z => z.2.2.2.2.2.2.2.2.2.2.2.2.2.2.2.2.2.2.1) hf
      have e19 : t_splits = t_splits_o := congrArg (fun z => z.2.2.2.2.2.2.2.2.2.2.2.2.2.2.2.2.2.2.2.1) hf
      have e20 : t_boilings = t_boilings_o := congrArg (fun z => z.2.2.2.2.2.2.2.2.2.2.2.2.2.2.2.2.2.2.2.2.1) hf
      have e21 : t_fizzles = t_fizzles_o := congrArg (fun z => z.2.2.2.2.2.2.2.2.2.2.2.2.2.2.2.2.2.2.2.2.2.1) hf
      have e22 : h_v = h_v_o := congrArg (fun z => z.2.2.2.2.2.2.2.2.2.2.2.2.2.2.2.2.2.2.2.2.2.2.1) hf
      have e23 : h_oldest = h_oldest_o := congrArg (fun z => z.2.2.2.2.2.2.2.2.2.2.2.2.2.2.2.2.2.2.2.2.2.2.2.1) hf
      have e24 : h_size = h_size_o := congrArg (fun z => z.2.2.2.2.2.2.2.2.2.2.2.2.2.2.2.2.2.2.2.2.2.2.2.2) hf
      exact hret _ _ _ _ _ e0 (by rw [← e1, ← e2, ← e3, ← e4, ← e5, ← e6, ← e7, ← e8, ← e9, ← e10, ← e11, ← e12, ← e13, ← e14, ← e15, ← e16, ← e17, ← e18, ← e19, ← e20, ← e21, ← e22, ← e23, ← e24]; exact hG) dX3_fuse_23
set_option maxHeartbeats 1000000 in
set_option maxRecDepth 100000 in
theorem c_X3_pass (l : Launch) (D : va_G) (y : Nat → ClassId) (a pa na ta ha : Nat → Nat) (hsb : Nat → Nat → Nat) (sl : Nat) (ssb : Nat → Nat → Nat) (sz : Nat) (Fu : Nat) (q_saved : Ar) (q_runs : Ar) (q_themes : Ar) (q_storyHeats : Ar) (p_characters : Ar) (p_length : Int32) (n_settings : Ar) (n_letters : Ar) (n_heats : Ar) (n_starts : Ar) (n_families : Ar) (n_generations : Ar) (n_tally : Ar) (n_stories : Int32) (n_nextFamily : Int32) (n_splits : Int32) (n_boilings : Int32) (n_fizzles : Int32) (t_settings : Ar) (t_letters : Ar) (t_heats : Ar) (t_starts : Ar) (t_families : Ar) (t_generations : Ar) (t_tally : Ar) (t_stories : Int32) (t_nextFamily : Int32) (t_splits : Int32) (t_boilings : Int32) (t_fizzles : Int32) (h_v : (Nat → SV)) (h_oldest : Int32) (h_size : Int32) (s_v : (Nat → SV)) (p1 : Int32) (ro : Int32) (n_heats_o : Ar) (h_v_o : (Nat → SV)) (h_oldest_o : Int32) (h_size_o : Int32) (hf : f_X3_pass Fu n_settings n_letters n_heats n_starts n_families n_generations n_stories n_nextFamily n_splits n_boilings n_fizzles h_v h_oldest h_size p1 = some (ro, n_heats_o, h_v_o, h_oldest_o, h_size_o)) : MI l yX3_pass wsX3_pass 3 83 [.ref (a 0), .int p1] D y (w_X3 y a pa na ta ha sl q_saved q_runs q_themes q_storyHeats ++ (w_X1 y pa p_characters p_length ++ (w_X2 y na n_settings n_letters n_heats n_starts n_families n_generations n_tally n_stories n_nextFamily n_splits n_boilings n_fizzles ++ (w_X2 y ta t_settings t_letters t_heats t_starts t_families t_generations t_tally t_stories t_nextFamily t_splits t_boilings t_fizzles ++ (w_X0 y ha hsb h_v h_oldest h_size ++ w_SL y sl ssb s_v))))) sz ro (w_X3 y a pa na ta ha sl q_saved q_runs q_themes q_storyHeats ++ (w_X1 y pa p_characters p_length ++ (w_X2 y na n_settings n_letters n_heats_o n_starts n_families n_generations n_tally n_stories n_nextFamily n_splits n_boilings n_fizzles ++ (w_X2 y ta t_settings t_letters t_heats t_starts t_families t_generations t_tally t_stories t_nextFamily t_splits t_boilings t_fizzles ++ (w_X0 y ha hsb h_v_o h_oldest_o h_size_o ++ w_SL y sl ssb s_v))))) := by
  refine M_i (cc := cX3_pass) (maxL := 4) (own := RX3) (by decide) rfl rfl (Nat.le_of_ble_eq_true rfl) ?_
  intro p e s m args below meth c A Q F hK hA H locs hG hret ls hl
  have hx := F.1
  have hb := F.2.1
  have hl : lv_has ls 4 [(0, .ref (a 0)), (1, .int p1)] := hl
  have k0 := F.2.2.2.2 (.fieldLink RX3 22 "HeatedStories" "history" "LHeatedStories$History;") (List.mem_of_getElem? (i := 1) rfl)
  have k1 : ∀ w ∈ wsX30, w ∈ wsX3_pass := (fun w h => List.mem_cons_of_mem _ (List.mem_append_left _ (List.mem_append_left _ (List.mem_append_right _ (h)))))
  have k2 := F.2.2.2.2 (.fieldLink RX3 10 "HeatedStories" "now" "LHeatedStories$Shelf;") (List.mem_of_getElem? (i := 2) rfl)
  have k3 := F.2.2.2.2 (.fieldLink RX3 65 "HeatedStories$Shelf" "settings" "[I") (List.mem_of_getElem? (i := 3) rfl)
  have k4 : ∀ w ∈ wsX20, w ∈ wsX3_pass := (fun w h => List.mem_cons_of_mem _ (List.mem_append_left _ (List.mem_append_right _ (h))))
  have k5 := F.2.2.2.2 (.fieldLink RX3 133 "HeatedStories$Shelf" "heats" "[I") (List.mem_of_getElem? (i := 4) rfl)
  have k6 := F.2.2.2.2 (.methodLink RX3 127 Lib.Math.max.name) (List.mem_of_getElem? (i := 5) rfl)
  have k7 := F.2.2.2.2 (.static Lib.Math.max.name) (List.mem_of_getElem? (i := 6) rfl)
  have k8 := F.2.2.2.2 (.initialized "java/lang/Math") (List.mem_of_getElem? (i := 7) rfl)
  have k9 := F.2.2.2.2 (.code Lib.Math.max.name Lib.Math.max.code 2 (some .int)) (List.mem_of_getElem? (i := 8) rfl)
  unfold f_X3_pass at hf
  refine lv_iload_n hx hb dX3_pass_0 rfl (lv_at hl 1 rfl) ?_
  refine lv_iconst (v := nI 1) hx hb dX3_pass_1 rfl ?_
  refine lv_bipush (v := nI 30) hx hb dX3_pass_2 rfl ?_
  obtain ⟨r1, h2, hf⟩ := bd1_e hf
  refine k_Si F hK hA hG (c_X3_isWithin l D y  H.size Fu  p1 (nI 1) (nI 30) r1 h2) (va_cwS 3 F.2.2.2.2 gX3_pass_X3_isWithin rfl rfl rfl (by decide +kernel) ⟨Nat.le_of_ble_eq_true rfl, Nat.le_of_ble_eq_true rfl⟩) rfl rfl hl.1 (Nat.le_of_ble_eq_true rfl) dX3_pass_4 ⟨Nat.le_refl 0, Nat.le_refl 0⟩ (fun H locs hG => ?_)
  refine lv_if_ne (tgt := 13) hx hb dX3_pass_7 (by decide) (fun c3 => ?_) (fun c3 => ?_)
  · have hf := if_e c3 hf
    refine lv_aload_n hx hb dX3_pass_13 rfl (lv_at hl 0 rfl) ?_
    refine w_get3 F hK hG k1 0 rfl 2 (by decide) k0 rfl dX3_pass_14 ?_
    refine lv_aload_n hx hb dX3_pass_17 rfl (lv_at hl 0 rfl) ?_
    refine w_get3 F hK hG k1 0 rfl 0 (by decide) k2 rfl dX3_pass_18 ?_
    obtain ⟨h_v_4, h_oldest_5, h_size_6, h7, hf⟩ := bd3_e hf
    have hG : GG D A s.heap ((w_X0 y ha hsb h_v h_oldest h_size ++ (w_X2 y na n_settings n_letters n_heats n_starts n_families n_generations n_tally n_stories n_nextFamily n_splits n_boilings n_fizzles)) ++ (w_X3 y a pa na ta ha sl q_saved q_runs q_themes q_storyHeats ++ (w_X1 y pa p_characters p_length ++ (w_X2 y ta t_settings t_letters t_heats t_starts t_families t_generations t_tally t_stories t_nextFamily t_splits t_boilings t_fizzles ++ (w_SL y sl ssb s_v))))) H locs := GG.blk (fun k => match k with | 0 => w_X3 y a pa na ta ha sl q_saved q_runs q_themes q_storyHeats | 1 => w_X1 y pa p_characters p_length | 2 => w_X2 y na n_settings n_letters n_heats n_starts n_families n_generations n_tally n_stories n_nextFamily n_splits n_boilings n_fizzles | 3 => w_X2 y ta t_settings t_letters t_heats t_starts t_families t_generations t_tally t_stories t_nextFamily t_splits t_boilings t_fizzles | 4 => w_X0 y ha hsb h_v h_oldest h_size | _ => w_SL y sl ssb s_v) [0, 1, 2, 3, 4, 5] [4, 2, 0, 1, 3, 5] (blkp _ _ rfl) _ _ rfl (List.append_assoc (w_X0 y ha hsb h_v h_oldest h_size) (w_X2 y na n_settings n_letters n_heats n_starts n_families n_generations n_tally n_stories n_nextFamily n_splits n_boilings n_fizzles) (w_X3 y a pa na ta ha sl q_saved q_runs q_themes q_storyHeats ++ (w_X1 y pa p_characters p_length ++ (w_X2 y ta t_settings t_letters t_heats t_starts t_families t_generations t_tally t_stories t_nextFamily t_splits t_boilings t_fizzles ++ (w_SL y sl ssb s_v))))).symm hG
    refine k_Pv F hK hA hG (c_X0_record l D y ha na hsb H.size Fu h_v h_oldest h_size n_settings n_letters n_heats n_starts n_families n_generations n_tally n_stories n_nextFamily n_splits n_boilings n_fizzles h_v_4 h_oldest_5 h_size_6 h7) (cwV 1 F.2.2.2.2 gX3_pass_X0_record rfl rfl rfl (by decide +kernel) ⟨Nat.le_of_ble_eq_true rfl, Nat.le_of_ble_eq_true rfl⟩) 0 rfl rfl (adr_app (adr_X0 ..) rfl) rfl rfl hl.1 (Nat.le_of_ble_eq_true rfl) dX3_pass_21 ⟨Nat.le_refl 0, Nat.le_refl 0⟩ (fun H locs hG => ?_)
    have hG : GG D A s.heap (w_X3 y a pa na ta ha sl q_saved q_runs q_themes q_storyHeats ++ (w_X1 y pa p_characters p_length ++ (w_X2 y na n_settings n_letters n_heats n_starts n_families n_generations n_tally n_stories n_nextFamily n_splits n_boilings n_fizzles ++ (w_X2 y ta t_settings t_letters t_heats t_starts t_families t_generations t_tally t_stories t_nextFamily t_splits t_boilings t_fizzles ++ (w_X0 y ha hsb h_v_4 h_oldest_5 h_size_6 ++ w_SL y sl ssb s_v))))) H locs := GG.blk (fun k => match k with | 0 => w_X3 y a pa na ta ha sl q_saved q_runs q_themes q_storyHeats | 1 => w_X1 y pa p_characters p_length | 2 => w_X2 y na n_settings n_letters n_heats n_starts n_families n_generations n_tally n_stories n_nextFamily n_splits n_boilings n_fizzles | 3 => w_X2 y ta t_settings t_letters t_heats t_starts t_families t_generations t_tally t_stories t_nextFamily t_splits t_boilings t_fizzles | 4 => w_X0 y ha hsb h_v_4 h_oldest_5 h_size_6 | _ => w_SL y sl ssb s_v) [4, 2, 0, 1, 3, 5] [0, 1, 2, 3, 4, 5] (blkp _ _ rfl) _ _ (List.append_assoc (w_X0 y ha hsb h_v_4 h_oldest_5 h_size_6) (w_X2 y na n_settings n_letters n_heats n_starts n_families n_generations n_tally n_stories n_nextFamily n_splits n_boilings n_fizzles) (w_X3 y a pa na ta ha sl q_saved q_runs q_themes q_storyHeats ++ (w_X1 y pa p_characters p_length ++ (w_X2 y ta t_settings t_letters t_heats t_starts t_families t_generations t_tally t_stories t_nextFamily t_splits t_boilings t_fizzles ++ (w_SL y sl ssb s_v))))) rfl hG
    refine lv_iload_n hx hb dX3_pass_24 rfl (lv_at hl 1 rfl) ?_
    refine lv_aload_n hx hb dX3_pass_25 rfl (lv_at hl 0 rfl) ?_
    refine w_get3 F hK hG k1 0 rfl 0 (by decide) k2 rfl dX3_pass_26 ?_
    refine w_get2 F hK hG k4 7 rfl 0 (by decide) k3 rfl dX3_pass_29 ?_
    refine lv_iconst (v := nI 2) hx hb dX3_pass_32 rfl ?_
    refine w_ialdk F hK hG 8 rfl (Nat.le_of_ble_eq_true rfl) (Nat.le_of_ble_eq_true rfl) dX3_pass_33 ?_
    refine lv_imul hx hb dX3_pass_34 ?_
    refine lv_istore_n (lv' := [(2, .int (p1 * (n_settings 2))), (0, .ref (a 0)), (1, .int p1)]) hx hb dX3_pass_35 rfl hl (by decide) rfl (fun ls hl => ?_)
    refine lv_iconst (v := nI 0) hx hb dX3_pass_36 rfl ?_
    refine lv_istore_n (lv' := [(3, .int (nI 0)), (2, .int (p1 * (n_settings 2))), (0, .ref (a 0)), (1, .int p1)]) hx hb dX3_pass_37 rfl hl (by decide) rfl (fun ls hl => ?_)
    obtain ⟨k_38, ek_38, hf⟩ := jn_e hf
    have hk_38 : ∀ (n_heats_16 : Ar) (H : Heap) (locs : List Loc) (ls : Array Slot), k_38 n_heats_16 = some (ro, n_heats_o, h_v_o, h_oldest_o, h_size_o) → GG D A s.heap (w_X3 y a pa na ta ha sl q_saved q_runs q_themes q_storyHeats ++ (w_X1 y pa p_characters p_length ++ (w_X2 y na n_settings n_letters n_heats_16 n_starts n_families n_generations n_tally n_stories n_nextFamily n_splits n_boilings n_fizzles ++ (w_X2 y ta t_settings t_letters t_heats t_starts t_families t_generations t_tally t_stories t_nextFamily t_splits t_boilings t_fizzles ++ (w_X0 y ha hsb h_v_4 h_oldest_5 h_size_6 ++ w_SL y sl ssb s_v))))) H locs → lv_has ls 4 [(0, .ref (a 0))] → W p l e (RM 3 83) s m args below meth c H locs 0 0 Q (F0 m 79 ls []) := by
      intro n_heats_16 H locs ls hf hG hl
      rw [ek_38] at hf
      refine lv_aload_n hx hb dX3_pass_79 rfl (lv_at hl 0 rfl) ?_
      refine w_get3 F hK hG k1 0 rfl 0 (by decide) k2 rfl dX3_pass_80 ?_
      obtain ⟨r17, h18, hf⟩ := bd1_e hf
      have hG : GG D A s.heap ((w_X2 y na n_settings n_letters n_heats_16 n_starts n_families n_generations n_tally n_stories n_nextFamily n_splits n_boilings n_fizzles) ++ (w_X3 y a pa na ta ha sl q_saved q_runs q_themes q_storyHeats ++ (w_X1 y pa p_characters p_length ++ (w_X2 y ta t_settings t_letters t_heats t_starts t_families t_generations t_tally t_stories t_nextFamily t_splits t_boilings t_fizzles ++ (w_X0 y ha hsb h_v_4 h_oldest_5 h_size_6 ++ (w_SL y sl ssb s_v)))))) H locs := GG.blk (fun k => match k with | 0 => w_X3 y a pa na ta ha sl q_saved q_runs q_themes q_storyHeats | 1 => w_X1 y pa p_characters p_length | 2 => w_X2 y na n_settings n_letters n_heats_16 n_starts n_families n_generations n_tally n_stories n_nextFamily n_splits n_boilings n_fizzles | 3 => w_X2 y ta t_settings t_letters t_heats t_starts t_families t_generations t_tally t_stories t_nextFamily t_splits t_boilings t_fizzles | 4 => w_X0 y ha hsb h_v_4 h_oldest_5 h_size_6 | _ => w_SL y sl ssb s_v) [0, 1, 2, 3, 4, 5] [2, 0, 1, 3, 4, 5] (blkp _ _ rfl) _ _ rfl rfl hG
      refine k_Pi F hK hA hG (c_X2_heatOfAll l D y na H.size Fu n_settings n_letters n_heats_16 n_starts n_families n_generations n_tally n_stories n_nextFamily n_splits n_boilings n_fizzles r17 h18) (cwV 0 F.2.2.2.2 gX3_pass_X2_heatOfAll rfl rfl rfl (by decide +kernel) ⟨Nat.le_of_ble_eq_true rfl, Nat.le_of_ble_eq_true rfl⟩) 0 rfl rfl rfl rfl rfl hl.1 (Nat.le_of_ble_eq_true rfl) dX3_pass_83 ⟨Nat.le_refl 0, Nat.le_refl 0⟩ (fun H locs hG => ?_)
      have hG : GG D A s.heap (w_X3 y a pa na ta ha sl q_saved q_runs q_themes q_storyHeats ++ (w_X1 y pa p_characters p_length ++ (w_X2 y na n_settings n_letters n_heats_16 n_starts n_families n_generations n_tally n_stories n_nextFamily n_splits n_boilings n_fizzles ++ (w_X2 y ta t_settings t_letters t_heats t_starts t_families t_generations t_tally t_stories t_nextFamily t_splits t_boilings t_fizzles ++ (w_X0 y ha hsb h_v_4 h_oldest_5 h_size_6 ++ w_SL y sl ssb s_v))))) H locs := GG.blk (fun k => match k with | 0 => w_X3 y a pa na ta ha sl q_saved q_runs q_themes q_storyHeats | 1 => w_X1 y pa p_characters p_length | 2 => w_X2 y na n_settings n_letters n_heats_16 n_starts n_families n_generations n_tally n_stories n_nextFamily n_splits n_boilings n_fizzles | 3 => w_X2 y ta t_settings t_letters t_heats t_starts t_families t_generations t_tally t_stories t_nextFamily t_splits t_boilings t_fizzles | 4 => w_X0 y ha hsb h_v_4 h_oldest_5 h_size_6 | _ => w_SL y sl ssb s_v) [2, 0, 1, 3, 4, 5] [0, 1, 2, 3, 4, 5] (blkp _ _ rfl) _ _ rfl rfl hG
      have hf := so_e hf
      have e0 : r17 = ro := congrArg (fun z => z.1) hf
      have e1 : n_heats_16 = n_heats_o := congrArg (fun z => z.2.1) hf
      have e2 : h_v_4 = h_v_o := congrArg (fun z => z.2.2.1) hf
      have e3 : h_oldest_5 = h_oldest_o := congrArg (fun z => z.2.2.2.1) hf
      have e4 : h_size_6 = h_size_o := congrArg (fun z => z.2.2.2.2) hf
      exact hret _ _ _ _ _ e0 (by rw [← e1, ← e2, ← e3, ← e4]; exact hG) dX3_pass_86
    have hL38 : ∀ (fu : Nat) (x8 : Int32) (n_heats_9 : Ar) (H : Heap) (locs : List Loc) (ls : Array Slot), f_X3_pass_L38 Fu k_38 n_settings n_starts n_stories p1 fu x8 n_heats_9 = some (ro, n_heats_o, h_v_o, h_oldest_o, h_size_o) → GG D A s.heap (w_X3 y a pa na ta ha sl q_saved q_runs q_themes q_storyHeats ++ (w_X1 y pa p_characters p_length ++ (w_X2 y na n_settings n_letters n_heats_9 n_starts n_families n_generations n_tally n_stories n_nextFamily n_splits n_boilings n_fizzles ++ (w_X2 y ta t_settings t_letters t_heats t_starts t_families t_generations t_tally t_stories t_nextFamily t_splits t_boilings t_fizzles ++ (w_X0 y ha hsb h_v_4 h_oldest_5 h_size_6 ++ w_SL y sl ssb s_v))))) H locs → lv_has ls 4 [(0, .ref (a 0)), (2, .int (p1 * (n_settings 2))), (3, .int x8)] → W p l e (RM 3 83) s m args below meth c H locs 0 0 Q (F0 m 38 ls []) := by
      intro fu
      induction fu with
      | zero => intro x8 n_heats_9 H locs ls hf hG hl; exact no_e hf
      | succ fu ih =>
        intro x8 n_heats_9 H locs ls hf hG hl
        rw [f_X3_pass_L38_s] at hf
        refine lv_iload_n hx hb dX3_pass_38 rfl (lv_at hl 2 rfl) ?_
        refine lv_aload_n hx hb dX3_pass_39 rfl (lv_at hl 0 rfl) ?_
        refine w_get3 F hK hG k1 0 rfl 0 (by decide) k2 rfl dX3_pass_40 ?_
        obtain ⟨r10, h11, hf⟩ := bd1_e hf
        have hG : GG D A s.heap ((w_X2 y na n_settings n_letters n_heats_9 n_starts n_families n_generations n_tally n_stories n_nextFamily n_splits n_boilings n_fizzles) ++ (w_X3 y a pa na ta ha sl q_saved q_runs q_themes q_storyHeats ++ (w_X1 y pa p_characters p_length ++ (w_X2 y ta t_settings t_letters t_heats t_starts t_families t_generations t_tally t_stories t_nextFamily t_splits t_boilings t_fizzles ++ (w_X0 y ha hsb h_v_4 h_oldest_5 h_size_6 ++ (w_SL y sl ssb s_v)))))) H locs := GG.blk (fun k => match k with | 0 => w_X3 y a pa na ta ha sl q_saved q_runs q_themes q_storyHeats | 1 => w_X1 y pa p_characters p_length | 2 => w_X2 y na n_settings n_letters n_heats_9 n_starts n_families n_generations n_tally n_stories n_nextFamily n_splits n_boilings n_fizzles | 3 => w_X2 y ta t_settings t_letters t_heats t_starts t_families t_generations t_tally t_stories t_nextFamily t_splits t_boilings t_fizzles | 4 => w_X0 y ha hsb h_v_4 h_oldest_5 h_size_6 | _ => w_SL y sl ssb s_v) [0, 1, 2, 3, 4, 5] [2, 0, 1, 3, 4, 5] (blkp _ _ rfl) _ _ rfl rfl hG
        refine k_Pi F hK hA hG (c_X2_words l D y na H.size Fu n_settings n_letters n_heats_9 n_starts n_families n_generations n_tally n_stories n_nextFamily n_splits n_boilings n_fizzles r10 h11) (cwV 0 F.2.2.2.2 gX3_pass_X2_words rfl rfl rfl (by decide +kernel) ⟨Nat.le_of_ble_eq_true rfl, Nat.le_of_ble_eq_true rfl⟩) 0 rfl rfl rfl rfl rfl hl.1 (Nat.le_of_ble_eq_true rfl) dX3_pass_43 ⟨Nat.le_refl 0, Nat.le_refl 0⟩ (fun H locs hG => ?_)
        have hG : GG D A s.heap (w_X3 y a pa na ta ha sl q_saved q_runs q_themes q_storyHeats ++ (w_X1 y pa p_characters p_length ++ (w_X2 y na n_settings n_letters n_heats_9 n_starts n_families n_generations n_tally n_stories n_nextFamily n_splits n_boilings n_fizzles ++ (w_X2 y ta t_settings t_letters t_heats t_starts t_families t_generations t_tally t_stories t_nextFamily t_splits t_boilings t_fizzles ++ (w_X0 y ha hsb h_v_4 h_oldest_5 h_size_6 ++ w_SL y sl ssb s_v))))) H locs := GG.blk (fun k => match k with | 0 => w_X3 y a pa na ta ha sl q_saved q_runs q_themes q_storyHeats | 1 => w_X1 y pa p_characters p_length | 2 => w_X2 y na n_settings n_letters n_heats_9 n_starts n_families n_generations n_tally n_stories n_nextFamily n_splits n_boilings n_fizzles | 3 => w_X2 y ta t_settings t_letters t_heats t_starts t_families t_generations t_tally t_stories t_nextFamily t_splits t_boilings t_fizzles | 4 => w_X0 y ha hsb h_v_4 h_oldest_5 h_size_6 | _ => w_SL y sl ssb s_v) [2, 0, 1, 3, 4, 5] [0, 1, 2, 3, 4, 5] (blkp _ _ rfl) _ _ rfl rfl hG
        refine lv_icmp_ge (tgt := 79) hx hb dX3_pass_46 (by decide) (fun c12 => ?_) (fun c12 => ?_)
        · have hf := it_e c12 hf
          exact hk_38 n_heats_9 _ _ ls hf hG (lv_sub hl [0] rfl)
        · have hf := if_e c12 hf
          refine lv_aload_n hx hb dX3_pass_49 rfl (lv_at hl 0 rfl) ?_
          refine w_get3 F hK hG k1 0 rfl 0 (by decide) k2 rfl dX3_pass_50 ?_
          refine w_get2 F hK hG k4 7 rfl 2 (by decide) k5 rfl dX3_pass_53 ?_
          refine lv_iload_n hx hb dX3_pass_56 rfl (lv_at hl 2 rfl) ?_
          refine lv_iconst (v := nI 0) hx hb dX3_pass_57 rfl ?_
          refine lv_aload_n hx hb dX3_pass_58 rfl (lv_at hl 0 rfl) ?_
          refine w_get3 F hK hG k1 0 rfl 0 (by decide) k2 rfl dX3_pass_59 ?_
          refine w_get2 F hK hG k4 7 rfl 2 (by decide) k5 rfl dX3_pass_62 ?_
          refine lv_iload_n hx hb dX3_pass_65 rfl (lv_at hl 2 rfl) ?_
          obtain ⟨g13, hf⟩ := gd_e hf
          refine w_iald F hK hG 10 rfl g13 dX3_pass_66 ?_
          refine lv_iload_n hx hb dX3_pass_67 rfl (lv_at hl 1 rfl) ?_
          refine lv_isub hx hb dX3_pass_68 ?_
          refine w_max F hl.1 k6 k7 k8 k9 ⟨Nat.le_of_ble_eq_true rfl, Nat.le_of_ble_eq_true rfl⟩ ⟨Nat.le_refl 0, Nat.le_refl 0⟩ dX3_pass_69 ?_
          obtain ⟨g14, hf⟩ := gd_e hf
          refine w_iast F hK hG 10 rfl g14 (w_X3 y a pa na ta ha sl q_saved q_runs q_themes q_storyHeats ++ (w_X1 y pa p_characters p_length ++ (w_X2 y na n_settings n_letters (upd n_heats_9 (x8).toNatClampNeg (jmax (nI 0) ((n_heats_9 (x8).toNatClampNeg) - (p1 * (n_settings 2))))) n_starts n_families n_generations n_tally n_stories n_nextFamily n_splits n_boilings n_fizzles ++ (w_X2 y ta t_settings t_letters t_heats t_starts t_families t_generations t_tally t_stories t_nextFamily t_splits t_boilings t_fizzles ++ (w_X0 y ha hsb h_v_4 h_oldest_5 h_size_6 ++ w_SL y sl ssb s_v))))) rfl dX3_pass_72 (fun H locs hG => ?_)
          obtain ⟨n_heats_15, en_heats_15, hf⟩ := nm_o hf
          rw [← en_heats_15] at hG
          refine lv_iinc (v := x8 + (nI 1)) (lv' := [(3, .int (x8 + (nI 1))), (0, .ref (a 0)), (2, .int (p1 * (n_settings 2)))]) hx hb dX3_pass_73 hl (k := 2) rfl rfl (by decide) rfl (fun ls hl => ?_)
          refine lv_goto (tgt := 38) hx hb dX3_pass_76 (by decide) ?_
          exact ih (x8 + (nI 1)) n_heats_15 _ _ ls hf hG (lv_sub hl [1, 2, 0] rfl)
    exact hL38 Fu (nI 0) n_heats _ _ ls hf hG (lv_sub hl [2, 1, 0] rfl)
  · have hf := it_e c3 hf
    refine lv_bipush (v := -2) hx hb dX3_pass_10 rfl ?_
    have hf := so_e hf
    have e0 : (-2) = ro := congrArg (fun z => z.1) hf
    have e1 : n_heats = n_heats_o := congrArg (fun z => z.2.1) hf
    have e2 : h_v = h_v_o := congrArg (fun z => z.2.2.1) hf
    have e3 : h_oldest = h_oldest_o := congrArg (fun z => z.2.2.2.1) hf
    have e4 : h_size = h_size_o := congrArg (fun z => z.2.2.2.2) hf
    exact hret _ _ _ _ _ e0 (by rw [← e1, ← e2, ← e3, ← e4]; exact hG) dX3_pass_12
set_option maxHeartbeats 1000000 in
set_option maxRecDepth 100000 in
theorem c_X3_burn (l : Launch) (D : va_G) (y : Nat → ClassId) (a pa na ta ha : Nat → Nat) (hsb : Nat → Nat → Nat) (sl : Nat) (ssb : Nat → Nat → Nat) (sz : Nat) (Fu : Nat) (q_saved : Ar) (q_runs : Ar) (q_themes : Ar) (q_storyHeats : Ar) (p_characters : Ar) (p_length : Int32) (n_settings : Ar) (n_letters : Ar) (n_heats : Ar) (n_starts : Ar) (n_families : Ar) (n_generations : Ar) (n_tally : Ar) (n_stories : Int32) (n_nextFamily : Int32) (n_splits : Int32) (n_boilings : Int32) (n_fizzles : Int32) (t_settings : Ar) (t_letters : Ar) (t_heats : Ar) (t_starts : Ar) (t_families : Ar) (t_generations : Ar) (t_tally : Ar) (t_stories : Int32) (t_nextFamily : Int32) (t_splits : Int32) (t_boilings : Int32) (t_fizzles : Int32) (h_v : (Nat → SV)) (h_oldest : Int32) (h_size : Int32) (s_v : (Nat → SV)) (p1 : Int32) (ro : Int32) (n_letters_o : Ar) (n_heats_o : Ar) (n_starts_o : Ar) (n_families_o : Ar) (n_generations_o : Ar) (n_stories_o : Int32) (h_v_o : (Nat → SV)) (h_oldest_o : Int32) (h_size_o : Int32) (hf : f_X3_burn Fu n_settings n_letters n_heats n_starts n_families n_generations n_stories n_nextFamily n_splits n_boilings n_fizzles h_v h_oldest h_size p1 = some (ro, n_letters_o, n_heats_o, n_starts_o, n_families_o, n_generations_o, n_stories_o, h_v_o, h_oldest_o, h_size_o)) : MI l yX3_burn wsX3_burn 3 83 [.ref (a 0), .int p1] D y (w_X3 y a pa na ta ha sl q_saved q_runs q_themes q_storyHeats ++ (w_X1 y pa p_characters p_length ++ (w_X2 y na n_settings n_letters n_heats n_starts n_families n_generations n_tally n_stories n_nextFamily n_splits n_boilings n_fizzles ++ (w_X2 y ta t_settings t_letters t_heats t_starts t_families t_generations t_tally t_stories t_nextFamily t_splits t_boilings t_fizzles ++ (w_X0 y ha hsb h_v h_oldest h_size ++ w_SL y sl ssb s_v))))) sz ro (w_X3 y a pa na ta ha sl q_saved q_runs q_themes q_storyHeats ++ (w_X1 y pa p_characters p_length ++ (w_X2 y na n_settings n_letters_o n_heats_o n_starts_o n_families_o n_generations_o n_tally n_stories_o n_nextFamily n_splits n_boilings n_fizzles ++ (w_X2 y ta t_settings t_letters t_heats t_starts t_families t_generations t_tally t_stories t_nextFamily t_splits t_boilings t_fizzles ++ (w_X0 y ha hsb h_v_o h_oldest_o h_size_o ++ w_SL y sl ssb s_v))))) := by
  refine M_i (cc := cX3_burn) (maxL := 3) (own := RX3) (by decide) rfl rfl (Nat.le_of_ble_eq_true rfl) ?_
  intro p e s m args below meth c A Q F hK hA H locs hG hret ls hl
  have hx := F.1
  have hb := F.2.1
  have hl : lv_has ls 3 [(0, .ref (a 0)), (1, .int p1)] := hl
  have k0 := F.2.2.2.2 (.fieldLink RX3 10 "HeatedStories" "now" "LHeatedStories$Shelf;") (List.mem_of_getElem? (i := 1) rfl)
  have k1 : ∀ w ∈ wsX30, w ∈ wsX3_burn := (fun w h => List.mem_cons_of_mem _ (List.mem_append_left _ (List.mem_append_left _ (List.mem_append_right _ (h)))))
  have k2 := F.2.2.2.2 (.fieldLink RX3 22 "HeatedStories" "history" "LHeatedStories$History;") (List.mem_of_getElem? (i := 2) rfl)
  unfold f_X3_burn at hf
  refine lv_aload_n hx hb dX3_burn_0 rfl (lv_at hl 0 rfl) ?_
  refine w_get3 F hK hG k1 0 rfl 0 (by decide) k0 rfl dX3_burn_1 ?_
  refine lv_iload_n hx hb dX3_burn_4 rfl (lv_at hl 1 rfl) ?_
  obtain ⟨r1, h2, hf⟩ := bd1_e hf
  have hG : GG D A s.heap ((w_X2 y na n_settings n_letters n_heats n_starts n_families n_generations n_tally n_stories n_nextFamily n_splits n_boilings n_fizzles) ++ (w_X3 y a pa na ta ha sl q_saved q_runs q_themes q_storyHeats ++ (w_X1 y pa p_characters p_length ++ (w_X2 y ta t_settings t_letters t_heats t_starts t_families t_generations t_tally t_stories t_nextFamily t_splits t_boilings t_fizzles ++ (w_X0 y ha hsb h_v h_oldest h_size ++ (w_SL y sl ssb s_v)))))) H locs := GG.blk (fun k => match k with | 0 => w_X3 y a pa na ta ha sl q_saved q_runs q_themes q_storyHeats | 1 => w_X1 y pa p_characters p_length | 2 => w_X2 y na n_settings n_letters n_heats n_starts n_families n_generations n_tally n_stories n_nextFamily n_splits n_boilings n_fizzles | 3 => w_X2 y ta t_settings t_letters t_heats t_starts t_families t_generations t_tally t_stories t_nextFamily t_splits t_boilings t_fizzles | 4 => w_X0 y ha hsb h_v h_oldest h_size | _ => w_SL y sl ssb s_v) [0, 1, 2, 3, 4, 5] [2, 0, 1, 3, 4, 5] (blkp _ _ rfl) _ _ rfl rfl hG
  refine k_Pi F hK hA hG (c_X2_hasStory l D y na H.size Fu n_settings n_letters n_heats n_starts n_families n_generations n_tally n_stories n_nextFamily n_splits n_boilings n_fizzles p1 r1 h2) (cwV 1 F.2.2.2.2 gX3_burn_X2_hasStory rfl rfl rfl (by decide +kernel) ⟨Nat.le_of_ble_eq_true rfl, Nat.le_of_ble_eq_true rfl⟩) 0 rfl rfl rfl rfl rfl hl.1 (Nat.le_of_ble_eq_true rfl) dX3_burn_5 ⟨Nat.le_refl 0, Nat.le_refl 0⟩ (fun H locs hG => ?_)
  have hG : GG D A s.heap (w_X3 y a pa na ta ha sl q_saved q_runs q_themes q_storyHeats ++ (w_X1 y pa p_characters p_length ++ (w_X2 y na n_settings n_letters n_heats n_starts n_families n_generations n_tally n_stories n_nextFamily n_splits n_boilings n_fizzles ++ (w_X2 y ta t_settings t_letters t_heats t_starts t_families t_generations t_tally t_stories t_nextFamily t_splits t_boilings t_fizzles ++ (w_X0 y ha hsb h_v h_oldest h_size ++ w_SL y sl ssb s_v))))) H locs := GG.blk (fun k => match k with | 0 => w_X3 y a pa na ta ha sl q_saved q_runs q_themes q_storyHeats | 1 => w_X1 y pa p_characters p_length | 2 => w_X2 y na n_settings n_letters n_heats n_starts n_families n_generations n_tally n_stories n_nextFamily n_splits n_boilings n_fizzles | 3 => w_X2 y ta t_settings t_letters t_heats t_starts t_families t_generations t_tally t_stories t_nextFamily t_splits t_boilings t_fizzles | 4 => w_X0 y ha hsb h_v h_oldest h_size | _ => w_SL y sl ssb s_v) [2, 0, 1, 3, 4, 5] [0, 1, 2, 3, 4, 5] (blkp _ _ rfl) _ _ rfl rfl hG
  refine lv_if_ne (tgt := 13) hx hb dX3_burn_8 (by decide) (fun c3 => ?_) (fun c3 => ?_)
  · have hf := if_e c3 hf
    refine lv_aload_n hx hb dX3_burn_13 rfl (lv_at hl 0 rfl) ?_
    refine w_get3 F hK hG k1 0 rfl 2 (by decide) k2 rfl dX3_burn_14 ?_
    refine lv_aload_n hx hb dX3_burn_17 rfl (lv_at hl 0 rfl) ?_
    refine w_get3 F hK hG k1 0 rfl 0 (by decide) k0 rfl dX3_burn_18 ?_
    obtain ⟨h_v_4, h_oldest_5, h_size_6, h7, hf⟩ := bd3_e hf
    have hG : GG D A s.heap ((w_X0 y ha hsb h_v h_oldest h_size ++ (w_X2 y na n_settings n_letters n_heats n_starts n_families n_generations n_tally n_stories n_nextFamily n_splits n_boilings n_fizzles)) ++ (w_X3 y a pa na ta ha sl q_saved q_runs q_themes q_storyHeats ++ (w_X1 y pa p_characters p_length ++ (w_X2 y ta t_settings t_letters t_heats t_starts t_families t_generations t_tally t_stories t_nextFamily t_splits t_boilings t_fizzles ++ (w_SL y sl ssb s_v))))) H locs := GG.blk (fun k => match k with | 0 => w_X3 y a pa na ta ha sl q_saved q_runs q_themes q_storyHeats | 1 => w_X1 y pa p_characters p_length | 2 => w_X2 y na n_settings n_letters n_heats n_starts n_families n_generations n_tally n_stories n_nextFamily n_splits n_boilings n_fizzles | 3 => w_X2 y ta t_settings t_letters t_heats t_starts t_families t_generations t_tally t_stories t_nextFamily t_splits t_boilings t_fizzles | 4 => w_X0 y ha hsb h_v h_oldest h_size | _ => w_SL y sl ssb s_v) [0, 1, 2, 3, 4, 5] [4, 2, 0, 1, 3, 5] (blkp _ _ rfl) _ _ rfl (List.append_assoc (w_X0 y ha hsb h_v h_oldest h_size) (w_X2 y na n_settings n_letters n_heats n_starts n_families n_generations n_tally n_stories n_nextFamily n_splits n_boilings n_fizzles) (w_X3 y a pa na ta ha sl q_saved q_runs q_themes q_storyHeats ++ (w_X1 y pa p_characters p_length ++ (w_X2 y ta t_settings t_letters t_heats t_starts t_families t_generations t_tally t_stories t_nextFamily t_splits t_boilings t_fizzles ++ (w_SL y sl ssb s_v))))).symm hG
    refine k_Pv F hK hA hG (c_X0_record l D y ha na hsb H.size Fu h_v h_oldest h_size n_settings n_letters n_heats n_starts n_families n_generations n_tally n_stories n_nextFamily n_splits n_boilings n_fizzles h_v_4 h_oldest_5 h_size_6 h7) (cwV 1 F.2.2.2.2 gX3_burn_X0_record rfl rfl rfl (by decide +kernel) ⟨Nat.le_of_ble_eq_true rfl, Nat.le_of_ble_eq_true rfl⟩) 0 rfl rfl (adr_app (adr_X0 ..) rfl) rfl rfl hl.1 (Nat.le_of_ble_eq_true rfl) dX3_burn_21 ⟨Nat.le_refl 0, Nat.le_refl 0⟩ (fun H locs hG => ?_)
    have hG : GG D A s.heap (w_X3 y a pa na ta ha sl q_saved q_runs q_themes q_storyHeats ++ (w_X1 y pa p_characters p_length ++ (w_X2 y na n_settings n_letters n_heats n_starts n_families n_generations n_tally n_stories n_nextFamily n_splits n_boilings n_fizzles ++ (w_X2 y ta t_settings t_letters t_heats t_starts t_families t_generations t_tally t_stories t_nextFamily t_splits t_boilings t_fizzles ++ (w_X0 y ha hsb h_v_4 h_oldest_5 h_size_6 ++ w_SL y sl ssb s_v))))) H locs := GG.blk (fun k => match k with | 0 => w_X3 y a pa na ta ha sl q_saved q_runs q_themes q_storyHeats | 1 => w_X1 y pa p_characters p_length | 2 => w_X2 y na n_settings n_letters n_heats n_starts n_families n_generations n_tally n_stories n_nextFamily n_splits n_boilings n_fizzles | 3 => w_X2 y ta t_settings t_letters t_heats t_starts t_families t_generations t_tally t_stories t_nextFamily t_splits t_boilings t_fizzles | 4 => w_X0 y ha hsb h_v_4 h_oldest_5 h_size_6 | _ => w_SL y sl ssb s_v) [4, 2, 0, 1, 3, 5] [0, 1, 2, 3, 4, 5] (blkp _ _ rfl) _ _ (List.append_assoc (w_X0 y ha hsb h_v_4 h_oldest_5 h_size_6) (w_X2 y na n_settings n_letters n_heats n_starts n_families n_generations n_tally n_stories n_nextFamily n_splits n_boilings n_fizzles) (w_X3 y a pa na ta ha sl q_saved q_runs q_themes q_storyHeats ++ (w_X1 y pa p_characters p_length ++ (w_X2 y ta t_settings t_letters t_heats t_starts t_families t_generations t_tally t_stories t_nextFamily t_splits t_boilings t_fizzles ++ (w_SL y sl ssb s_v))))) rfl hG
    refine lv_aload_n hx hb dX3_burn_24 rfl (lv_at hl 0 rfl) ?_
    refine w_get3 F hK hG k1 0 rfl 0 (by decide) k0 rfl dX3_burn_25 ?_
    refine lv_iload_n hx hb dX3_burn_28 rfl (lv_at hl 1 rfl) ?_
    obtain ⟨r8, h9, hf⟩ := bd1_e hf
    have hG : GG D A s.heap ((w_X2 y na n_settings n_letters n_heats n_starts n_families n_generations n_tally n_stories n_nextFamily n_splits n_boilings n_fizzles) ++ (w_X3 y a pa na ta ha sl q_saved q_runs q_themes q_storyHeats ++ (w_X1 y pa p_characters p_length ++ (w_X2 y ta t_settings t_letters t_heats t_starts t_families t_generations t_tally t_stories t_nextFamily t_splits t_boilings t_fizzles ++ (w_X0 y ha hsb h_v_4 h_oldest_5 h_size_6 ++ (w_SL y sl ssb s_v)))))) H locs := GG.blk (fun k => match k with | 0 => w_X3 y a pa na ta ha sl q_saved q_runs q_themes q_storyHeats | 1 => w_X1 y pa p_characters p_length | 2 => w_X2 y na n_settings n_letters n_heats n_starts n_families n_generations n_tally n_stories n_nextFamily n_splits n_boilings n_fizzles | 3 => w_X2 y ta t_settings t_letters t_heats t_starts t_families t_generations t_tally t_stories t_nextFamily t_splits t_boilings t_fizzles | 4 => w_X0 y ha hsb h_v_4 h_oldest_5 h_size_6 | _ => w_SL y sl ssb s_v) [0, 1, 2, 3, 4, 5] [2, 0, 1, 3, 4, 5] (blkp _ _ rfl) _ _ rfl rfl hG
    refine k_Pi F hK hA hG (c_X2_sizeOf l D y na H.size Fu n_settings n_letters n_heats n_starts n_families n_generations n_tally n_stories n_nextFamily n_splits n_boilings n_fizzles p1 r8 h9) (cwV 1 F.2.2.2.2 gX3_burn_X2_sizeOf rfl rfl rfl (by decide +kernel) ⟨Nat.le_of_ble_eq_true rfl, Nat.le_of_ble_eq_true rfl⟩) 0 rfl rfl rfl rfl rfl hl.1 (Nat.le_of_ble_eq_true rfl) dX3_burn_29 ⟨Nat.le_refl 0, Nat.le_refl 0⟩ (fun H locs hG => ?_)
    have hG : GG D A s.heap (w_X3 y a pa na ta ha sl q_saved q_runs q_themes q_storyHeats ++ (w_X1 y pa p_characters p_length ++ (w_X2 y na n_settings n_letters n_heats n_starts n_families n_generations n_tally n_stories n_nextFamily n_splits n_boilings n_fizzles ++ (w_X2 y ta t_settings t_letters t_heats t_starts t_families t_generations t_tally t_stories t_nextFamily t_splits t_boilings t_fizzles ++ (w_X0 y ha hsb h_v_4 h_oldest_5 h_size_6 ++ w_SL y sl ssb s_v))))) H locs := GG.blk (fun k => match k with | 0 => w_X3 y a pa na ta ha sl q_saved q_runs q_themes q_storyHeats | 1 => w_X1 y pa p_characters p_length | 2 => w_X2 y na n_settings n_letters n_heats n_starts n_families n_generations n_tally n_stories n_nextFamily n_splits n_boilings n_fizzles | 3 => w_X2 y ta t_settings t_letters t_heats t_starts t_families t_generations t_tally t_stories t_nextFamily t_splits t_boilings t_fizzles | 4 => w_X0 y ha hsb h_v_4 h_oldest_5 h_size_6 | _ => w_SL y sl ssb s_v) [2, 0, 1, 3, 4, 5] [0, 1, 2, 3, 4, 5] (blkp _ _ rfl) _ _ rfl rfl hG
    refine lv_istore_n (lv' := [(2, .int r8), (0, .ref (a 0)), (1, .int p1)]) hx hb dX3_burn_32 rfl hl (by decide) rfl (fun ls hl => ?_)
    refine lv_aload_n hx hb dX3_burn_33 rfl (lv_at hl 1 rfl) ?_
    refine w_get3 F hK hG k1 0 rfl 0 (by decide) k0 rfl dX3_burn_34 ?_
    refine lv_iload_n hx hb dX3_burn_37 rfl (lv_at hl 2 rfl) ?_
    obtain ⟨n_letters_10, n_heats_11, n_starts_12, n_families_13, n_generations_14, n_stories_15, h16, hf⟩ := bd6_e hf
    have hG : GG D A s.heap ((w_X2 y na n_settings n_letters n_heats n_starts n_families n_generations n_tally n_stories n_nextFamily n_splits n_boilings n_fizzles) ++ (w_X3 y a pa na ta ha sl q_saved q_runs q_themes q_storyHeats ++ (w_X1 y pa p_characters p_length ++ (w_X2 y ta t_settings t_letters t_heats t_starts t_families t_generations t_tally t_stories t_nextFamily t_splits t_boilings t_fizzles ++ (w_X0 y ha hsb h_v_4 h_oldest_5 h_size_6 ++ (w_SL y sl ssb s_v)))))) H locs := GG.blk (fun k => match k with | 0 => w_X3 y a pa na ta ha sl q_saved q_runs q_themes q_storyHeats | 1 => w_X1 y pa p_characters p_length | 2 => w_X2 y na n_settings n_letters n_heats n_starts n_families n_generations n_tally n_stories n_nextFamily n_splits n_boilings n_fizzles | 3 => w_X2 y ta t_settings t_letters t_heats t_starts t_families t_generations t_tally t_stories t_nextFamily t_splits t_boilings t_fizzles | 4 => w_X0 y ha hsb h_v_4 h_oldest_5 h_size_6 | _ => w_SL y sl ssb s_v) [0, 1, 2, 3, 4, 5] [2, 0, 1, 3, 4, 5] (blkp _ _ rfl) _ _ rfl rfl hG
    refine k_Pv F hK hA hG (c_X2_remove l D y na H.size Fu n_settings n_letters n_heats n_starts n_families n_generations n_tally n_stories n_nextFamily n_splits n_boilings n_fizzles p1 n_letters_10 n_heats_11 n_starts_12 n_families_13 n_generations_14 n_stories_15 h16) (cwV 1 F.2.2.2.2 gX3_burn_X2_remove rfl rfl rfl (by decide +kernel) ⟨Nat.le_of_ble_eq_true rfl, Nat.le_of_ble_eq_true rfl⟩) 0 rfl rfl rfl rfl rfl hl.1 (Nat.le_of_ble_eq_true rfl) dX3_burn_38 ⟨Nat.le_refl 0, Nat.le_refl 0⟩ (fun H locs hG => ?_)
    have hG : GG D A s.heap (w_X3 y a pa na ta ha sl q_saved q_runs q_themes q_storyHeats ++ (w_X1 y pa p_characters p_length ++ (w_X2 y na n_settings n_letters_10 n_heats_11 n_starts_12 n_families_13 n_generations_14 n_tally n_stories_15 n_nextFamily n_splits n_boilings n_fizzles ++ (w_X2 y ta t_settings t_letters t_heats t_starts t_families t_generations t_tally t_stories t_nextFamily t_splits t_boilings t_fizzles ++ (w_X0 y ha hsb h_v_4 h_oldest_5 h_size_6 ++ w_SL y sl ssb s_v))))) H locs := GG.blk (fun k => match k with | 0 => w_X3 y a pa na ta ha sl q_saved q_runs q_themes q_storyHeats | 1 => w_X1 y pa p_characters p_length | 2 => w_X2 y na n_settings n_letters_10 n_heats_11 n_starts_12 n_families_13 n_generations_14 n_tally n_stories_15 n_nextFamily n_splits n_boilings n_fizzles | 3 => w_X2 y ta t_settings t_letters t_heats t_starts t_families t_generations t_tally t_stories t_nextFamily t_splits t_boilings t_fizzles | 4 => w_X0 y ha hsb h_v_4 h_oldest_5 h_size_6 | _ => w_SL y sl ssb s_v) [2, 0, 1, 3, 4, 5] [0, 1, 2, 3, 4, 5] (blkp _ _ rfl) _ _ rfl rfl hG
    refine lv_iload_n hx hb dX3_burn_41 rfl (lv_at hl 0 rfl) ?_
    have hf := so_e hf
    have e0 : r8 = ro := congrArg (fun z => z.1) hf
    have e1 : n_letters_10 = n_letters_o := congrArg (fun z => z.2.1) hf
    have e2 : n_heats_11 = n_heats_o := congrArg (fun z => z.2.2.1) hf
    have e3 : n_starts_12 = n_starts_o := congrArg (fun z => z.2.2.2.1) hf
    have e4 : n_families_13 = n_families_o := congrArg (fun z => z.2.2.2.2.1) hf
    have e5 : n_generations_14 = n_generations_o := congrArg (fun z => z.2.2.2.2.2.1) hf
    have e6 : n_stories_15 = n_stories_o := congrArg (fun z => z.2.2.2.2.2.2.1) hf
    have e7 : h_v_4 = h_v_o := congrArg (fun z => z.2.2.2.2.2.2.2.1) hf
    have e8 : h_oldest_5 = h_oldest_o := congrArg (fun z => z.2.2.2.2.2.2.2.2.1) hf
    have e9 : h_size_6 = h_size_o := congrArg (fun z => z.2.2.2.2.2.2.2.2.2) hf
    exact hret _ _ _ _ _ e0 (by rw [← e1, ← e2, ← e3, ← e4, ← e5, ← e6, ← e7, ← e8, ← e9]; exact hG) dX3_burn_42
  · have hf := it_e c3 hf
    refine lv_iconst (v := -1) hx hb dX3_burn_11 rfl ?_
    have hf := so_e hf
    have e0 : (-1) = ro := congrArg (fun z => z.1) hf
    have e1 : n_letters = n_letters_o := congrArg (fun z => z.2.1) hf
    have e2 : n_heats = n_heats_o := congrArg (fun z => z.2.2.1) hf
    have e3 : n_starts = n_starts_o := congrArg (fun z => z.2.2.2.1) hf
    have e4 : n_families = n_families_o := congrArg (fun z => z.2.2.2.2.1) hf
    have e5 : n_generations = n_generations_o := congrArg (fun z => z.2.2.2.2.2.1) hf
    have e6 : n_stories = n_stories_o := congrArg (fun z => z.2.2.2.2.2.2.1) hf
    have e7 : h_v = h_v_o := congrArg (fun z => z.2.2.2.2.2.2.2.1) hf
    have e8 : h_oldest = h_oldest_o := congrArg (fun z => z.2.2.2.2.2.2.2.2.1) hf
    have e9 : h_size = h_size_o := congrArg (fun z => z.2.2.2.2.2.2.2.2.2) hf
    exact hret _ _ _ _ _ e0 (by rw [← e1, ← e2, ← e3, ← e4, ← e5, ← e6, ← e7, ← e8, ← e9]; exact hG) dX3_burn_12
set_option maxHeartbeats 1000000 in
set_option maxRecDepth 100000 in
theorem c_X3_word (l : Launch) (D : va_G) (y : Nat → ClassId) (a pa na ta ha : Nat → Nat) (hsb : Nat → Nat → Nat) (sl : Nat) (ssb : Nat → Nat → Nat) (sz : Nat) (Fu : Nat) (q_saved : Ar) (q_runs : Ar) (q_themes : Ar) (q_storyHeats : Ar) (p_characters : Ar) (p_length : Int32) (n_settings : Ar) (n_letters : Ar) (n_heats : Ar) (n_starts : Ar) (n_families : Ar) (n_generations : Ar) (n_tally : Ar) (n_stories : Int32) (n_nextFamily : Int32) (n_splits : Int32) (n_boilings : Int32) (n_fizzles : Int32) (t_settings : Ar) (t_letters : Ar) (t_heats : Ar) (t_starts : Ar) (t_families : Ar) (t_generations : Ar) (t_tally : Ar) (t_stories : Int32) (t_nextFamily : Int32) (t_splits : Int32) (t_boilings : Int32) (t_fizzles : Int32) (h_v : (Nat → SV)) (h_oldest : Int32) (h_size : Int32) (s_v : (Nat → SV)) (p1 : Int32) (p2 : Int32) (p3 : Int32) (ro : Int32) (hf : f_X3_word Fu n_letters n_heats n_starts n_stories p1 p2 p3 = some (ro)) : MI l yX3_word wsX3_word 3 65 [.ref (a 0), .int p1, .int p2, .int p3] D y (w_X3 y a pa na ta ha sl q_saved q_runs q_themes q_storyHeats ++ (w_X1 y pa p_characters p_length ++ (w_X2 y na n_settings n_letters n_heats n_starts n_families n_generations n_tally n_stories n_nextFamily n_splits n_boilings n_fizzles ++ (w_X2 y ta t_settings t_letters t_heats t_starts t_families t_generations t_tally t_stories t_nextFamily t_splits t_boilings t_fizzles ++ (w_X0 y ha hsb h_v h_oldest h_size ++ w_SL y sl ssb s_v))))) sz ro (w_X3 y a pa na ta ha sl q_saved q_runs q_themes q_storyHeats ++ (w_X1 y pa p_characters p_length ++ (w_X2 y na n_settings n_letters n_heats n_starts n_families n_generations n_tally n_stories n_nextFamily n_splits n_boilings n_fizzles ++ (w_X2 y ta t_settings t_letters t_heats t_starts t_families t_generations t_tally t_stories t_nextFamily t_splits t_boilings t_fizzles ++ (w_X0 y ha hsb h_v h_oldest h_size ++ w_SL y sl ssb s_v))))) := by
  refine M_i (cc := cX3_word) (maxL := 5) (own := RX3) (by decide) rfl rfl (Nat.le_of_ble_eq_true rfl) ?_
  intro p e s m args below meth c A Q F hK hA H locs hG hret ls hl
  have hx := F.1
  have hb := F.2.1
  have hl : lv_has ls 5 [(0, .ref (a 0)), (1, .int p1), (2, .int p2), (3, .int p3)] := hl
  have k0 := F.2.2.2.2 (.fieldLink RX3 10 "HeatedStories" "now" "LHeatedStories$Shelf;") (List.mem_of_getElem? (i := 1) rfl)
  have k1 : ∀ w ∈ wsX30, w ∈ wsX3_word := (fun w h => List.mem_cons_of_mem _ (List.mem_append_left _ (List.mem_append_right _ (h))))
  have k2 := F.2.2.2.2 (.fieldLink RX3 98 "HeatedStories$Shelf" "starts" "[I") (List.mem_of_getElem? (i := 2) rfl)
  have k3 : ∀ w ∈ wsX20, w ∈ wsX3_word := (fun w h => List.mem_cons_of_mem _ (List.mem_append_right _ (h)))
  have k4 := F.2.2.2.2 (.fieldLink RX3 142 "HeatedStories$Shelf" "letters" "[I") (List.mem_of_getElem? (i := 3) rfl)
  have k5 := F.2.2.2.2 (.fieldLink RX3 133 "HeatedStories$Shelf" "heats" "[I") (List.mem_of_getElem? (i := 4) rfl)
  unfold f_X3_word at hf
  refine lv_aload_n hx hb dX3_word_0 rfl (lv_at hl 0 rfl) ?_
  refine w_get3 F hK hG k1 0 rfl 0 (by decide) k0 rfl dX3_word_1 ?_
  refine lv_iload_n hx hb dX3_word_4 rfl (lv_at hl 1 rfl) ?_
  refine lv_iload_n hx hb dX3_word_5 rfl (lv_at hl 2 rfl) ?_
  obtain ⟨r1, h2, hf⟩ := bd1_e hf
  have hG : GG D A s.heap ((w_X2 y na n_settings n_letters n_heats n_starts n_families n_generations n_tally n_stories n_nextFamily n_splits n_boilings n_fizzles) ++ (w_X3 y a pa na ta ha sl q_saved q_runs q_themes q_storyHeats ++ (w_X1 y pa p_characters p_length ++ (w_X2 y ta t_settings t_letters t_heats t_starts t_families t_generations t_tally t_stories t_nextFamily t_splits t_boilings t_fizzles ++ (w_X0 y ha hsb h_v h_oldest h_size ++ (w_SL y sl ssb s_v)))))) H locs := GG.blk (fun k => match k with | 0 => w_X3 y a pa na ta ha sl q_saved q_runs q_themes q_storyHeats | 1 => w_X1 y pa p_characters p_length | 2 => w_X2 y na n_settings n_letters n_heats n_starts n_families n_generations n_tally n_stories n_nextFamily n_splits n_boilings n_fizzles | 3 => w_X2 y ta t_settings t_letters t_heats t_starts t_families t_generations t_tally t_stories t_nextFamily t_splits t_boilings t_fizzles | 4 => w_X0 y ha hsb h_v h_oldest h_size | _ => w_SL y sl ssb s_v) [0, 1, 2, 3, 4, 5] [2, 0, 1, 3, 4, 5] (blkp _ _ rfl) _ _ rfl rfl hG
  refine k_Pi F hK hA hG (c_X2_hasWord l D y na H.size Fu n_settings n_letters n_heats n_starts n_families n_generations n_tally n_stories n_nextFamily n_splits n_boilings n_fizzles p1 p2 r1 h2) (cwV 2 F.2.2.2.2 gX3_word_X2_hasWord rfl rfl rfl (by decide +kernel) ⟨Nat.le_of_ble_eq_true rfl, Nat.le_of_ble_eq_true rfl⟩) 0 rfl rfl rfl rfl rfl hl.1 (Nat.le_of_ble_eq_true rfl) dX3_word_6 ⟨Nat.le_refl 0, Nat.le_refl 0⟩ (fun H locs hG => ?_)
  have hG : GG D A s.heap (w_X3 y a pa na ta ha sl q_saved q_runs q_themes q_storyHeats ++ (w_X1 y pa p_characters p_length ++ (w_X2 y na n_settings n_letters n_heats n_starts n_families n_generations n_tally n_stories n_nextFamily n_splits n_boilings n_fizzles ++ (w_X2 y ta t_settings t_letters t_heats t_starts t_families t_generations t_tally t_stories t_nextFamily t_splits t_boilings t_fizzles ++ (w_X0 y ha hsb h_v h_oldest h_size ++ w_SL y sl ssb s_v))))) H locs := GG.blk (fun k => match k with | 0 => w_X3 y a pa na ta ha sl q_saved q_runs q_themes q_storyHeats | 1 => w_X1 y pa p_characters p_length | 2 => w_X2 y na n_settings n_letters n_heats n_starts n_families n_generations n_tally n_stories n_nextFamily n_splits n_boilings n_fizzles | 3 => w_X2 y ta t_settings t_letters t_heats t_starts t_families t_generations t_tally t_stories t_nextFamily t_splits t_boilings t_fizzles | 4 => w_X0 y ha hsb h_v h_oldest h_size | _ => w_SL y sl ssb s_v) [2, 0, 1, 3, 4, 5] [0, 1, 2, 3, 4, 5] (blkp _ _ rfl) _ _ rfl rfl hG
  refine lv_if_ne (tgt := 14) hx hb dX3_word_9 (by decide) (fun c3 => ?_) (fun c3 => ?_)
  · have hf := if_e c3 hf
    refine lv_aload_n hx hb dX3_word_14 rfl (lv_at hl 0 rfl) ?_
    refine w_get3 F hK hG k1 0 rfl 0 (by decide) k0 rfl dX3_word_15 ?_
    refine w_get2 F hK hG k3 7 rfl 3 (by decide) k2 rfl dX3_word_18 ?_
    refine lv_iload_n hx hb dX3_word_21 rfl (lv_at hl 1 rfl) ?_
    obtain ⟨g4, hf⟩ := gd_e hf
    refine w_iald F hK hG 11 rfl g4 dX3_word_22 ?_
    refine lv_iload_n hx hb dX3_word_23 rfl (lv_at hl 2 rfl) ?_
    refine lv_iadd hx hb dX3_word_24 ?_
    obtain ⟨v5, ev5, hf⟩ := nm_o hf
    refine w_nm ev5 ?_
    refine lv_istore (lv' := [(4, .int v5), (0, .ref (a 0)), (1, .int p1), (2, .int p2), (3, .int p3)]) hx hb dX3_word_25 hl (by decide) rfl (fun ls hl => ?_)
    refine lv_iload_n hx hb dX3_word_27 rfl (lv_at hl 4 rfl) ?_
    obtain ⟨v6, ev6, hf⟩ := nm_o hf
    refine w_nm ev6 ?_
    by_cases cv6_0 : v6 = nI 0
    · subst cv6_0
      have hf := it_e rfl hf
      refine lv_tableIn (tgt := 56) hx hb dX3_word_28 (by decide) (by decide) rfl (by decide) ?_
      refine lv_aload_n hx hb dX3_word_56 rfl (lv_at hl 1 rfl) ?_
      refine w_get3 F hK hG k1 0 rfl 0 (by decide) k0 rfl dX3_word_57 ?_
      refine w_get2 F hK hG k3 7 rfl 1 (by decide) k4 rfl dX3_word_60 ?_
      refine lv_iload hx hb dX3_word_63 (lv_at hl 0 rfl) ?_
      obtain ⟨g7, hf⟩ := gd_e hf
      refine w_iald F hK hG 9 rfl g7 dX3_word_65 ?_
      have hf := so_e hf
      have e0 : (n_letters (v5).toNatClampNeg) = ro := hf
      exact hret _ _ _ _ _ e0 hG dX3_word_66
    have hf := if_e cv6_0 hf
    by_cases cv6_1 : v6 = nI 1
    · subst cv6_1
      have hf := it_e rfl hf
      refine lv_tableIn (tgt := 67) hx hb dX3_word_28 (by decide) (by decide) rfl (by decide) ?_
      refine lv_aload_n hx hb dX3_word_67 rfl (lv_at hl 1 rfl) ?_
      refine w_get3 F hK hG k1 0 rfl 0 (by decide) k0 rfl dX3_word_68 ?_
      refine w_get2 F hK hG k3 7 rfl 2 (by decide) k5 rfl dX3_word_71 ?_
      refine lv_iload hx hb dX3_word_74 (lv_at hl 0 rfl) ?_
      obtain ⟨g8, hf⟩ := gd_e hf
      refine w_iald F hK hG 10 rfl g8 dX3_word_76 ?_
      have hf := so_e hf
      have e0 : (n_heats (v5).toNatClampNeg) = ro := hf
      exact hret _ _ _ _ _ e0 hG dX3_word_77
    have hf := if_e cv6_1 hf
    by_cases cv6_2 : v6 = nI 2
    · subst cv6_2
      have hf := it_e rfl hf
      refine lv_tableIn (tgt := 78) hx hb dX3_word_28 (by decide) (by decide) rfl (by decide) ?_
      refine lv_aload_n hx hb dX3_word_78 rfl (lv_at hl 1 rfl) ?_
      refine w_get3 F hK hG k1 0 rfl 0 (by decide) k0 rfl dX3_word_79 ?_
      refine lv_iload_n hx hb dX3_word_82 rfl (lv_at hl 2 rfl) ?_
      refine lv_aload_n hx hb dX3_word_83 rfl (lv_at hl 1 rfl) ?_
      refine w_get3 F hK hG k1 0 rfl 0 (by decide) k0 rfl dX3_word_84 ?_
      refine w_get2 F hK hG k3 7 rfl 1 (by decide) k4 rfl dX3_word_87 ?_
      refine lv_iload hx hb dX3_word_90 (lv_at hl 0 rfl) ?_
      obtain ⟨g9, hf⟩ := gd_e hf
      refine w_iald F hK hG 9 rfl g9 dX3_word_92 ?_
      obtain ⟨r10, h11, hf⟩ := bd1_e hf
      have hG : GG D A s.heap ((w_X2 y na n_settings n_letters n_heats n_starts n_families n_generations n_tally n_stories n_nextFamily n_splits n_boilings n_fizzles) ++ (w_X3 y a pa na ta ha sl q_saved q_runs q_themes q_storyHeats ++ (w_X1 y pa p_characters p_length ++ (w_X2 y ta t_settings t_letters t_heats t_starts t_families t_generations t_tally t_stories t_nextFamily t_splits t_boilings t_fizzles ++ (w_X0 y ha hsb h_v h_oldest h_size ++ (w_SL y sl ssb s_v)))))) H locs := GG.blk (fun k => match k with | 0 => w_X3 y a pa na ta ha sl q_saved q_runs q_themes q_storyHeats | 1 => w_X1 y pa p_characters p_length | 2 => w_X2 y na n_settings n_letters n_heats n_starts n_families n_generations n_tally n_stories n_nextFamily n_splits n_boilings n_fizzles | 3 => w_X2 y ta t_settings t_letters t_heats t_starts t_families t_generations t_tally t_stories t_nextFamily t_splits t_boilings t_fizzles | 4 => w_X0 y ha hsb h_v h_oldest h_size | _ => w_SL y sl ssb s_v) [0, 1, 2, 3, 4, 5] [2, 0, 1, 3, 4, 5] (blkp _ _ rfl) _ _ rfl rfl hG
      refine k_Pi F hK hA hG (c_X2_timesIn l D y na H.size Fu n_settings n_letters n_heats n_starts n_families n_generations n_tally n_stories n_nextFamily n_splits n_boilings n_fizzles p1 (n_letters (v5).toNatClampNeg) r10 h11) (cwV 2 F.2.2.2.2 gX3_word_X2_timesIn rfl rfl rfl (by decide +kernel) ⟨Nat.le_of_ble_eq_true rfl, Nat.le_of_ble_eq_true rfl⟩) 0 rfl rfl rfl rfl rfl hl.1 (Nat.le_of_ble_eq_true rfl) dX3_word_93 ⟨Nat.le_refl 0, Nat.le_refl 0⟩ (fun H locs hG => ?_)
      have hG : GG D A s.heap (w_X3 y a pa na ta ha sl q_saved q_runs q_themes q_storyHeats ++ (w_X1 y pa p_characters p_length ++ (w_X2 y na n_settings n_letters n_heats n_starts n_families n_generations n_tally n_stories n_nextFamily n_splits n_boilings n_fizzles ++ (w_X2 y ta t_settings t_letters t_heats t_starts t_families t_generations t_tally t_stories t_nextFamily t_splits t_boilings t_fizzles ++ (w_X0 y ha hsb h_v h_oldest h_size ++ w_SL y sl ssb s_v))))) H locs := GG.blk (fun k => match k with | 0 => w_X3 y a pa na ta ha sl q_saved q_runs q_themes q_storyHeats | 1 => w_X1 y pa p_characters p_length | 2 => w_X2 y na n_settings n_letters n_heats n_starts n_families n_generations n_tally n_stories n_nextFamily n_splits n_boilings n_fizzles | 3 => w_X2 y ta t_settings t_letters t_heats t_starts t_families t_generations t_tally t_stories t_nextFamily t_splits t_boilings t_fizzles | 4 => w_X0 y ha hsb h_v h_oldest h_size | _ => w_SL y sl ssb s_v) [2, 0, 1, 3, 4, 5] [0, 1, 2, 3, 4, 5] (blkp _ _ rfl) _ _ rfl rfl hG
      have hf := so_e hf
      have e0 : r10 = ro := hf
      exact hret _ _ _ _ _ e0 hG dX3_word_96
    have hf := if_e cv6_2 hf
    refine lv_tableOut (tgt := 97) hx hb dX3_word_28 (tsw 2 (by decide) (fun k hk => ?_)) (by decide) ?_
    · rcases (show k = 0 ∨ k = 1 ∨ k = 2 by omega) with rfl | rfl | rfl
      · exact cv6_0
      · exact cv6_1
      · exact cv6_2
    refine lv_bipush (v := -2) hx hb dX3_word_97 rfl ?_
    have hf := so_e hf
    have e0 : (-2) = ro := hf
    exact hret _ _ _ _ _ e0 hG dX3_word_99
  · have hf := it_e c3 hf
    refine lv_iconst (v := -1) hx hb dX3_word_12 rfl ?_
    have hf := so_e hf
    have e0 : (-1) = ro := hf
    exact hret _ _ _ _ _ e0 hG dX3_word_13
set_option maxHeartbeats 1000000 in
set_option maxRecDepth 100000 in
theorem c_X3_story (l : Launch) (D : va_G) (y : Nat → ClassId) (a pa na ta ha : Nat → Nat) (hsb : Nat → Nat → Nat) (sl : Nat) (ssb : Nat → Nat → Nat) (sz : Nat) (Fu : Nat) (q_saved : Ar) (q_runs : Ar) (q_themes : Ar) (q_storyHeats : Ar) (p_characters : Ar) (p_length : Int32) (n_settings : Ar) (n_letters : Ar) (n_heats : Ar) (n_starts : Ar) (n_families : Ar) (n_generations : Ar) (n_tally : Ar) (n_stories : Int32) (n_nextFamily : Int32) (n_splits : Int32) (n_boilings : Int32) (n_fizzles : Int32) (t_settings : Ar) (t_letters : Ar) (t_heats : Ar) (t_starts : Ar) (t_families : Ar) (t_generations : Ar) (t_tally : Ar) (t_stories : Int32) (t_nextFamily : Int32) (t_splits : Int32) (t_boilings : Int32) (t_fizzles : Int32) (h_v : (Nat → SV)) (h_oldest : Int32) (h_size : Int32) (s_v : (Nat → SV)) (p1 : Int32) (p2 : Int32) (ro : Int32) (n_tally_o : Ar) (hf : f_X3_story Fu n_letters n_heats n_starts n_families n_generations n_tally n_stories p1 p2 = some (ro, n_tally_o)) : MI l yX3_story wsX3_story 3 68 [.ref (a 0), .int p1, .int p2] D y (w_X3 y a pa na ta ha sl q_saved q_runs q_themes q_storyHeats ++ (w_X1 y pa p_characters p_length ++ (w_X2 y na n_settings n_letters n_heats n_starts n_families n_generations n_tally n_stories n_nextFamily n_splits n_boilings n_fizzles ++ (w_X2 y ta t_settings t_letters t_heats t_starts t_families t_generations t_tally t_stories t_nextFamily t_splits t_boilings t_fizzles ++ (w_X0 y ha hsb h_v h_oldest h_size ++ w_SL y sl ssb s_v))))) sz ro (w_X3 y a pa na ta ha sl q_saved q_runs q_themes q_storyHeats ++ (w_X1 y pa p_characters p_length ++ (w_X2 y na n_settings n_letters n_heats n_starts n_families n_generations n_tally_o n_stories n_nextFamily n_splits n_boilings n_fizzles ++ (w_X2 y ta t_settings t_letters t_heats t_starts t_families t_generations t_tally t_stories t_nextFamily t_splits t_boilings t_fizzles ++ (w_X0 y ha hsb h_v h_oldest h_size ++ w_SL y sl ssb s_v))))) := by
  refine M_i (cc := cX3_story) (maxL := 3) (own := RX3) (by decide) rfl rfl (Nat.le_of_ble_eq_true rfl) ?_
  intro p e s m args below meth c A Q F hK hA H locs hG hret ls hl
  have hx := F.1
  have hb := F.2.1
  have hl : lv_has ls 3 [(0, .ref (a 0)), (1, .int p1), (2, .int p2)] := hl
  have k0 := F.2.2.2.2 (.fieldLink RX3 10 "HeatedStories" "now" "LHeatedStories$Shelf;") (List.mem_of_getElem? (i := 1) rfl)
  have k1 : ∀ w ∈ wsX30, w ∈ wsX3_story := (fun w h => List.mem_cons_of_mem _ (List.mem_append_left _ (List.mem_append_right _ (h))))
  have k2 := F.2.2.2.2 (.fieldLink RX3 151 "HeatedStories$Shelf" "families" "[I") (List.mem_of_getElem? (i := 2) rfl)
  have k3 : ∀ w ∈ wsX20, w ∈ wsX3_story := (fun w h => List.mem_cons_of_mem _ (List.mem_append_right _ (h)))
  have k4 := F.2.2.2.2 (.fieldLink RX3 124 "HeatedStories$Shelf" "generations" "[I") (List.mem_of_getElem? (i := 3) rfl)
  unfold f_X3_story at hf
  refine lv_aload_n hx hb dX3_story_0 rfl (lv_at hl 0 rfl) ?_
  refine w_get3 F hK hG k1 0 rfl 0 (by decide) k0 rfl dX3_story_1 ?_
  refine lv_iload_n hx hb dX3_story_4 rfl (lv_at hl 1 rfl) ?_
  obtain ⟨r1, h2, hf⟩ := bd1_e hf
  have hG : GG D A s.heap ((w_X2 y na n_settings n_letters n_heats n_starts n_families n_generations n_tally n_stories n_nextFamily n_splits n_boilings n_fizzles) ++ (w_X3 y a pa na ta ha sl q_saved q_runs q_themes q_storyHeats ++ (w_X1 y pa p_characters p_length ++ (w_X2 y ta t_settings t_letters t_heats t_starts t_families t_generations t_tally t_stories t_nextFamily t_splits t_boilings t_fizzles ++ (w_X0 y ha hsb h_v h_oldest h_size ++ (w_SL y sl ssb s_v)))))) H locs := GG.blk (fun k => match k with | 0 => w_X3 y a pa na ta ha sl q_saved q_runs q_themes q_storyHeats | 1 => w_X1 y pa p_characters p_length | 2 => w_X2 y na n_settings n_letters n_heats n_starts n_families n_generations n_tally n_stories n_nextFamily n_splits n_boilings n_fizzles | 3 => w_X2 y ta t_settings t_letters t_heats t_starts t_families t_generations t_tally t_stories t_nextFamily t_splits t_boilings t_fizzles | 4 => w_X0 y ha hsb h_v h_oldest h_size | _ => w_SL y sl ssb s_v) [0, 1, 2, 3, 4, 5] [2, 0, 1, 3, 4, 5] (blkp _ _ rfl) _ _ rfl rfl hG
  refine k_Pi F hK hA hG (c_X2_hasStory l D y na H.size Fu n_settings n_letters n_heats n_starts n_families n_generations n_tally n_stories n_nextFamily n_splits n_boilings n_fizzles p1 r1 h2) (cwV 1 F.2.2.2.2 gX3_story_X2_hasStory rfl rfl rfl (by decide +kernel) ⟨Nat.le_of_ble_eq_true rfl, Nat.le_of_ble_eq_true rfl⟩) 0 rfl rfl rfl rfl rfl hl.1 (Nat.le_of_ble_eq_true rfl) dX3_story_5 ⟨Nat.le_refl 0, Nat.le_refl 0⟩ (fun H locs hG => ?_)
  have hG : GG D A s.heap (w_X3 y a pa na ta ha sl q_saved q_runs q_themes q_storyHeats ++ (w_X1 y pa p_characters p_length ++ (w_X2 y na n_settings n_letters n_heats n_starts n_families n_generations n_tally n_stories n_nextFamily n_splits n_boilings n_fizzles ++ (w_X2 y ta t_settings t_letters t_heats t_starts t_families t_generations t_tally t_stories t_nextFamily t_splits t_boilings t_fizzles ++ (w_X0 y ha hsb h_v h_oldest h_size ++ w_SL y sl ssb s_v))))) H locs := GG.blk (fun k => match k with | 0 => w_X3 y a pa na ta ha sl q_saved q_runs q_themes q_storyHeats | 1 => w_X1 y pa p_characters p_length | 2 => w_X2 y na n_settings n_letters n_heats n_starts n_families n_generations n_tally n_stories n_nextFamily n_splits n_boilings n_fizzles | 3 => w_X2 y ta t_settings t_letters t_heats t_starts t_families t_generations t_tally t_stories t_nextFamily t_splits t_boilings t_fizzles | 4 => w_X0 y ha hsb h_v h_oldest h_size | _ => w_SL y sl ssb s_v) [2, 0, 1, 3, 4, 5] [0, 1, 2, 3, 4, 5] (blkp _ _ rfl) _ _ rfl rfl hG
  refine lv_if_ne (tgt := 13) hx hb dX3_story_8 (by decide) (fun c3 => ?_) (fun c3 => ?_)
  · have hf := if_e c3 hf
    refine lv_iload_n hx hb dX3_story_13 rfl (lv_at hl 2 rfl) ?_
    obtain ⟨v4, ev4, hf⟩ := nm_o hf
    refine w_nm ev4 ?_
    by_cases cv4_0 : v4 = nI 0
    · subst cv4_0
      have hf := it_e rfl hf
      refine lv_tableIn (tgt := 60) hx hb dX3_story_14 (by decide) (by decide) rfl (by decide) ?_
      refine lv_aload_n hx hb dX3_story_60 rfl (lv_at hl 0 rfl) ?_
      refine w_get3 F hK hG k1 0 rfl 0 (by decide) k0 rfl dX3_story_61 ?_
      refine lv_iload_n hx hb dX3_story_64 rfl (lv_at hl 1 rfl) ?_
      obtain ⟨r5, h6, hf⟩ := bd1_e hf
      have hG : GG D A s.heap ((w_X2 y na n_settings n_letters n_heats n_starts n_families n_generations n_tally n_stories n_nextFamily n_splits n_boilings n_fizzles) ++ (w_X3 y a pa na ta ha sl q_saved q_runs q_themes q_storyHeats ++ (w_X1 y pa p_characters p_length ++ (w_X2 y ta t_settings t_letters t_heats t_starts t_families t_generations t_tally t_stories t_nextFamily t_splits t_boilings t_fizzles ++ (w_X0 y ha hsb h_v h_oldest h_size ++ (w_SL y sl ssb s_v)))))) H locs := GG.blk (fun k => match k with | 0 => w_X3 y a pa na ta ha sl q_saved q_runs q_themes q_storyHeats | 1 => w_X1 y pa p_characters p_length | 2 => w_X2 y na n_settings n_letters n_heats n_starts n_families n_generations n_tally n_stories n_nextFamily n_splits n_boilings n_fizzles | 3 => w_X2 y ta t_settings t_letters t_heats t_starts t_families t_generations t_tally t_stories t_nextFamily t_splits t_boilings t_fizzles | 4 => w_X0 y ha hsb h_v h_oldest h_size | _ => w_SL y sl ssb s_v) [0, 1, 2, 3, 4, 5] [2, 0, 1, 3, 4, 5] (blkp _ _ rfl) _ _ rfl rfl hG
      refine k_Pi F hK hA hG (c_X2_sizeOf l D y na H.size Fu n_settings n_letters n_heats n_starts n_families n_generations n_tally n_stories n_nextFamily n_splits n_boilings n_fizzles p1 r5 h6) (cwV 1 F.2.2.2.2 gX3_story_X2_sizeOf rfl rfl rfl (by decide +kernel) ⟨Nat.le_of_ble_eq_true rfl, Nat.le_of_ble_eq_true rfl⟩) 0 rfl rfl rfl rfl rfl hl.1 (Nat.le_of_ble_eq_true rfl) dX3_story_65 ⟨Nat.le_refl 0, Nat.le_refl 0⟩ (fun H locs hG => ?_)
      have hG : GG D A s.heap (w_X3 y a pa na ta ha sl q_saved q_runs q_themes q_storyHeats ++ (w_X1 y pa p_characters p_length ++ (w_X2 y na n_settings n_letters n_heats n_starts n_families n_generations n_tally n_stories n_nextFamily n_splits n_boilings n_fizzles ++ (w_X2 y ta t_settings t_letters t_heats t_starts t_families t_generations t_tally t_stories t_nextFamily t_splits t_boilings t_fizzles ++ (w_X0 y ha hsb h_v h_oldest h_size ++ w_SL y sl ssb s_v))))) H locs := GG.blk (fun k => match k with | 0 => w_X3 y a pa na ta ha sl q_saved q_runs q_themes q_storyHeats | 1 => w_X1 y pa p_characters p_length | 2 => w_X2 y na n_settings n_letters n_heats n_starts n_families n_generations n_tally n_stories n_nextFamily n_splits n_boilings n_fizzles | 3 => w_X2 y ta t_settings t_letters t_heats t_starts t_families t_generations t_tally t_stories t_nextFamily t_splits t_boilings t_fizzles | 4 => w_X0 y ha hsb h_v h_oldest h_size | _ => w_SL y sl ssb s_v) [2, 0, 1, 3, 4, 5] [0, 1, 2, 3, 4, 5] (blkp _ _ rfl) _ _ rfl rfl hG
      have hf := so_e hf
      have e0 : r5 = ro := congrArg (fun z => z.1) hf
      have e1 : n_tally = n_tally_o := congrArg (fun z => z.2) hf
      exact hret _ _ _ _ _ e0 (by rw [← e1]; exact hG) dX3_story_68
    have hf := if_e cv4_0 hf
    by_cases cv4_1 : v4 = nI 1
    · subst cv4_1
      have hf := it_e rfl hf
      refine lv_tableIn (tgt := 69) hx hb dX3_story_14 (by decide) (by decide) rfl (by decide) ?_
      refine lv_aload_n hx hb dX3_story_69 rfl (lv_at hl 0 rfl) ?_
      refine w_get3 F hK hG k1 0 rfl 0 (by decide) k0 rfl dX3_story_70 ?_
      refine lv_iload_n hx hb dX3_story_73 rfl (lv_at hl 1 rfl) ?_
      obtain ⟨r7, h8, hf⟩ := bd1_e hf
      have hG : GG D A s.heap ((w_X2 y na n_settings n_letters n_heats n_starts n_families n_generations n_tally n_stories n_nextFamily n_splits n_boilings n_fizzles) ++ (w_X3 y a pa na ta ha sl q_saved q_runs q_themes q_storyHeats ++ (w_X1 y pa p_characters p_length ++ (w_X2 y ta t_settings t_letters t_heats t_starts t_families t_generations t_tally t_stories t_nextFamily t_splits t_boilings t_fizzles ++ (w_X0 y ha hsb h_v h_oldest h_size ++ (w_SL y sl ssb s_v)))))) H locs := GG.blk (fun k => match k with | 0 => w_X3 y a pa na ta ha sl q_saved q_runs q_themes q_storyHeats | 1 => w_X1 y pa p_characters p_length | 2 => w_X2 y na n_settings n_letters n_heats n_starts n_families n_generations n_tally n_stories n_nextFamily n_splits n_boilings n_fizzles | 3 => w_X2 y ta t_settings t_letters t_heats t_starts t_families t_generations t_tally t_stories t_nextFamily t_splits t_boilings t_fizzles | 4 => w_X0 y ha hsb h_v h_oldest h_size | _ => w_SL y sl ssb s_v) [0, 1, 2, 3, 4, 5] [2, 0, 1, 3, 4, 5] (blkp _ _ rfl) _ _ rfl rfl hG
      refine k_Pi F hK hA hG (c_X2_heatOf l D y na H.size Fu n_settings n_letters n_heats n_starts n_families n_generations n_tally n_stories n_nextFamily n_splits n_boilings n_fizzles p1 r7 h8) (cwV 1 F.2.2.2.2 gX3_story_X2_heatOf rfl rfl rfl (by decide +kernel) ⟨Nat.le_of_ble_eq_true rfl, Nat.le_of_ble_eq_true rfl⟩) 0 rfl rfl rfl rfl rfl hl.1 (Nat.le_of_ble_eq_true rfl) dX3_story_74 ⟨Nat.le_refl 0, Nat.le_refl 0⟩ (fun H locs hG => ?_)
      have hG : GG D A s.heap (w_X3 y a pa na ta ha sl q_saved q_runs q_themes q_storyHeats ++ (w_X1 y pa p_characters p_length ++ (w_X2 y na n_settings n_letters n_heats n_starts n_families n_generations n_tally n_stories n_nextFamily n_splits n_boilings n_fizzles ++ (w_X2 y ta t_settings t_letters t_heats t_starts t_families t_generations t_tally t_stories t_nextFamily t_splits t_boilings t_fizzles ++ (w_X0 y ha hsb h_v h_oldest h_size ++ w_SL y sl ssb s_v))))) H locs := GG.blk (fun k => match k with | 0 => w_X3 y a pa na ta ha sl q_saved q_runs q_themes q_storyHeats | 1 => w_X1 y pa p_characters p_length | 2 => w_X2 y na n_settings n_letters n_heats n_starts n_families n_generations n_tally n_stories n_nextFamily n_splits n_boilings n_fizzles | 3 => w_X2 y ta t_settings t_letters t_heats t_starts t_families t_generations t_tally t_stories t_nextFamily t_splits t_boilings t_fizzles | 4 => w_X0 y ha hsb h_v h_oldest h_size | _ => w_SL y sl ssb s_v) [2, 0, 1, 3, 4, 5] [0, 1, 2, 3, 4, 5] (blkp _ _ rfl) _ _ rfl rfl hG
      have hf := so_e hf
      have e0 : r7 = ro := congrArg (fun z => z.1) hf
      have e1 : n_tally = n_tally_o := congrArg (fun z => z.2) hf
      exact hret _ _ _ _ _ e0 (by rw [← e1]; exact hG) dX3_story_77
    have hf := if_e cv4_1 hf
    by_cases cv4_2 : v4 = nI 2
    · subst cv4_2
      have hf := it_e rfl hf
      refine lv_tableIn (tgt := 78) hx hb dX3_story_14 (by decide) (by decide) rfl (by decide) ?_
      refine lv_aload_n hx hb dX3_story_78 rfl (lv_at hl 0 rfl) ?_
      refine w_get3 F hK hG k1 0 rfl 0 (by decide) k0 rfl dX3_story_79 ?_
      refine lv_iload_n hx hb dX3_story_82 rfl (lv_at hl 1 rfl) ?_
      obtain ⟨r9, n_tally_10, h11, hf⟩ := bd2_e hf
      have hG : GG D A s.heap ((w_X2 y na n_settings n_letters n_heats n_starts n_families n_generations n_tally n_stories n_nextFamily n_splits n_boilings n_fizzles) ++ (w_X3 y a pa na ta ha sl q_saved q_runs q_themes q_storyHeats ++ (w_X1 y pa p_characters p_length ++ (w_X2 y ta t_settings t_letters t_heats t_starts t_families t_generations t_tally t_stories t_nextFamily t_splits t_boilings t_fizzles ++ (w_X0 y ha hsb h_v h_oldest h_size ++ (w_SL y sl ssb s_v)))))) H locs := GG.blk (fun k => match k with | 0 => w_X3 y a pa na ta ha sl q_saved q_runs q_themes q_storyHeats | 1 => w_X1 y pa p_characters p_length | 2 => w_X2 y na n_settings n_letters n_heats n_starts n_families n_generations n_tally n_stories n_nextFamily n_splits n_boilings n_fizzles | 3 => w_X2 y ta t_settings t_letters t_heats t_starts t_families t_generations t_tally t_stories t_nextFamily t_splits t_boilings t_fizzles | 4 => w_X0 y ha hsb h_v h_oldest h_size | _ => w_SL y sl ssb s_v) [0, 1, 2, 3, 4, 5] [2, 0, 1, 3, 4, 5] (blkp _ _ rfl) _ _ rfl rfl hG
      refine k_Pi F hK hA hG (c_X2_themeOf l D y na H.size Fu n_settings n_letters n_heats n_starts n_families n_generations n_tally n_stories n_nextFamily n_splits n_boilings n_fizzles p1 r9 n_tally_10 h11) (cwV 1 F.2.2.2.2 gX3_story_X2_themeOf rfl rfl rfl (by decide +kernel) ⟨Nat.le_of_ble_eq_true rfl, Nat.le_of_ble_eq_true rfl⟩) 0 rfl rfl rfl rfl rfl hl.1 (Nat.le_of_ble_eq_true rfl) dX3_story_83 ⟨Nat.le_refl 0, Nat.le_refl 0⟩ (fun H locs hG => ?_)
      have hG : GG D A s.heap (w_X3 y a pa na ta ha sl q_saved q_runs q_themes q_storyHeats ++ (w_X1 y pa p_characters p_length ++ (w_X2 y na n_settings n_letters n_heats n_starts n_families n_generations n_tally_10 n_stories n_nextFamily n_splits n_boilings n_fizzles ++ (w_X2 y ta t_settings t_letters t_heats t_starts t_families t_generations t_tally t_stories t_nextFamily t_splits t_boilings t_fizzles ++ (w_X0 y ha hsb h_v h_oldest h_size ++ w_SL y sl ssb s_v))))) H locs := GG.blk (fun k => match k with | 0 => w_X3 y a pa na ta ha sl q_saved q_runs q_themes q_storyHeats | 1 => w_X1 y pa p_characters p_length | 2 => w_X2 y na n_settings n_letters n_heats n_starts n_families n_generations n_tally_10 n_stories n_nextFamily n_splits n_boilings n_fizzles | 3 => w_X2 y ta t_settings t_letters t_heats t_starts t_families t_generations t_tally t_stories t_nextFamily t_splits t_boilings t_fizzles | 4 => w_X0 y ha hsb h_v h_oldest h_size | _ => w_SL y sl ssb s_v) [2, 0, 1, 3, 4, 5] [0, 1, 2, 3, 4, 5] (blkp _ _ rfl) _ _ rfl rfl hG
      have hf := so_e hf
      have e0 : r9 = ro := congrArg (fun z => z.1) hf
      have e1 : n_tally_10 = n_tally_o := congrArg (fun z => z.2) hf
      exact hret _ _ _ _ _ e0 (by rw [← e1]; exact hG) dX3_story_86
    have hf := if_e cv4_2 hf
    by_cases cv4_3 : v4 = nI 3
    · subst cv4_3
      have hf := it_e rfl hf
      refine lv_tableIn (tgt := 87) hx hb dX3_story_14 (by decide) (by decide) rfl (by decide) ?_
      refine lv_aload_n hx hb dX3_story_87 rfl (lv_at hl 0 rfl) ?_
      refine w_get3 F hK hG k1 0 rfl 0 (by decide) k0 rfl dX3_story_88 ?_
      refine w_get2 F hK hG k3 7 rfl 4 (by decide) k2 rfl dX3_story_91 ?_
      refine lv_iload_n hx hb dX3_story_94 rfl (lv_at hl 1 rfl) ?_
      obtain ⟨g12, hf⟩ := gd_e hf
      refine w_iald F hK hG 12 rfl g12 dX3_story_95 ?_
      have hf := so_e hf
      have e0 : (n_families (p1).toNatClampNeg) = ro := congrArg (fun z => z.1) hf
      have e1 : n_tally = n_tally_o := congrArg (fun z => z.2) hf
      exact hret _ _ _ _ _ e0 (by rw [← e1]; exact hG) dX3_story_96
    have hf := if_e cv4_3 hf
    by_cases cv4_4 : v4 = nI 4
    · subst cv4_4
      have hf := it_e rfl hf
      refine lv_tableIn (tgt := 97) hx hb dX3_story_14 (by decide) (by decide) rfl (by decide) ?_
      refine lv_aload_n hx hb dX3_story_97 rfl (lv_at hl 0 rfl) ?_
      refine w_get3 F hK hG k1 0 rfl 0 (by decide) k0 rfl dX3_story_98 ?_
      refine w_get2 F hK hG k3 7 rfl 5 (by decide) k4 rfl dX3_story_101 ?_
      refine lv_iload_n hx hb dX3_story_104 rfl (lv_at hl 1 rfl) ?_
      obtain ⟨g13, hf⟩ := gd_e hf
      refine w_iald F hK hG 13 rfl g13 dX3_story_105 ?_
      have hf := so_e hf
      have e0 : (n_generations (p1).toNatClampNeg) = ro := congrArg (fun z => z.1) hf
      have e1 : n_tally = n_tally_o := congrArg (fun z => z.2) hf
      exact hret _ _ _ _ _ e0 (by rw [← e1]; exact hG) dX3_story_106
    have hf := if_e cv4_4 hf
    by_cases cv4_5 : v4 = nI 5
    · subst cv4_5
      have hf := it_e rfl hf
      refine lv_tableIn (tgt := 107) hx hb dX3_story_14 (by decide) (by decide) rfl (by decide) ?_
      refine lv_aload_n hx hb dX3_story_107 rfl (lv_at hl 0 rfl) ?_
      refine w_get3 F hK hG k1 0 rfl 0 (by decide) k0 rfl dX3_story_108 ?_
      refine lv_iload_n hx hb dX3_story_111 rfl (lv_at hl 1 rfl) ?_
      obtain ⟨r14, h15, hf⟩ := bd1_e hf
      have hG : GG D A s.heap ((w_X2 y na n_settings n_letters n_heats n_starts n_families n_generations n_tally n_stories n_nextFamily n_splits n_boilings n_fizzles) ++ (w_X3 y a pa na ta ha sl q_saved q_runs q_themes q_storyHeats ++ (w_X1 y pa p_characters p_length ++ (w_X2 y ta t_settings t_letters t_heats t_starts t_families t_generations t_tally t_stories t_nextFamily t_splits t_boilings t_fizzles ++ (w_X0 y ha hsb h_v h_oldest h_size ++ (w_SL y sl ssb s_v)))))) H locs := GG.blk (fun k => match k with | 0 => w_X3 y a pa na ta ha sl q_saved q_runs q_themes q_storyHeats | 1 => w_X1 y pa p_characters p_length | 2 => w_X2 y na n_settings n_letters n_heats n_starts n_families n_generations n_tally n_stories n_nextFamily n_splits n_boilings n_fizzles | 3 => w_X2 y ta t_settings t_letters t_heats t_starts t_families t_generations t_tally t_stories t_nextFamily t_splits t_boilings t_fizzles | 4 => w_X0 y ha hsb h_v h_oldest h_size | _ => w_SL y sl ssb s_v) [0, 1, 2, 3, 4, 5] [2, 0, 1, 3, 4, 5] (blkp _ _ rfl) _ _ rfl rfl hG
      refine k_Pi F hK hA hG (c_X2_hottestOf l D y na H.size Fu n_settings n_letters n_heats n_starts n_families n_generations n_tally n_stories n_nextFamily n_splits n_boilings n_fizzles p1 r14 h15) (cwV 1 F.2.2.2.2 gX3_story_X2_hottestOf rfl rfl rfl (by decide +kernel) ⟨Nat.le_of_ble_eq_true rfl, Nat.le_of_ble_eq_true rfl⟩) 0 rfl rfl rfl rfl rfl hl.1 (Nat.le_of_ble_eq_true rfl) dX3_story_112 ⟨Nat.le_refl 0, Nat.le_refl 0⟩ (fun H locs hG => ?_)
      have hG : GG D A s.heap (w_X3 y a pa na ta ha sl q_saved q_runs q_themes q_storyHeats ++ (w_X1 y pa p_characters p_length ++ (w_X2 y na n_settings n_letters n_heats n_starts n_families n_generations n_tally n_stories n_nextFamily n_splits n_boilings n_fizzles ++ (w_X2 y ta t_settings t_letters t_heats t_starts t_families t_generations t_tally t_stories t_nextFamily t_splits t_boilings t_fizzles ++ (w_X0 y ha hsb h_v h_oldest h_size ++ w_SL y sl ssb s_v))))) H locs := GG.blk (fun k => match k with | 0 => w_X3 y a pa na ta ha sl q_saved q_runs q_themes q_storyHeats | 1 => w_X1 y pa p_characters p_length | 2 => w_X2 y na n_settings n_letters n_heats n_starts n_families n_generations n_tally n_stories n_nextFamily n_splits n_boilings n_fizzles | 3 => w_X2 y ta t_settings t_letters t_heats t_starts t_families t_generations t_tally t_stories t_nextFamily t_splits t_boilings t_fizzles | 4 => w_X0 y ha hsb h_v h_oldest h_size | _ => w_SL y sl ssb s_v) [2, 0, 1, 3, 4, 5] [0, 1, 2, 3, 4, 5] (blkp _ _ rfl) _ _ rfl rfl hG
      have hf := so_e hf
      have e0 : r14 = ro := congrArg (fun z => z.1) hf
      have e1 : n_tally = n_tally_o := congrArg (fun z => z.2) hf
      exact hret _ _ _ _ _ e0 (by rw [← e1]; exact hG) dX3_story_115
    have hf := if_e cv4_5 hf
    by_cases cv4_6 : v4 = nI 6
    · subst cv4_6
      have hf := it_e rfl hf
      refine lv_tableIn (tgt := 116) hx hb dX3_story_14 (by decide) (by decide) rfl (by decide) ?_
      refine lv_aload_n hx hb dX3_story_116 rfl (lv_at hl 0 rfl) ?_
      refine w_get3 F hK hG k1 0 rfl 0 (by decide) k0 rfl dX3_story_117 ?_
      refine lv_iload_n hx hb dX3_story_120 rfl (lv_at hl 1 rfl) ?_
      obtain ⟨r16, n_tally_17, h18, hf⟩ := bd2_e hf
      have hG : GG D A s.heap ((w_X2 y na n_settings n_letters n_heats n_starts n_families n_generations n_tally n_stories n_nextFamily n_splits n_boilings n_fizzles) ++ (w_X3 y a pa na ta ha sl q_saved q_runs q_themes q_storyHeats ++ (w_X1 y pa p_characters p_length ++ (w_X2 y ta t_settings t_letters t_heats t_starts t_families t_generations t_tally t_stories t_nextFamily t_splits t_boilings t_fizzles ++ (w_X0 y ha hsb h_v h_oldest h_size ++ (w_SL y sl ssb s_v)))))) H locs := GG.blk (fun k => match k with | 0 => w_X3 y a pa na ta ha sl q_saved q_runs q_themes q_storyHeats | 1 => w_X1 y pa p_characters p_length | 2 => w_X2 y na n_settings n_letters n_heats n_starts n_families n_generations n_tally n_stories n_nextFamily n_splits n_boilings n_fizzles | 3 => w_X2 y ta t_settings t_letters t_heats t_starts t_families t_generations t_tally t_stories t_nextFamily t_splits t_boilings t_fizzles | 4 => w_X0 y ha hsb h_v h_oldest h_size | _ => w_SL y sl ssb s_v) [0, 1, 2, 3, 4, 5] [2, 0, 1, 3, 4, 5] (blkp _ _ rfl) _ _ rfl rfl hG
      refine k_Pi F hK hA hG (c_X2_unlikeLettersOf l D y na H.size Fu n_settings n_letters n_heats n_starts n_families n_generations n_tally n_stories n_nextFamily n_splits n_boilings n_fizzles p1 r16 n_tally_17 h18) (cwV 1 F.2.2.2.2 gX3_story_X2_unlikeLettersOf rfl rfl rfl (by decide +kernel) ⟨Nat.le_of_ble_eq_true rfl, Nat.le_of_ble_eq_true rfl⟩) 0 rfl rfl rfl rfl rfl hl.1 (Nat.le_of_ble_eq_true rfl) dX3_story_121 ⟨Nat.le_refl 0, Nat.le_refl 0⟩ (fun H locs hG => ?_)
      have hG : GG D A s.heap (w_X3 y a pa na ta ha sl q_saved q_runs q_themes q_storyHeats ++ (w_X1 y pa p_characters p_length ++ (w_X2 y na n_settings n_letters n_heats n_starts n_families n_generations n_tally_17 n_stories n_nextFamily n_splits n_boilings n_fizzles ++ (w_X2 y ta t_settings t_letters t_heats t_starts t_families t_generations t_tally t_stories t_nextFamily t_splits t_boilings t_fizzles ++ (w_X0 y ha hsb h_v h_oldest h_size ++ w_SL y sl ssb s_v))))) H locs := GG.blk (fun k => match k with | 0 => w_X3 y a pa na ta ha sl q_saved q_runs q_themes q_storyHeats | 1 => w_X1 y pa p_characters p_length | 2 => w_X2 y na n_settings n_letters n_heats n_starts n_families n_generations n_tally_17 n_stories n_nextFamily n_splits n_boilings n_fizzles | 3 => w_X2 y ta t_settings t_letters t_heats t_starts t_families t_generations t_tally t_stories t_nextFamily t_splits t_boilings t_fizzles | 4 => w_X0 y ha hsb h_v h_oldest h_size | _ => w_SL y sl ssb s_v) [2, 0, 1, 3, 4, 5] [0, 1, 2, 3, 4, 5] (blkp _ _ rfl) _ _ rfl rfl hG
      have hf := so_e hf
      have e0 : r16 = ro := congrArg (fun z => z.1) hf
      have e1 : n_tally_17 = n_tally_o := congrArg (fun z => z.2) hf
      exact hret _ _ _ _ _ e0 (by rw [← e1]; exact hG) dX3_story_124
    have hf := if_e cv4_6 hf
    by_cases cv4_7 : v4 = nI 7
    · subst cv4_7
      have hf := it_e rfl hf
      refine lv_tableIn (tgt := 125) hx hb dX3_story_14 (by decide) (by decide) rfl (by decide) ?_
      refine lv_aload_n hx hb dX3_story_125 rfl (lv_at hl 0 rfl) ?_
      refine w_get3 F hK hG k1 0 rfl 0 (by decide) k0 rfl dX3_story_126 ?_
      refine lv_iload_n hx hb dX3_story_129 rfl (lv_at hl 1 rfl) ?_
      obtain ⟨r19, h20, hf⟩ := bd1_e hf
      have hG : GG D A s.heap ((w_X2 y na n_settings n_letters n_heats n_starts n_families n_generations n_tally n_stories n_nextFamily n_splits n_boilings n_fizzles) ++ (w_X3 y a pa na ta ha sl q_saved q_runs q_themes q_storyHeats ++ (w_X1 y pa p_characters p_length ++ (w_X2 y ta t_settings t_letters t_heats t_starts t_families t_generations t_tally t_stories t_nextFamily t_splits t_boilings t_fizzles ++ (w_X0 y ha hsb h_v h_oldest h_size ++ (w_SL y sl ssb s_v)))))) H locs := GG.blk (fun k => match k with | 0 => w_X3 y a pa na ta ha sl q_saved q_runs q_themes q_storyHeats | 1 => w_X1 y pa p_characters p_length | 2 => w_X2 y na n_settings n_letters n_heats n_starts n_families n_generations n_tally n_stories n_nextFamily n_splits n_boilings n_fizzles | 3 => w_X2 y ta t_settings t_letters t_heats t_starts t_families t_generations t_tally t_stories t_nextFamily t_splits t_boilings t_fizzles | 4 => w_X0 y ha hsb h_v h_oldest h_size | _ => w_SL y sl ssb s_v) [0, 1, 2, 3, 4, 5] [2, 0, 1, 3, 4, 5] (blkp _ _ rfl) _ _ rfl rfl hG
      refine k_Pi F hK hA hG (c_X2_readsFromBothEnds l D y na H.size Fu n_settings n_letters n_heats n_starts n_families n_generations n_tally n_stories n_nextFamily n_splits n_boilings n_fizzles p1 r19 h20) (cwV 1 F.2.2.2.2 gX3_story_X2_readsFromBothEnds rfl rfl rfl (by decide +kernel) ⟨Nat.le_of_ble_eq_true rfl, Nat.le_of_ble_eq_true rfl⟩) 0 rfl rfl rfl rfl rfl hl.1 (Nat.le_of_ble_eq_true rfl) dX3_story_130 ⟨Nat.le_refl 0, Nat.le_refl 0⟩ (fun H locs hG => ?_)
      have hG : GG D A s.heap (w_X3 y a pa na ta ha sl q_saved q_runs q_themes q_storyHeats ++ (w_X1 y pa p_characters p_length ++ (w_X2 y na n_settings n_letters n_heats n_starts n_families n_generations n_tally n_stories n_nextFamily n_splits n_boilings n_fizzles ++ (w_X2 y ta t_settings t_letters t_heats t_starts t_families t_generations t_tally t_stories t_nextFamily t_splits t_boilings t_fizzles ++ (w_X0 y ha hsb h_v h_oldest h_size ++ w_SL y sl ssb s_v))))) H locs := GG.blk (fun k => match k with | 0 => w_X3 y a pa na ta ha sl q_saved q_runs q_themes q_storyHeats | 1 => w_X1 y pa p_characters p_length | 2 => w_X2 y na n_settings n_letters n_heats n_starts n_families n_generations n_tally n_stories n_nextFamily n_splits n_boilings n_fizzles | 3 => w_X2 y ta t_settings t_letters t_heats t_starts t_families t_generations t_tally t_stories t_nextFamily t_splits t_boilings t_fizzles | 4 => w_X0 y ha hsb h_v h_oldest h_size | _ => w_SL y sl ssb s_v) [2, 0, 1, 3, 4, 5] [0, 1, 2, 3, 4, 5] (blkp _ _ rfl) _ _ rfl rfl hG
      obtain ⟨v22, ev22, hf⟩ := nm_o hf
      have hJ : ∀ (ls : Array Slot), lv_has ls 3 [] → W p l e (RM 3 68) s m args below meth c H locs 0 0 Q (F0 m 141 ls [.int v22]) := by
        intro ls hl
        have hf := so_e hf
        have e0 : v22 = ro := congrArg (fun z => z.1) hf
        have e1 : n_tally = n_tally_o := congrArg (fun z => z.2) hf
        exact hret _ _ _ _ _ e0 (by rw [← e1]; exact hG) dX3_story_141
      refine lv_if_eq (tgt := 140) hx hb dX3_story_133 (by decide) (fun c21 => ?_) (fun c21 => ?_)
      · refine lv_iconst (v := nI 0) hx hb dX3_story_140 rfl ?_
        have qv22 := (ev22.trans (if_pos c21))
        subst qv22
        exact hJ ls (lv_sub hl [] rfl)
      · refine lv_iconst (v := nI 1) hx hb dX3_story_136 rfl ?_
        refine lv_goto (tgt := 141) hx hb dX3_story_137 (by decide) ?_
        have qv22 := (ev22.trans (if_neg c21))
        subst qv22
        exact hJ ls (lv_sub hl [] rfl)
    have hf := if_e cv4_7 hf
    refine lv_tableOut (tgt := 142) hx hb dX3_story_14 (tsw 7 (by decide) (fun k hk => ?_)) (by decide) ?_
    · rcases (show k = 0 ∨ k = 1 ∨ k = 2 ∨ k = 3 ∨ k = 4 ∨ k = 5 ∨ k = 6 ∨ k = 7 by omega) with rfl | rfl | rfl | rfl | rfl | rfl | rfl | rfl
      · exact cv4_0
      · exact cv4_1
      · exact cv4_2
      · exact cv4_3
      · exact cv4_4
      · exact cv4_5
      · exact cv4_6
      · exact cv4_7
    refine lv_bipush (v := -2) hx hb dX3_story_142 rfl ?_
    have hf := so_e hf
    have e0 : (-2) = ro := congrArg (fun z => z.1) hf
    have e1 : n_tally = n_tally_o := congrArg (fun z => z.2) hf
    exact hret _ _ _ _ _ e0 (by rw [← e1]; exact hG) dX3_story_144
  · have hf := it_e c3 hf
    refine lv_iconst (v := -1) hx hb dX3_story_11 rfl ?_
    have hf := so_e hf
    have e0 : (-1) = ro := congrArg (fun z => z.1) hf
    have e1 : n_tally = n_tally_o := congrArg (fun z => z.2) hf
    exact hret _ _ _ _ _ e0 (by rw [← e1]; exact hG) dX3_story_12
set_option maxHeartbeats 1000000 in
set_option maxRecDepth 100000 in
theorem c_X3_count (l : Launch) (D : va_G) (y : Nat → ClassId) (a pa na ta ha : Nat → Nat) (hsb : Nat → Nat → Nat) (sl : Nat) (ssb : Nat → Nat → Nat) (sz : Nat) (Fu : Nat) (q_saved : Ar) (q_runs : Ar) (q_themes : Ar) (q_storyHeats : Ar) (p_characters : Ar) (p_length : Int32) (n_settings : Ar) (n_letters : Ar) (n_heats : Ar) (n_starts : Ar) (n_families : Ar) (n_generations : Ar) (n_tally : Ar) (n_stories : Int32) (n_nextFamily : Int32) (n_splits : Int32) (n_boilings : Int32) (n_fizzles : Int32) (t_settings : Ar) (t_letters : Ar) (t_heats : Ar) (t_starts : Ar) (t_families : Ar) (t_generations : Ar) (t_tally : Ar) (t_stories : Int32) (t_nextFamily : Int32) (t_splits : Int32) (t_boilings : Int32) (t_fizzles : Int32) (h_v : (Nat → SV)) (h_oldest : Int32) (h_size : Int32) (s_v : (Nat → SV)) (p1 : Int32) (ro : Int32) (hf : f_X3_count Fu p_length n_settings n_heats n_starts n_families n_generations n_stories n_splits n_boilings n_fizzles h_size p1 = some (ro)) : MI l yX3_count wsX3_count 2 44 [.ref (a 0), .int p1] D y (w_X3 y a pa na ta ha sl q_saved q_runs q_themes q_storyHeats ++ (w_X1 y pa p_characters p_length ++ (w_X2 y na n_settings n_letters n_heats n_starts n_families n_generations n_tally n_stories n_nextFamily n_splits n_boilings n_fizzles ++ (w_X2 y ta t_settings t_letters t_heats t_starts t_families t_generations t_tally t_stories t_nextFamily t_splits t_boilings t_fizzles ++ (w_X0 y ha hsb h_v h_oldest h_size ++ w_SL y sl ssb s_v))))) sz ro (w_X3 y a pa na ta ha sl q_saved q_runs q_themes q_storyHeats ++ (w_X1 y pa p_characters p_length ++ (w_X2 y na n_settings n_letters n_heats n_starts n_families n_generations n_tally n_stories n_nextFamily n_splits n_boilings n_fizzles ++ (w_X2 y ta t_settings t_letters t_heats t_starts t_families t_generations t_tally t_stories t_nextFamily t_splits t_boilings t_fizzles ++ (w_X0 y ha hsb h_v h_oldest h_size ++ w_SL y sl ssb s_v))))) := by
  refine M_i (cc := cX3_count) (maxL := 2) (own := RX3) (by decide) rfl rfl (Nat.le_of_ble_eq_true rfl) ?_
  intro p e s m args below meth c A Q F hK hA H locs hG hret ls hl
  have hx := F.1
  have hb := F.2.1
  have hl : lv_has ls 2 [(0, .ref (a 0)), (1, .int p1)] := hl
  have k0 := F.2.2.2.2 (.fieldLink RX3 10 "HeatedStories" "now" "LHeatedStories$Shelf;") (List.mem_of_getElem? (i := 1) rfl)
  have k1 : ∀ w ∈ wsX30, w ∈ wsX3_count := (fun w h => List.mem_cons_of_mem _ (List.mem_append_left _ (List.mem_append_left _ (List.mem_append_left _ (List.mem_append_right _ (h))))))
  have k2 := F.2.2.2.2 (.fieldLink RX3 72 "HeatedStories$Shelf" "stories" "I") (List.mem_of_getElem? (i := 2) rfl)
  have k3 : ∀ w ∈ wsX20, w ∈ wsX3_count := (fun w h => List.mem_cons_of_mem _ (List.mem_append_left _ (List.mem_append_left _ (List.mem_append_right _ (h)))))
  have k4 := F.2.2.2.2 (.fieldLink RX3 166 "HeatedStories$Shelf" "splits" "I") (List.mem_of_getElem? (i := 3) rfl)
  have k5 := F.2.2.2.2 (.fieldLink RX3 169 "HeatedStories$Shelf" "boilings" "I") (List.mem_of_getElem? (i := 4) rfl)
  have k6 := F.2.2.2.2 (.fieldLink RX3 172 "HeatedStories$Shelf" "fizzles" "I") (List.mem_of_getElem? (i := 5) rfl)
  have k7 := F.2.2.2.2 (.fieldLink RX3 65 "HeatedStories$Shelf" "settings" "[I") (List.mem_of_getElem? (i := 6) rfl)
  have k8 := F.2.2.2.2 (.fieldLink RX3 37 "HeatedStories" "pad" "LHeatedStories$Pad;") (List.mem_of_getElem? (i := 7) rfl)
  have k9 := F.2.2.2.2 (.fieldLink RX3 88 "HeatedStories$Pad" "length" "I") (List.mem_of_getElem? (i := 8) rfl)
  have k10 : ∀ w ∈ wsX10, w ∈ wsX3_count := (fun w h => List.mem_cons_of_mem _ (List.mem_append_left _ (List.mem_append_right _ (h))))
  have k11 := F.2.2.2.2 (.fieldLink RX3 22 "HeatedStories" "history" "LHeatedStories$History;") (List.mem_of_getElem? (i := 9) rfl)
  have k12 := F.2.2.2.2 (.fieldLink RX3 178 "HeatedStories$History" "size" "I") (List.mem_of_getElem? (i := 10) rfl)
  have k13 : ∀ w ∈ wsX00, w ∈ wsX3_count := (fun w h => List.mem_cons_of_mem _ (List.mem_append_right _ (h)))
  unfold f_X3_count at hf
  refine lv_iload_n hx hb dX3_count_0 rfl (lv_at hl 1 rfl) ?_
  obtain ⟨v1, ev1, hf⟩ := nm_o hf
  refine w_nm ev1 ?_
  by_cases cv1_0 : v1 = nI 0
  · subst cv1_0
    have hf := it_e rfl hf
    refine lv_tableIn (tgt := 68) hx hb dX3_count_1 (by decide) (by decide) rfl (by decide) ?_
    refine lv_aload_n hx hb dX3_count_68 rfl (lv_at hl 0 rfl) ?_
    refine w_get3 F hK hG k1 0 rfl 0 (by decide) k0 rfl dX3_count_69 ?_
    refine w_get2 F hK hG k3 7 rfl 7 (by decide) k2 rfl dX3_count_72 ?_
    have hf := so_e hf
    have e0 : n_stories = ro := hf
    exact hret _ _ _ _ _ e0 hG dX3_count_75
  have hf := if_e cv1_0 hf
  by_cases cv1_1 : v1 = nI 1
  · subst cv1_1
    have hf := it_e rfl hf
    refine lv_tableIn (tgt := 76) hx hb dX3_count_1 (by decide) (by decide) rfl (by decide) ?_
    refine lv_aload_n hx hb dX3_count_76 rfl (lv_at hl 0 rfl) ?_
    refine w_get3 F hK hG k1 0 rfl 0 (by decide) k0 rfl dX3_count_77 ?_
    obtain ⟨r2, h3, hf⟩ := bd1_e hf
    have hG : GG D A s.heap ((w_X2 y na n_settings n_letters n_heats n_starts n_families n_generations n_tally n_stories n_nextFamily n_splits n_boilings n_fizzles) ++ (w_X3 y a pa na ta ha sl q_saved q_runs q_themes q_storyHeats ++ (w_X1 y pa p_characters p_length ++ (w_X2 y ta t_settings t_letters t_heats t_starts t_families t_generations t_tally t_stories t_nextFamily t_splits t_boilings t_fizzles ++ (w_X0 y ha hsb h_v h_oldest h_size ++ (w_SL y sl ssb s_v)))))) H locs := GG.blk (fun k => match k with | 0 => w_X3 y a pa na ta ha sl q_saved q_runs q_themes q_storyHeats | 1 => w_X1 y pa p_characters p_length | 2 => w_X2 y na n_settings n_letters n_heats n_starts n_families n_generations n_tally n_stories n_nextFamily n_splits n_boilings n_fizzles | 3 => w_X2 y ta t_settings t_letters t_heats t_starts t_families t_generations t_tally t_stories t_nextFamily t_splits t_boilings t_fizzles | 4 => w_X0 y ha hsb h_v h_oldest h_size | _ => w_SL y sl ssb s_v) [0, 1, 2, 3, 4, 5] [2, 0, 1, 3, 4, 5] (blkp _ _ rfl) _ _ rfl rfl hG
    refine k_Pi F hK hA hG (c_X2_words l D y na H.size Fu n_settings n_letters n_heats n_starts n_families n_generations n_tally n_stories n_nextFamily n_splits n_boilings n_fizzles r2 h3) (cwV 0 F.2.2.2.2 gX3_count_X2_words rfl rfl rfl (by decide +kernel) ⟨Nat.le_of_ble_eq_true rfl, Nat.le_of_ble_eq_true rfl⟩) 0 rfl rfl rfl rfl rfl hl.1 (Nat.le_of_ble_eq_true rfl) dX3_count_80 ⟨Nat.le_refl 0, Nat.le_refl 0⟩ (fun H locs hG => ?_)
    have hG : GG D A s.heap (w_X3 y a pa na ta ha sl q_saved q_runs q_themes q_storyHeats ++ (w_X1 y pa p_characters p_length ++ (w_X2 y na n_settings n_letters n_heats n_starts n_families n_generations n_tally n_stories n_nextFamily n_splits n_boilings n_fizzles ++ (w_X2 y ta t_settings t_letters t_heats t_starts t_families t_generations t_tally t_stories t_nextFamily t_splits t_boilings t_fizzles ++ (w_X0 y ha hsb h_v h_oldest h_size ++ w_SL y sl ssb s_v))))) H locs := GG.blk (fun k => match k with | 0 => w_X3 y a pa na ta ha sl q_saved q_runs q_themes q_storyHeats | 1 => w_X1 y pa p_characters p_length | 2 => w_X2 y na n_settings n_letters n_heats n_starts n_families n_generations n_tally n_stories n_nextFamily n_splits n_boilings n_fizzles | 3 => w_X2 y ta t_settings t_letters t_heats t_starts t_families t_generations t_tally t_stories t_nextFamily t_splits t_boilings t_fizzles | 4 => w_X0 y ha hsb h_v h_oldest h_size | _ => w_SL y sl ssb s_v) [2, 0, 1, 3, 4, 5] [0, 1, 2, 3, 4, 5] (blkp _ _ rfl) _ _ rfl rfl hG
    have hf := so_e hf
    have e0 : r2 = ro := hf
    exact hret _ _ _ _ _ e0 hG dX3_count_83
  have hf := if_e cv1_1 hf
  by_cases cv1_2 : v1 = nI 2
  · subst cv1_2
    have hf := it_e rfl hf
    refine lv_tableIn (tgt := 84) hx hb dX3_count_1 (by decide) (by decide) rfl (by decide) ?_
    refine lv_aload_n hx hb dX3_count_84 rfl (lv_at hl 0 rfl) ?_
    refine w_get3 F hK hG k1 0 rfl 0 (by decide) k0 rfl dX3_count_85 ?_
    obtain ⟨r4, h5, hf⟩ := bd1_e hf
    have hG : GG D A s.heap ((w_X2 y na n_settings n_letters n_heats n_starts n_families n_generations n_tally n_stories n_nextFamily n_splits n_boilings n_fizzles) ++ (w_X3 y a pa na ta ha sl q_saved q_runs q_themes q_storyHeats ++ (w_X1 y pa p_characters p_length ++ (w_X2 y ta t_settings t_letters t_heats t_starts t_families t_generations t_tally t_stories t_nextFamily t_splits t_boilings t_fizzles ++ (w_X0 y ha hsb h_v h_oldest h_size ++ (w_SL y sl ssb s_v)))))) H locs := GG.blk (fun k => match k with | 0 => w_X3 y a pa na ta ha sl q_saved q_runs q_themes q_storyHeats | 1 => w_X1 y pa p_characters p_length | 2 => w_X2 y na n_settings n_letters n_heats n_starts n_families n_generations n_tally n_stories n_nextFamily n_splits n_boilings n_fizzles | 3 => w_X2 y ta t_settings t_letters t_heats t_starts t_families t_generations t_tally t_stories t_nextFamily t_splits t_boilings t_fizzles | 4 => w_X0 y ha hsb h_v h_oldest h_size | _ => w_SL y sl ssb s_v) [0, 1, 2, 3, 4, 5] [2, 0, 1, 3, 4, 5] (blkp _ _ rfl) _ _ rfl rfl hG
    refine k_Pi F hK hA hG (c_X2_heatOfAll l D y na H.size Fu n_settings n_letters n_heats n_starts n_families n_generations n_tally n_stories n_nextFamily n_splits n_boilings n_fizzles r4 h5) (cwV 0 F.2.2.2.2 gX3_count_X2_heatOfAll rfl rfl rfl (by decide +kernel) ⟨Nat.le_of_ble_eq_true rfl, Nat.le_of_ble_eq_true rfl⟩) 0 rfl rfl rfl rfl rfl hl.1 (Nat.le_of_ble_eq_true rfl) dX3_count_88 ⟨Nat.le_refl 0, Nat.le_refl 0⟩ (fun H locs hG => ?_)
    have hG : GG D A s.heap (w_X3 y a pa na ta ha sl q_saved q_runs q_themes q_storyHeats ++ (w_X1 y pa p_characters p_length ++ (w_X2 y na n_settings n_letters n_heats n_starts n_families n_generations n_tally n_stories n_nextFamily n_splits n_boilings n_fizzles ++ (w_X2 y ta t_settings t_letters t_heats t_starts t_families t_generations t_tally t_stories t_nextFamily t_splits t_boilings t_fizzles ++ (w_X0 y ha hsb h_v h_oldest h_size ++ w_SL y sl ssb s_v))))) H locs := GG.blk (fun k => match k with | 0 => w_X3 y a pa na ta ha sl q_saved q_runs q_themes q_storyHeats | 1 => w_X1 y pa p_characters p_length | 2 => w_X2 y na n_settings n_letters n_heats n_starts n_families n_generations n_tally n_stories n_nextFamily n_splits n_boilings n_fizzles | 3 => w_X2 y ta t_settings t_letters t_heats t_starts t_families t_generations t_tally t_stories t_nextFamily t_splits t_boilings t_fizzles | 4 => w_X0 y ha hsb h_v h_oldest h_size | _ => w_SL y sl ssb s_v) [2, 0, 1, 3, 4, 5] [0, 1, 2, 3, 4, 5] (blkp _ _ rfl) _ _ rfl rfl hG
    have hf := so_e hf
    have e0 : r4 = ro := hf
    exact hret _ _ _ _ _ e0 hG dX3_count_91
  have hf := if_e cv1_2 hf
  by_cases cv1_3 : v1 = nI 3
  · subst cv1_3
    have hf := it_e rfl hf
    refine lv_tableIn (tgt := 92) hx hb dX3_count_1 (by decide) (by decide) rfl (by decide) ?_
    refine lv_aload_n hx hb dX3_count_92 rfl (lv_at hl 0 rfl) ?_
    refine w_get3 F hK hG k1 0 rfl 0 (by decide) k0 rfl dX3_count_93 ?_
    obtain ⟨r6, h7, hf⟩ := bd1_e hf
    have hG : GG D A s.heap ((w_X2 y na n_settings n_letters n_heats n_starts n_families n_generations n_tally n_stories n_nextFamily n_splits n_boilings n_fizzles) ++ (w_X3 y a pa na ta ha sl q_saved q_runs q_themes q_storyHeats ++ (w_X1 y pa p_characters p_length ++ (w_X2 y ta t_settings t_letters t_heats t_starts t_families t_generations t_tally t_stories t_nextFamily t_splits t_boilings t_fizzles ++ (w_X0 y ha hsb h_v h_oldest h_size ++ (w_SL y sl ssb s_v)))))) H locs := GG.blk (fun k => match k with | 0 => w_X3 y a pa na ta ha sl q_saved q_runs q_themes q_storyHeats | 1 => w_X1 y pa p_characters p_length | 2 => w_X2 y na n_settings n_letters n_heats n_starts n_families n_generations n_tally n_stories n_nextFamily n_splits n_boilings n_fizzles | 3 => w_X2 y ta t_settings t_letters t_heats t_starts t_families t_generations t_tally t_stories t_nextFamily t_splits t_boilings t_fizzles | 4 => w_X0 y ha hsb h_v h_oldest h_size | _ => w_SL y sl ssb s_v) [0, 1, 2, 3, 4, 5] [2, 0, 1, 3, 4, 5] (blkp _ _ rfl) _ _ rfl rfl hG
    refine k_Pi F hK hA hG (c_X2_unlikeFamilies l D y na H.size Fu n_settings n_letters n_heats n_starts n_families n_generations n_tally n_stories n_nextFamily n_splits n_boilings n_fizzles r6 h7) (cwV 0 F.2.2.2.2 gX3_count_X2_unlikeFamilies rfl rfl rfl (by decide +kernel) ⟨Nat.le_of_ble_eq_true rfl, Nat.le_of_ble_eq_true rfl⟩) 0 rfl rfl rfl rfl rfl hl.1 (Nat.le_of_ble_eq_true rfl) dX3_count_96 ⟨Nat.le_refl 0, Nat.le_refl 0⟩ (fun H locs hG => ?_)
    have hG : GG D A s.heap (w_X3 y a pa na ta ha sl q_saved q_runs q_themes q_storyHeats ++ (w_X1 y pa p_characters p_length ++ (w_X2 y na n_settings n_letters n_heats n_starts n_families n_generations n_tally n_stories n_nextFamily n_splits n_boilings n_fizzles ++ (w_X2 y ta t_settings t_letters t_heats t_starts t_families t_generations t_tally t_stories t_nextFamily t_splits t_boilings t_fizzles ++ (w_X0 y ha hsb h_v h_oldest h_size ++ w_SL y sl ssb s_v))))) H locs := GG.blk (fun k => match k with | 0 => w_X3 y a pa na ta ha sl q_saved q_runs q_themes q_storyHeats | 1 => w_X1 y pa p_characters p_length | 2 => w_X2 y na n_settings n_letters n_heats n_starts n_families n_generations n_tally n_stories n_nextFamily n_splits n_boilings n_fizzles | 3 => w_X2 y ta t_settings t_letters t_heats t_starts t_families t_generations t_tally t_stories t_nextFamily t_splits t_boilings t_fizzles | 4 => w_X0 y ha hsb h_v h_oldest h_size | _ => w_SL y sl ssb s_v) [2, 0, 1, 3, 4, 5] [0, 1, 2, 3, 4, 5] (blkp _ _ rfl) _ _ rfl rfl hG
    have hf := so_e hf
    have e0 : r6 = ro := hf
    exact hret _ _ _ _ _ e0 hG dX3_count_99
  have hf := if_e cv1_3 hf
  by_cases cv1_4 : v1 = nI 4
  · subst cv1_4
    have hf := it_e rfl hf
    refine lv_tableIn (tgt := 100) hx hb dX3_count_1 (by decide) (by decide) rfl (by decide) ?_
    refine lv_aload_n hx hb dX3_count_100 rfl (lv_at hl 0 rfl) ?_
    refine w_get3 F hK hG k1 0 rfl 0 (by decide) k0 rfl dX3_count_101 ?_
    refine w_get2 F hK hG k3 7 rfl 9 (by decide) k4 rfl dX3_count_104 ?_
    have hf := so_e hf
    have e0 : n_splits = ro := hf
    exact hret _ _ _ _ _ e0 hG dX3_count_107
  have hf := if_e cv1_4 hf
  by_cases cv1_5 : v1 = nI 5
  · subst cv1_5
    have hf := it_e rfl hf
    refine lv_tableIn (tgt := 108) hx hb dX3_count_1 (by decide) (by decide) rfl (by decide) ?_
    refine lv_aload_n hx hb dX3_count_108 rfl (lv_at hl 0 rfl) ?_
    refine w_get3 F hK hG k1 0 rfl 0 (by decide) k0 rfl dX3_count_109 ?_
    refine w_get2 F hK hG k3 7 rfl 10 (by decide) k5 rfl dX3_count_112 ?_
    have hf := so_e hf
    have e0 : n_boilings = ro := hf
    exact hret _ _ _ _ _ e0 hG dX3_count_115
  have hf := if_e cv1_5 hf
  by_cases cv1_6 : v1 = nI 6
  · subst cv1_6
    have hf := it_e rfl hf
    refine lv_tableIn (tgt := 116) hx hb dX3_count_1 (by decide) (by decide) rfl (by decide) ?_
    refine lv_aload_n hx hb dX3_count_116 rfl (lv_at hl 0 rfl) ?_
    refine w_get3 F hK hG k1 0 rfl 0 (by decide) k0 rfl dX3_count_117 ?_
    refine w_get2 F hK hG k3 7 rfl 11 (by decide) k6 rfl dX3_count_120 ?_
    have hf := so_e hf
    have e0 : n_fizzles = ro := hf
    exact hret _ _ _ _ _ e0 hG dX3_count_123
  have hf := if_e cv1_6 hf
  by_cases cv1_7 : v1 = nI 7
  · subst cv1_7
    have hf := it_e rfl hf
    refine lv_tableIn (tgt := 124) hx hb dX3_count_1 (by decide) (by decide) rfl (by decide) ?_
    refine lv_aload_n hx hb dX3_count_124 rfl (lv_at hl 0 rfl) ?_
    refine w_get3 F hK hG k1 0 rfl 0 (by decide) k0 rfl dX3_count_125 ?_
    obtain ⟨r8, h9, hf⟩ := bd1_e hf
    have hG : GG D A s.heap ((w_X2 y na n_settings n_letters n_heats n_starts n_families n_generations n_tally n_stories n_nextFamily n_splits n_boilings n_fizzles) ++ (w_X3 y a pa na ta ha sl q_saved q_runs q_themes q_storyHeats ++ (w_X1 y pa p_characters p_length ++ (w_X2 y ta t_settings t_letters t_heats t_starts t_families t_generations t_tally t_stories t_nextFamily t_splits t_boilings t_fizzles ++ (w_X0 y ha hsb h_v h_oldest h_size ++ (w_SL y sl ssb s_v)))))) H locs := GG.blk (fun k => match k with | 0 => w_X3 y a pa na ta ha sl q_saved q_runs q_themes q_storyHeats | 1 => w_X1 y pa p_characters p_length | 2 => w_X2 y na n_settings n_letters n_heats n_starts n_families n_generations n_tally n_stories n_nextFamily n_splits n_boilings n_fizzles | 3 => w_X2 y ta t_settings t_letters t_heats t_starts t_families t_generations t_tally t_stories t_nextFamily t_splits t_boilings t_fizzles | 4 => w_X0 y ha hsb h_v h_oldest h_size | _ => w_SL y sl ssb s_v) [0, 1, 2, 3, 4, 5] [2, 0, 1, 3, 4, 5] (blkp _ _ rfl) _ _ rfl rfl hG
    refine k_Pi F hK hA hG (c_X2_greatestGeneration l D y na H.size Fu n_settings n_letters n_heats n_starts n_families n_generations n_tally n_stories n_nextFamily n_splits n_boilings n_fizzles r8 h9) (cwV 0 F.2.2.2.2 gX3_count_X2_greatestGeneration rfl rfl rfl (by decide +kernel) ⟨Nat.le_of_ble_eq_true rfl, Nat.le_of_ble_eq_true rfl⟩) 0 rfl rfl rfl rfl rfl hl.1 (Nat.le_of_ble_eq_true rfl) dX3_count_128 ⟨Nat.le_refl 0, Nat.le_refl 0⟩ (fun H locs hG => ?_)
    have hG : GG D A s.heap (w_X3 y a pa na ta ha sl q_saved q_runs q_themes q_storyHeats ++ (w_X1 y pa p_characters p_length ++ (w_X2 y na n_settings n_letters n_heats n_starts n_families n_generations n_tally n_stories n_nextFamily n_splits n_boilings n_fizzles ++ (w_X2 y ta t_settings t_letters t_heats t_starts t_families t_generations t_tally t_stories t_nextFamily t_splits t_boilings t_fizzles ++ (w_X0 y ha hsb h_v h_oldest h_size ++ w_SL y sl ssb s_v))))) H locs := GG.blk (fun k => match k with | 0 => w_X3 y a pa na ta ha sl q_saved q_runs q_themes q_storyHeats | 1 => w_X1 y pa p_characters p_length | 2 => w_X2 y na n_settings n_letters n_heats n_starts n_families n_generations n_tally n_stories n_nextFamily n_splits n_boilings n_fizzles | 3 => w_X2 y ta t_settings t_letters t_heats t_starts t_families t_generations t_tally t_stories t_nextFamily t_splits t_boilings t_fizzles | 4 => w_X0 y ha hsb h_v h_oldest h_size | _ => w_SL y sl ssb s_v) [2, 0, 1, 3, 4, 5] [0, 1, 2, 3, 4, 5] (blkp _ _ rfl) _ _ rfl rfl hG
    have hf := so_e hf
    have e0 : r8 = ro := hf
    exact hret _ _ _ _ _ e0 hG dX3_count_131
  have hf := if_e cv1_7 hf
  by_cases cv1_8 : v1 = nI 8
  · subst cv1_8
    have hf := it_e rfl hf
    refine lv_tableIn (tgt := 132) hx hb dX3_count_1 (by decide) (by decide) rfl (by decide) ?_
    refine lv_aload_n hx hb dX3_count_132 rfl (lv_at hl 0 rfl) ?_
    refine w_get3 F hK hG k1 0 rfl 0 (by decide) k0 rfl dX3_count_133 ?_
    refine w_get2 F hK hG k3 7 rfl 0 (by decide) k7 rfl dX3_count_136 ?_
    refine lv_iconst (v := nI 0) hx hb dX3_count_139 rfl ?_
    refine w_ialdk F hK hG 8 rfl (Nat.le_of_ble_eq_true rfl) (Nat.le_of_ble_eq_true rfl) dX3_count_140 ?_
    have hf := so_e hf
    have e0 : (n_settings 0) = ro := hf
    exact hret _ _ _ _ _ e0 hG dX3_count_141
  have hf := if_e cv1_8 hf
  by_cases cv1_9 : v1 = nI 9
  · subst cv1_9
    have hf := it_e rfl hf
    refine lv_tableIn (tgt := 142) hx hb dX3_count_1 (by decide) (by decide) rfl (by decide) ?_
    refine lv_aload_n hx hb dX3_count_142 rfl (lv_at hl 0 rfl) ?_
    refine w_get3 F hK hG k1 0 rfl 0 (by decide) k0 rfl dX3_count_143 ?_
    refine w_get2 F hK hG k3 7 rfl 0 (by decide) k7 rfl dX3_count_146 ?_
    refine lv_iconst (v := nI 1) hx hb dX3_count_149 rfl ?_
    refine w_ialdk F hK hG 8 rfl (Nat.le_of_ble_eq_true rfl) (Nat.le_of_ble_eq_true rfl) dX3_count_150 ?_
    have hf := so_e hf
    have e0 : (n_settings 1) = ro := hf
    exact hret _ _ _ _ _ e0 hG dX3_count_151
  have hf := if_e cv1_9 hf
  by_cases cv1_10 : v1 = nI 10
  · subst cv1_10
    have hf := it_e rfl hf
    refine lv_tableIn (tgt := 152) hx hb dX3_count_1 (by decide) (by decide) rfl (by decide) ?_
    refine lv_aload_n hx hb dX3_count_152 rfl (lv_at hl 0 rfl) ?_
    refine w_get3 F hK hG k1 0 rfl 0 (by decide) k0 rfl dX3_count_153 ?_
    refine w_get2 F hK hG k3 7 rfl 0 (by decide) k7 rfl dX3_count_156 ?_
    refine lv_iconst (v := nI 2) hx hb dX3_count_159 rfl ?_
    refine w_ialdk F hK hG 8 rfl (Nat.le_of_ble_eq_true rfl) (Nat.le_of_ble_eq_true rfl) dX3_count_160 ?_
    have hf := so_e hf
    have e0 : (n_settings 2) = ro := hf
    exact hret _ _ _ _ _ e0 hG dX3_count_161
  have hf := if_e cv1_10 hf
  by_cases cv1_11 : v1 = nI 11
  · subst cv1_11
    have hf := it_e rfl hf
    refine lv_tableIn (tgt := 162) hx hb dX3_count_1 (by decide) (by decide) rfl (by decide) ?_
    refine lv_aload_n hx hb dX3_count_162 rfl (lv_at hl 0 rfl) ?_
    refine w_get3 F hK hG k1 0 rfl 5 (by decide) k8 rfl dX3_count_163 ?_
    refine w_get1 F hK hG k10 5 rfl 1 (by decide) k9 rfl dX3_count_166 ?_
    have hf := so_e hf
    have e0 : p_length = ro := hf
    exact hret _ _ _ _ _ e0 hG dX3_count_169
  have hf := if_e cv1_11 hf
  by_cases cv1_12 : v1 = nI 12
  · subst cv1_12
    have hf := it_e rfl hf
    refine lv_tableIn (tgt := 170) hx hb dX3_count_1 (by decide) (by decide) rfl (by decide) ?_
    refine lv_aload_n hx hb dX3_count_170 rfl (lv_at hl 0 rfl) ?_
    refine w_get3 F hK hG k1 0 rfl 2 (by decide) k11 rfl dX3_count_171 ?_
    refine w_get0 F hK hG k13 23 rfl 2 (by decide) k12 rfl dX3_count_174 ?_
    have hf := so_e hf
    have e0 : h_size = ro := hf
    exact hret _ _ _ _ _ e0 hG dX3_count_177
  have hf := if_e cv1_12 hf
  refine lv_tableOut (tgt := 178) hx hb dX3_count_1 (tsw 12 (by decide) (fun k hk => ?_)) (by decide) ?_
  · rcases (show k = 0 ∨ k = 1 ∨ k = 2 ∨ k = 3 ∨ k = 4 ∨ k = 5 ∨ k = 6 ∨ k = 7 ∨ k = 8 ∨ k = 9 ∨ k = 10 ∨ k = 11 ∨ k = 12 by omega) with rfl | rfl | rfl | rfl | rfl | rfl | rfl | rfl | rfl | rfl | rfl | rfl | rfl
    · exact cv1_0
    · exact cv1_1
    · exact cv1_2
    · exact cv1_3
    · exact cv1_4
    · exact cv1_5
    · exact cv1_6
    · exact cv1_7
    · exact cv1_8
    · exact cv1_9
    · exact cv1_10
    · exact cv1_11
    · exact cv1_12
  refine lv_bipush (v := -2) hx hb dX3_count_178 rfl ?_
  have hf := so_e hf
  have e0 : (-2) = ro := hf
  exact hret _ _ _ _ _ e0 hG dX3_count_180
set_option maxHeartbeats 1000000 in
set_option maxRecDepth 100000 in
theorem c_X3_isLetter (l : Launch) (D : va_G) (y : Nat → ClassId)  (sz : Nat) (Fu : Nat) (p0 : Int32) (ro : Int32) (hf : f_X3_isLetter Fu p0 = some (ro)) : MI l yX3_isLetter wsX3_isLetter 1 22 [.int p0] D y [] sz ro [] := by
  refine M_z (cc := cX3_isLetter) (maxL := 1) (own := RX3) (by decide) rfl rfl (Nat.le_of_ble_eq_true rfl) ?_
  intro p e s m args below meth c A Q F hK hA H locs hG hret ls hl
  have hx := F.1
  have hb := F.2.1
  have hl : lv_has ls 1 [(0, .int p0)] := hl
  unfold f_X3_isLetter at hf
  refine lv_iload_n hx hb dX3_isLetter_0 rfl (lv_at hl 0 rfl) ?_
  refine lv_iconst (v := nI 0) hx hb dX3_isLetter_1 rfl ?_
  refine lv_bipush (v := nI 25) hx hb dX3_isLetter_2 rfl ?_
  obtain ⟨r1, h2, hf⟩ := bd1_e hf
  refine k_Si F hK hA hG (c_X3_isWithin l D y  H.size Fu  p0 (nI 0) (nI 25) r1 h2) (va_cwS 3 F.2.2.2.2 gX3_isLetter_X3_isWithin rfl rfl rfl (by decide +kernel) ⟨Nat.le_of_ble_eq_true rfl, Nat.le_of_ble_eq_true rfl⟩) rfl rfl hl.1 (Nat.le_of_ble_eq_true rfl) dX3_isLetter_4 ⟨Nat.le_refl 0, Nat.le_refl 0⟩ (fun H locs hG => ?_)
  obtain ⟨gz, hf⟩ := gd_e hf
  have hf := so_e hf
  have e0 : r1 = ro := hf
  exact hret _ _ _ _ _ (bz_n gz) e0 hG dX3_isLetter_7
set_option maxHeartbeats 1000000 in
set_option maxRecDepth 100000 in
theorem c_X3_letter (l : Launch) (D : va_G) (y : Nat → ClassId) (a pa na ta ha : Nat → Nat) (hsb : Nat → Nat → Nat) (sl : Nat) (ssb : Nat → Nat → Nat) (sz : Nat) (Fu : Nat) (q_saved : Ar) (q_runs : Ar) (q_themes : Ar) (q_storyHeats : Ar) (p_characters : Ar) (p_length : Int32) (n_settings : Ar) (n_letters : Ar) (n_heats : Ar) (n_starts : Ar) (n_families : Ar) (n_generations : Ar) (n_tally : Ar) (n_stories : Int32) (n_nextFamily : Int32) (n_splits : Int32) (n_boilings : Int32) (n_fizzles : Int32) (t_settings : Ar) (t_letters : Ar) (t_heats : Ar) (t_starts : Ar) (t_families : Ar) (t_generations : Ar) (t_tally : Ar) (t_stories : Int32) (t_nextFamily : Int32) (t_splits : Int32) (t_boilings : Int32) (t_fizzles : Int32) (h_v : (Nat → SV)) (h_oldest : Int32) (h_size : Int32) (s_v : (Nat → SV)) (p1 : Int32) (p2 : Int32) (ro : Int32) (n_tally_o : Ar) (hf : f_X3_letter Fu n_letters n_heats n_starts n_tally n_stories p1 p2 = some (ro, n_tally_o)) : MI l yX3_letter wsX3_letter 4 91 [.ref (a 0), .int p1, .int p2] D y (w_X3 y a pa na ta ha sl q_saved q_runs q_themes q_storyHeats ++ (w_X1 y pa p_characters p_length ++ (w_X2 y na n_settings n_letters n_heats n_starts n_families n_generations n_tally n_stories n_nextFamily n_splits n_boilings n_fizzles ++ (w_X2 y ta t_settings t_letters t_heats t_starts t_families t_generations t_tally t_stories t_nextFamily t_splits t_boilings t_fizzles ++ (w_X0 y ha hsb h_v h_oldest h_size ++ w_SL y sl ssb s_v))))) sz ro (w_X3 y a pa na ta ha sl q_saved q_runs q_themes q_storyHeats ++ (w_X1 y pa p_characters p_length ++ (w_X2 y na n_settings n_letters n_heats n_starts n_families n_generations n_tally_o n_stories n_nextFamily n_splits n_boilings n_fizzles ++ (w_X2 y ta t_settings t_letters t_heats t_starts t_families t_generations t_tally t_stories t_nextFamily t_splits t_boilings t_fizzles ++ (w_X0 y ha hsb h_v h_oldest h_size ++ w_SL y sl ssb s_v))))) := by
  refine M_i (cc := cX3_letter) (maxL := 3) (own := RX3) (by decide) rfl rfl (Nat.le_of_ble_eq_true rfl) ?_
  intro p e s m args below meth c A Q F hK hA H locs hG hret ls hl
  have hx := F.1
  have hb := F.2.1
  have hl : lv_has ls 3 [(0, .ref (a 0)), (1, .int p1), (2, .int p2)] := hl
  have k0 := F.2.2.2.2 (.fieldLink RX3 10 "HeatedStories" "now" "LHeatedStories$Shelf;") (List.mem_of_getElem? (i := 1) rfl)
  have k1 : ∀ w ∈ wsX30, w ∈ wsX3_letter := (fun w h => List.mem_cons_of_mem _ (List.mem_append_left _ (List.mem_append_right _ (h))))
  unfold f_X3_letter at hf
  refine lv_iload_n hx hb dX3_letter_0 rfl (lv_at hl 1 rfl) ?_
  obtain ⟨r1, h2, hf⟩ := bd1_e hf
  refine k_Si F hK hA hG (c_X3_isLetter l D y  H.size Fu  p1 r1 h2) (va_cwS 1 F.2.2.2.2 gX3_letter_X3_isLetter rfl rfl rfl (by decide +kernel) ⟨Nat.le_of_ble_eq_true rfl, Nat.le_of_ble_eq_true rfl⟩) rfl rfl hl.1 (Nat.le_of_ble_eq_true rfl) dX3_letter_1 ⟨Nat.le_refl 0, Nat.le_refl 0⟩ (fun H locs hG => ?_)
  refine lv_if_ne (tgt := 10) hx hb dX3_letter_4 (by decide) (fun c3 => ?_) (fun c3 => ?_)
  · have hf := if_e c3 hf
    refine lv_iload_n hx hb dX3_letter_10 rfl (lv_at hl 2 rfl) ?_
    obtain ⟨v4, ev4, hf⟩ := nm_o hf
    refine w_nm ev4 ?_
    by_cases cv4_0 : v4 = nI 0
    · subst cv4_0
      have hf := it_e rfl hf
      refine lv_tableIn (tgt := 40) hx hb dX3_letter_11 (by decide) (by decide) rfl (by decide) ?_
      refine lv_aload_n hx hb dX3_letter_40 rfl (lv_at hl 0 rfl) ?_
      refine w_get3 F hK hG k1 0 rfl 0 (by decide) k0 rfl dX3_letter_41 ?_
      refine lv_iload_n hx hb dX3_letter_44 rfl (lv_at hl 1 rfl) ?_
      obtain ⟨r5, h6, hf⟩ := bd1_e hf
      have hG : GG D A s.heap ((w_X2 y na n_settings n_letters n_heats n_starts n_families n_generations n_tally n_stories n_nextFamily n_splits n_boilings n_fizzles) ++ (w_X3 y a pa na ta ha sl q_saved q_runs q_themes q_storyHeats ++ (w_X1 y pa p_characters p_length ++ (w_X2 y ta t_settings t_letters t_heats t_starts t_families t_generations t_tally t_stories t_nextFamily t_splits t_boilings t_fizzles ++ (w_X0 y ha hsb h_v h_oldest h_size ++ (w_SL y sl ssb s_v)))))) H locs := GG.blk (fun k => match k with | 0 => w_X3 y a pa na ta ha sl q_saved q_runs q_themes q_storyHeats | 1 => w_X1 y pa p_characters p_length | 2 => w_X2 y na n_settings n_letters n_heats n_starts n_families n_generations n_tally n_stories n_nextFamily n_splits n_boilings n_fizzles | 3 => w_X2 y ta t_settings t_letters t_heats t_starts t_families t_generations t_tally t_stories t_nextFamily t_splits t_boilings t_fizzles | 4 => w_X0 y ha hsb h_v h_oldest h_size | _ => w_SL y sl ssb s_v) [0, 1, 2, 3, 4, 5] [2, 0, 1, 3, 4, 5] (blkp _ _ rfl) _ _ rfl rfl hG
      refine k_Pi F hK hA hG (c_X2_timesInAll l D y na H.size Fu n_settings n_letters n_heats n_starts n_families n_generations n_tally n_stories n_nextFamily n_splits n_boilings n_fizzles p1 r5 h6) (cwV 1 F.2.2.2.2 gX3_letter_X2_timesInAll rfl rfl rfl (by decide +kernel) ⟨Nat.le_of_ble_eq_true rfl, Nat.le_of_ble_eq_true rfl⟩) 0 rfl rfl rfl rfl rfl hl.1 (Nat.le_of_ble_eq_true rfl) dX3_letter_45 ⟨Nat.le_refl 0, Nat.le_refl 0⟩ (fun H locs hG => ?_)
      have hG : GG D A s.heap (w_X3 y a pa na ta ha sl q_saved q_runs q_themes q_storyHeats ++ (w_X1 y pa p_characters p_length ++ (w_X2 y na n_settings n_letters n_heats n_starts n_families n_generations n_tally n_stories n_nextFamily n_splits n_boilings n_fizzles ++ (w_X2 y ta t_settings t_letters t_heats t_starts t_families t_generations t_tally t_stories t_nextFamily t_splits t_boilings t_fizzles ++ (w_X0 y ha hsb h_v h_oldest h_size ++ w_SL y sl ssb s_v))))) H locs := GG.blk (fun k => match k with | 0 => w_X3 y a pa na ta ha sl q_saved q_runs q_themes q_storyHeats | 1 => w_X1 y pa p_characters p_length | 2 => w_X2 y na n_settings n_letters n_heats n_starts n_families n_generations n_tally n_stories n_nextFamily n_splits n_boilings n_fizzles | 3 => w_X2 y ta t_settings t_letters t_heats t_starts t_families t_generations t_tally t_stories t_nextFamily t_splits t_boilings t_fizzles | 4 => w_X0 y ha hsb h_v h_oldest h_size | _ => w_SL y sl ssb s_v) [2, 0, 1, 3, 4, 5] [0, 1, 2, 3, 4, 5] (blkp _ _ rfl) _ _ rfl rfl hG
      have hf := so_e hf
      have e0 : r5 = ro := congrArg (fun z => z.1) hf
      have e1 : n_tally = n_tally_o := congrArg (fun z => z.2) hf
      exact hret _ _ _ _ _ e0 (by rw [← e1]; exact hG) dX3_letter_48
    have hf := if_e cv4_0 hf
    by_cases cv4_1 : v4 = nI 1
    · subst cv4_1
      have hf := it_e rfl hf
      refine lv_tableIn (tgt := 49) hx hb dX3_letter_11 (by decide) (by decide) rfl (by decide) ?_
      refine lv_aload_n hx hb dX3_letter_49 rfl (lv_at hl 0 rfl) ?_
      refine w_get3 F hK hG k1 0 rfl 0 (by decide) k0 rfl dX3_letter_50 ?_
      refine lv_iload_n hx hb dX3_letter_53 rfl (lv_at hl 1 rfl) ?_
      obtain ⟨r7, h8, hf⟩ := bd1_e hf
      have hG : GG D A s.heap ((w_X2 y na n_settings n_letters n_heats n_starts n_families n_generations n_tally n_stories n_nextFamily n_splits n_boilings n_fizzles) ++ (w_X3 y a pa na ta ha sl q_saved q_runs q_themes q_storyHeats ++ (w_X1 y pa p_characters p_length ++ (w_X2 y ta t_settings t_letters t_heats t_starts t_families t_generations t_tally t_stories t_nextFamily t_splits t_boilings t_fizzles ++ (w_X0 y ha hsb h_v h_oldest h_size ++ (w_SL y sl ssb s_v)))))) H locs := GG.blk (fun k => match k with | 0 => w_X3 y a pa na ta ha sl q_saved q_runs q_themes q_storyHeats | 1 => w_X1 y pa p_characters p_length | 2 => w_X2 y na n_settings n_letters n_heats n_starts n_families n_generations n_tally n_stories n_nextFamily n_splits n_boilings n_fizzles | 3 => w_X2 y ta t_settings t_letters t_heats t_starts t_families t_generations t_tally t_stories t_nextFamily t_splits t_boilings t_fizzles | 4 => w_X0 y ha hsb h_v h_oldest h_size | _ => w_SL y sl ssb s_v) [0, 1, 2, 3, 4, 5] [2, 0, 1, 3, 4, 5] (blkp _ _ rfl) _ _ rfl rfl hG
      refine k_Pi F hK hA hG (c_X2_storiesWith l D y na H.size Fu n_settings n_letters n_heats n_starts n_families n_generations n_tally n_stories n_nextFamily n_splits n_boilings n_fizzles p1 r7 h8) (cwV 1 F.2.2.2.2 gX3_letter_X2_storiesWith rfl rfl rfl (by decide +kernel) ⟨Nat.le_of_ble_eq_true rfl, Nat.le_of_ble_eq_true rfl⟩) 0 rfl rfl rfl rfl rfl hl.1 (Nat.le_of_ble_eq_true rfl) dX3_letter_54 ⟨Nat.le_refl 0, Nat.le_refl 0⟩ (fun H locs hG => ?_)
      have hG : GG D A s.heap (w_X3 y a pa na ta ha sl q_saved q_runs q_themes q_storyHeats ++ (w_X1 y pa p_characters p_length ++ (w_X2 y na n_settings n_letters n_heats n_starts n_families n_generations n_tally n_stories n_nextFamily n_splits n_boilings n_fizzles ++ (w_X2 y ta t_settings t_letters t_heats t_starts t_families t_generations t_tally t_stories t_nextFamily t_splits t_boilings t_fizzles ++ (w_X0 y ha hsb h_v h_oldest h_size ++ w_SL y sl ssb s_v))))) H locs := GG.blk (fun k => match k with | 0 => w_X3 y a pa na ta ha sl q_saved q_runs q_themes q_storyHeats | 1 => w_X1 y pa p_characters p_length | 2 => w_X2 y na n_settings n_letters n_heats n_starts n_families n_generations n_tally n_stories n_nextFamily n_splits n_boilings n_fizzles | 3 => w_X2 y ta t_settings t_letters t_heats t_starts t_families t_generations t_tally t_stories t_nextFamily t_splits t_boilings t_fizzles | 4 => w_X0 y ha hsb h_v h_oldest h_size | _ => w_SL y sl ssb s_v) [2, 0, 1, 3, 4, 5] [0, 1, 2, 3, 4, 5] (blkp _ _ rfl) _ _ rfl rfl hG
      have hf := so_e hf
      have e0 : r7 = ro := congrArg (fun z => z.1) hf
      have e1 : n_tally = n_tally_o := congrArg (fun z => z.2) hf
      exact hret _ _ _ _ _ e0 (by rw [← e1]; exact hG) dX3_letter_57
    have hf := if_e cv4_1 hf
    by_cases cv4_2 : v4 = nI 2
    · subst cv4_2
      have hf := it_e rfl hf
      refine lv_tableIn (tgt := 58) hx hb dX3_letter_11 (by decide) (by decide) rfl (by decide) ?_
      refine lv_aload_n hx hb dX3_letter_58 rfl (lv_at hl 0 rfl) ?_
      refine w_get3 F hK hG k1 0 rfl 0 (by decide) k0 rfl dX3_letter_59 ?_
      refine lv_iload_n hx hb dX3_letter_62 rfl (lv_at hl 1 rfl) ?_
      obtain ⟨r9, n_tally_10, h11, hf⟩ := bd2_e hf
      have hG : GG D A s.heap ((w_X2 y na n_settings n_letters n_heats n_starts n_families n_generations n_tally n_stories n_nextFamily n_splits n_boilings n_fizzles) ++ (w_X3 y a pa na ta ha sl q_saved q_runs q_themes q_storyHeats ++ (w_X1 y pa p_characters p_length ++ (w_X2 y ta t_settings t_letters t_heats t_starts t_families t_generations t_tally t_stories t_nextFamily t_splits t_boilings t_fizzles ++ (w_X0 y ha hsb h_v h_oldest h_size ++ (w_SL y sl ssb s_v)))))) H locs := GG.blk (fun k => match k with | 0 => w_X3 y a pa na ta ha sl q_saved q_runs q_themes q_storyHeats | 1 => w_X1 y pa p_characters p_length | 2 => w_X2 y na n_settings n_letters n_heats n_starts n_families n_generations n_tally n_stories n_nextFamily n_splits n_boilings n_fizzles | 3 => w_X2 y ta t_settings t_letters t_heats t_starts t_families t_generations t_tally t_stories t_nextFamily t_splits t_boilings t_fizzles | 4 => w_X0 y ha hsb h_v h_oldest h_size | _ => w_SL y sl ssb s_v) [0, 1, 2, 3, 4, 5] [2, 0, 1, 3, 4, 5] (blkp _ _ rfl) _ _ rfl rfl hG
      refine k_Pi F hK hA hG (c_X2_storiesOfTheme l D y na H.size Fu n_settings n_letters n_heats n_starts n_families n_generations n_tally n_stories n_nextFamily n_splits n_boilings n_fizzles p1 r9 n_tally_10 h11) (cwV 1 F.2.2.2.2 gX3_letter_X2_storiesOfTheme rfl rfl rfl (by decide +kernel) ⟨Nat.le_of_ble_eq_true rfl, Nat.le_of_ble_eq_true rfl⟩) 0 rfl rfl rfl rfl rfl hl.1 (Nat.le_of_ble_eq_true rfl) dX3_letter_63 ⟨Nat.le_refl 0, Nat.le_refl 0⟩ (fun H locs hG => ?_)
      have hG : GG D A s.heap (w_X3 y a pa na ta ha sl q_saved q_runs q_themes q_storyHeats ++ (w_X1 y pa p_characters p_length ++ (w_X2 y na n_settings n_letters n_heats n_starts n_families n_generations n_tally_10 n_stories n_nextFamily n_splits n_boilings n_fizzles ++ (w_X2 y ta t_settings t_letters t_heats t_starts t_families t_generations t_tally t_stories t_nextFamily t_splits t_boilings t_fizzles ++ (w_X0 y ha hsb h_v h_oldest h_size ++ w_SL y sl ssb s_v))))) H locs := GG.blk (fun k => match k with | 0 => w_X3 y a pa na ta ha sl q_saved q_runs q_themes q_storyHeats | 1 => w_X1 y pa p_characters p_length | 2 => w_X2 y na n_settings n_letters n_heats n_starts n_families n_generations n_tally_10 n_stories n_nextFamily n_splits n_boilings n_fizzles | 3 => w_X2 y ta t_settings t_letters t_heats t_starts t_families t_generations t_tally t_stories t_nextFamily t_splits t_boilings t_fizzles | 4 => w_X0 y ha hsb h_v h_oldest h_size | _ => w_SL y sl ssb s_v) [2, 0, 1, 3, 4, 5] [0, 1, 2, 3, 4, 5] (blkp _ _ rfl) _ _ rfl rfl hG
      have hf := so_e hf
      have e0 : r9 = ro := congrArg (fun z => z.1) hf
      have e1 : n_tally_10 = n_tally_o := congrArg (fun z => z.2) hf
      exact hret _ _ _ _ _ e0 (by rw [← e1]; exact hG) dX3_letter_66
    have hf := if_e cv4_2 hf
    by_cases cv4_3 : v4 = nI 3
    · subst cv4_3
      have hf := it_e rfl hf
      refine lv_tableIn (tgt := 67) hx hb dX3_letter_11 (by decide) (by decide) rfl (by decide) ?_
      refine lv_aload_n hx hb dX3_letter_67 rfl (lv_at hl 0 rfl) ?_
      refine w_get3 F hK hG k1 0 rfl 0 (by decide) k0 rfl dX3_letter_68 ?_
      refine lv_iload_n hx hb dX3_letter_71 rfl (lv_at hl 1 rfl) ?_
      obtain ⟨r12, h13, hf⟩ := bd1_e hf
      have hG : GG D A s.heap ((w_X2 y na n_settings n_letters n_heats n_starts n_families n_generations n_tally n_stories n_nextFamily n_splits n_boilings n_fizzles) ++ (w_X3 y a pa na ta ha sl q_saved q_runs q_themes q_storyHeats ++ (w_X1 y pa p_characters p_length ++ (w_X2 y ta t_settings t_letters t_heats t_starts t_families t_generations t_tally t_stories t_nextFamily t_splits t_boilings t_fizzles ++ (w_X0 y ha hsb h_v h_oldest h_size ++ (w_SL y sl ssb s_v)))))) H locs := GG.blk (fun k => match k with | 0 => w_X3 y a pa na ta ha sl q_saved q_runs q_themes q_storyHeats | 1 => w_X1 y pa p_characters p_length | 2 => w_X2 y na n_settings n_letters n_heats n_starts n_families n_generations n_tally n_stories n_nextFamily n_splits n_boilings n_fizzles | 3 => w_X2 y ta t_settings t_letters t_heats t_starts t_families t_generations t_tally t_stories t_nextFamily t_splits t_boilings t_fizzles | 4 => w_X0 y ha hsb h_v h_oldest h_size | _ => w_SL y sl ssb s_v) [0, 1, 2, 3, 4, 5] [2, 0, 1, 3, 4, 5] (blkp _ _ rfl) _ _ rfl rfl hG
      refine k_Pi F hK hA hG (c_X2_heatOfLetter l D y na H.size Fu n_settings n_letters n_heats n_starts n_families n_generations n_tally n_stories n_nextFamily n_splits n_boilings n_fizzles p1 r12 h13) (cwV 1 F.2.2.2.2 gX3_letter_X2_heatOfLetter rfl rfl rfl (by decide +kernel) ⟨Nat.le_of_ble_eq_true rfl, Nat.le_of_ble_eq_true rfl⟩) 0 rfl rfl rfl rfl rfl hl.1 (Nat.le_of_ble_eq_true rfl) dX3_letter_72 ⟨Nat.le_refl 0, Nat.le_refl 0⟩ (fun H locs hG => ?_)
      have hG : GG D A s.heap (w_X3 y a pa na ta ha sl q_saved q_runs q_themes q_storyHeats ++ (w_X1 y pa p_characters p_length ++ (w_X2 y na n_settings n_letters n_heats n_starts n_families n_generations n_tally n_stories n_nextFamily n_splits n_boilings n_fizzles ++ (w_X2 y ta t_settings t_letters t_heats t_starts t_families t_generations t_tally t_stories t_nextFamily t_splits t_boilings t_fizzles ++ (w_X0 y ha hsb h_v h_oldest h_size ++ w_SL y sl ssb s_v))))) H locs := GG.blk (fun k => match k with | 0 => w_X3 y a pa na ta ha sl q_saved q_runs q_themes q_storyHeats | 1 => w_X1 y pa p_characters p_length | 2 => w_X2 y na n_settings n_letters n_heats n_starts n_families n_generations n_tally n_stories n_nextFamily n_splits n_boilings n_fizzles | 3 => w_X2 y ta t_settings t_letters t_heats t_starts t_families t_generations t_tally t_stories t_nextFamily t_splits t_boilings t_fizzles | 4 => w_X0 y ha hsb h_v h_oldest h_size | _ => w_SL y sl ssb s_v) [2, 0, 1, 3, 4, 5] [0, 1, 2, 3, 4, 5] (blkp _ _ rfl) _ _ rfl rfl hG
      have hf := so_e hf
      have e0 : r12 = ro := congrArg (fun z => z.1) hf
      have e1 : n_tally = n_tally_o := congrArg (fun z => z.2) hf
      exact hret _ _ _ _ _ e0 (by rw [← e1]; exact hG) dX3_letter_75
    have hf := if_e cv4_3 hf
    refine lv_tableOut (tgt := 76) hx hb dX3_letter_11 (tsw 3 (by decide) (fun k hk => ?_)) (by decide) ?_
    · rcases (show k = 0 ∨ k = 1 ∨ k = 2 ∨ k = 3 by omega) with rfl | rfl | rfl | rfl
      · exact cv4_0
      · exact cv4_1
      · exact cv4_2
      · exact cv4_3
    refine lv_bipush (v := -2) hx hb dX3_letter_76 rfl ?_
    have hf := so_e hf
    have e0 : (-2) = ro := congrArg (fun z => z.1) hf
    have e1 : n_tally = n_tally_o := congrArg (fun z => z.2) hf
    exact hret _ _ _ _ _ e0 (by rw [← e1]; exact hG) dX3_letter_78
  · have hf := it_e c3 hf
    refine lv_bipush (v := -2) hx hb dX3_letter_7 rfl ?_
    have hf := so_e hf
    have e0 : (-2) = ro := congrArg (fun z => z.1) hf
    have e1 : n_tally = n_tally_o := congrArg (fun z => z.2) hf
    exact hret _ _ _ _ _ e0 (by rw [← e1]; exact hG) dX3_letter_9
set_option maxHeartbeats 1000000 in
set_option maxRecDepth 100000 in
theorem c_X3_sideBySide (l : Launch) (D : va_G) (y : Nat → ClassId) (a pa na ta ha : Nat → Nat) (hsb : Nat → Nat → Nat) (sl : Nat) (ssb : Nat → Nat → Nat) (sz : Nat) (Fu : Nat) (q_saved : Ar) (q_runs : Ar) (q_themes : Ar) (q_storyHeats : Ar) (p_characters : Ar) (p_length : Int32) (n_settings : Ar) (n_letters : Ar) (n_heats : Ar) (n_starts : Ar) (n_families : Ar) (n_generations : Ar) (n_tally : Ar) (n_stories : Int32) (n_nextFamily : Int32) (n_splits : Int32) (n_boilings : Int32) (n_fizzles : Int32) (t_settings : Ar) (t_letters : Ar) (t_heats : Ar) (t_starts : Ar) (t_families : Ar) (t_generations : Ar) (t_tally : Ar) (t_stories : Int32) (t_nextFamily : Int32) (t_splits : Int32) (t_boilings : Int32) (t_fizzles : Int32) (h_v : (Nat → SV)) (h_oldest : Int32) (h_size : Int32) (s_v : (Nat → SV)) (p1 : Int32) (p2 : Int32) (p3 : Int32) (ro : Int32) (hf : f_X3_sideBySide Fu n_letters n_starts n_stories p1 p2 p3 = some (ro)) : MI l yX3_sideBySide wsX3_sideBySide 2 45 [.ref (a 0), .int p1, .int p2, .int p3] D y (w_X3 y a pa na ta ha sl q_saved q_runs q_themes q_storyHeats ++ (w_X1 y pa p_characters p_length ++ (w_X2 y na n_settings n_letters n_heats n_starts n_families n_generations n_tally n_stories n_nextFamily n_splits n_boilings n_fizzles ++ (w_X2 y ta t_settings t_letters t_heats t_starts t_families t_generations t_tally t_stories t_nextFamily t_splits t_boilings t_fizzles ++ (w_X0 y ha hsb h_v h_oldest h_size ++ w_SL y sl ssb s_v))))) sz ro (w_X3 y a pa na ta ha sl q_saved q_runs q_themes q_storyHeats ++ (w_X1 y pa p_characters p_length ++ (w_X2 y na n_settings n_letters n_heats n_starts n_families n_generations n_tally n_stories n_nextFamily n_splits n_boilings n_fizzles ++ (w_X2 y ta t_settings t_letters t_heats t_starts t_families t_generations t_tally t_stories t_nextFamily t_splits t_boilings t_fizzles ++ (w_X0 y ha hsb h_v h_oldest h_size ++ w_SL y sl ssb s_v))))) := by
  refine M_i (cc := cX3_sideBySide) (maxL := 7) (own := RX3) (by decide) rfl rfl (Nat.le_of_ble_eq_true rfl) ?_
  intro p e s m args below meth c A Q F hK hA H locs hG hret ls hl
  have hx := F.1
  have hb := F.2.1
  have hl : lv_has ls 7 [(0, .ref (a 0)), (1, .int p1), (2, .int p2), (3, .int p3)] := hl
  have k0 := F.2.2.2.2 (.fieldLink RX3 10 "HeatedStories" "now" "LHeatedStories$Shelf;") (List.mem_of_getElem? (i := 1) rfl)
  have k1 : ∀ w ∈ wsX30, w ∈ wsX3_sideBySide := (fun w h => List.mem_cons_of_mem _ (List.mem_append_left _ (List.mem_append_right _ (h))))
  unfold f_X3_sideBySide at hf
  refine lv_iload_n hx hb dX3_sideBySide_0 rfl (lv_at hl 1 rfl) ?_
  obtain ⟨r1, h2, hf⟩ := bd1_e hf
  refine k_Si F hK hA hG (c_X3_isLetter l D y  H.size Fu  p1 r1 h2) (va_cwS 1 F.2.2.2.2 gX3_sideBySide_X3_isLetter rfl rfl rfl (by decide +kernel) ⟨Nat.le_of_ble_eq_true rfl, Nat.le_of_ble_eq_true rfl⟩) rfl rfl hl.1 (Nat.le_of_ble_eq_true rfl) dX3_sideBySide_1 ⟨Nat.le_refl 0, Nat.le_refl 0⟩ (fun H locs hG => ?_)
  refine lv_if_eq (tgt := 23) hx hb dX3_sideBySide_4 (by decide) (fun c3 => ?_) (fun c3 => ?_)
  · have hf := it_e c3 hf
    refine lv_bipush (v := -2) hx hb dX3_sideBySide_23 rfl ?_
    have hf := so_e hf
    have e0 : (-2) = ro := hf
    exact hret _ _ _ _ _ e0 hG dX3_sideBySide_25
  · have hf := if_e c3 hf
    refine lv_iload_n hx hb dX3_sideBySide_7 rfl (lv_at hl 2 rfl) ?_
    obtain ⟨r4, h5, hf⟩ := bd1_e hf
    refine k_Si F hK hA hG (c_X3_isLetter l D y  H.size Fu  p2 r4 h5) (va_cwS 1 F.2.2.2.2 gX3_sideBySide_X3_isLetter rfl rfl rfl (by decide +kernel) ⟨Nat.le_of_ble_eq_true rfl, Nat.le_of_ble_eq_true rfl⟩) rfl rfl hl.1 (Nat.le_of_ble_eq_true rfl) dX3_sideBySide_8 ⟨Nat.le_refl 0, Nat.le_refl 0⟩ (fun H locs hG => ?_)
    refine lv_if_eq (tgt := 23) hx hb dX3_sideBySide_11 (by decide) (fun c6 => ?_) (fun c6 => ?_)
    · have hf := it_e c6 hf
      refine lv_bipush (v := -2) hx hb dX3_sideBySide_23 rfl ?_
      have hf := so_e hf
      have e0 : (-2) = ro := hf
      exact hret _ _ _ _ _ e0 hG dX3_sideBySide_25
    · have hf := if_e c6 hf
      refine lv_iload_n hx hb dX3_sideBySide_14 rfl (lv_at hl 3 rfl) ?_
      refine lv_iconst (v := nI 0) hx hb dX3_sideBySide_15 rfl ?_
      refine lv_iconst (v := nI 2) hx hb dX3_sideBySide_16 rfl ?_
      obtain ⟨r7, h8, hf⟩ := bd1_e hf
      refine k_Si F hK hA hG (c_X3_isWithin l D y  H.size Fu  p3 (nI 0) (nI 2) r7 h8) (va_cwS 3 F.2.2.2.2 gX3_sideBySide_X3_isWithin rfl rfl rfl (by decide +kernel) ⟨Nat.le_of_ble_eq_true rfl, Nat.le_of_ble_eq_true rfl⟩) rfl rfl hl.1 (Nat.le_of_ble_eq_true rfl) dX3_sideBySide_17 ⟨Nat.le_refl 0, Nat.le_refl 0⟩ (fun H locs hG => ?_)
      refine lv_if_ne (tgt := 26) hx hb dX3_sideBySide_20 (by decide) (fun c9 => ?_) (fun c9 => ?_)
      · have hf := if_e c9 hf
        refine lv_iconst (v := nI 0) hx hb dX3_sideBySide_26 rfl ?_
        refine lv_istore (lv' := [(4, .int (nI 0)), (0, .ref (a 0)), (1, .int p1), (2, .int p2), (3, .int p3)]) hx hb dX3_sideBySide_27 hl (by decide) rfl (fun ls hl => ?_)
        refine lv_bipush (v := -6) hx hb dX3_sideBySide_29 rfl ?_
        refine lv_istore (lv' := [(5, .int (-6)), (4, .int (nI 0)), (0, .ref (a 0)), (1, .int p1), (2, .int p2), (3, .int p3)]) hx hb dX3_sideBySide_31 hl (by decide) rfl (fun ls hl => ?_)
        refine lv_iconst (v := nI 0) hx hb dX3_sideBySide_33 rfl ?_
        refine lv_istore (lv' := [(6, .int (nI 0)), (5, .int (-6)), (4, .int (nI 0)), (0, .ref (a 0)), (1, .int p1), (2, .int p2), (3, .int p3)]) hx hb dX3_sideBySide_34 hl (by decide) rfl (fun ls hl => ?_)
        obtain ⟨k_36, ek_36, hf⟩ := jn_e hf
        have hk_36 : ∀ (v24 : Int32) (v25 : Int32) (H : Heap) (locs : List Loc) (ls : Array Slot), k_36 v24 v25 = some (ro) → GG D A s.heap (w_X3 y a pa na ta ha sl q_saved q_runs q_themes q_storyHeats ++ (w_X1 y pa p_characters p_length ++ (w_X2 y na n_settings n_letters n_heats n_starts n_families n_generations n_tally n_stories n_nextFamily n_splits n_boilings n_fizzles ++ (w_X2 y ta t_settings t_letters t_heats t_starts t_families t_generations t_tally t_stories t_nextFamily t_splits t_boilings t_fizzles ++ (w_X0 y ha hsb h_v h_oldest h_size ++ w_SL y sl ssb s_v))))) H locs → lv_has ls 7 [(0, .ref (a 0)), (3, .int p3), (4, .int v24), (5, .int v25)] → W p l e (RM 2 45) s m args below meth c H locs 0 0 Q (F0 m 87 ls []) := by
          intro v24 v25 H locs ls hf hG hl
          rw [ek_36] at hf
          refine lv_iload_n hx hb dX3_sideBySide_87 rfl (lv_at hl 1 rfl) ?_
          refine lv_if_ne (tgt := 94) hx hb dX3_sideBySide_88 (by decide) (fun c26 => ?_) (fun c26 => ?_)
          · have hf := if_e c26 hf
            refine lv_iload hx hb dX3_sideBySide_94 (lv_at hl 2 rfl) ?_
            refine lv_if_ne (tgt := 102) hx hb dX3_sideBySide_96 (by decide) (fun c27 => ?_) (fun c27 => ?_)
            · have hf := if_e c27 hf
              refine lv_iload_n hx hb dX3_sideBySide_102 rfl (lv_at hl 1 rfl) ?_
              refine lv_iconst (v := nI 1) hx hb dX3_sideBySide_103 rfl ?_
              obtain ⟨j34, ej34, hf⟩ := jn_e hf
              have hj34 : ∀ (v33 : Int32) (H : Heap) (locs : List Loc) (ls : Array Slot), j34 v33 = some (ro) → GG D A s.heap (w_X3 y a pa na ta ha sl q_saved q_runs q_themes q_storyHeats ++ (w_X1 y pa p_characters p_length ++ (w_X2 y na n_settings n_letters n_heats n_starts n_families n_generations n_tally n_stories n_nextFamily n_splits n_boilings n_fizzles ++ (w_X2 y ta t_settings t_letters t_heats t_starts t_families t_generations t_tally t_stories t_nextFamily t_splits t_boilings t_fizzles ++ (w_X0 y ha hsb h_v h_oldest h_size ++ w_SL y sl ssb s_v))))) H locs → lv_has ls 7 [] → W p l e (RM 2 45) s m args below meth c H locs 0 0 Q (F0 m 128 ls [.int v33]) := by
                intro v33 H locs ls hf hG hl
                rw [ej34] at hf
                have hf := so_e hf
                have e0 : v33 = ro := hf
                exact hret _ _ _ _ _ e0 hG dX3_sideBySide_128
              refine lv_icmp_ne (tgt := 119) hx hb dX3_sideBySide_104 (by decide) (fun c28 => ?_) (fun c28 => ?_)
              · have hf := if_e c28 hf
                refine lv_aload_n hx hb dX3_sideBySide_119 rfl (lv_at hl 0 rfl) ?_
                refine w_get3 F hK hG k1 0 rfl 0 (by decide) k0 rfl dX3_sideBySide_120 ?_
                refine lv_iload hx hb dX3_sideBySide_123 (lv_at hl 3 rfl) ?_
                obtain ⟨r29, h30, hf⟩ := bd1_e hf
                have hG : GG D A s.heap ((w_X2 y na n_settings n_letters n_heats n_starts n_families n_generations n_tally n_stories n_nextFamily n_splits n_boilings n_fizzles) ++ (w_X3 y a pa na ta ha sl q_saved q_runs q_themes q_storyHeats ++ (w_X1 y pa p_characters p_length ++ (w_X2 y ta t_settings t_letters t_heats t_starts t_families t_generations t_tally t_stories t_nextFamily t_splits t_boilings t_fizzles ++ (w_X0 y ha hsb h_v h_oldest h_size ++ (w_SL y sl ssb s_v)))))) H locs := GG.blk (fun k => match k with | 0 => w_X3 y a pa na ta ha sl q_saved q_runs q_themes q_storyHeats | 1 => w_X1 y pa p_characters p_length | 2 => w_X2 y na n_settings n_letters n_heats n_starts n_families n_generations n_tally n_stories n_nextFamily n_splits n_boilings n_fizzles | 3 => w_X2 y ta t_settings t_letters t_heats t_starts t_families t_generations t_tally t_stories t_nextFamily t_splits t_boilings t_fizzles | 4 => w_X0 y ha hsb h_v h_oldest h_size | _ => w_SL y sl ssb s_v) [0, 1, 2, 3, 4, 5] [2, 0, 1, 3, 4, 5] (blkp _ _ rfl) _ _ rfl rfl hG
                refine k_Pi F hK hA hG (c_X2_placeOf l D y na H.size Fu n_settings n_letters n_heats n_starts n_families n_generations n_tally n_stories n_nextFamily n_splits n_boilings n_fizzles v25 r29 h30) (cwV 1 F.2.2.2.2 gX3_sideBySide_X2_placeOf rfl rfl rfl (by decide +kernel) ⟨Nat.le_of_ble_eq_true rfl, Nat.le_of_ble_eq_true rfl⟩) 0 rfl rfl rfl rfl rfl hl.1 (Nat.le_of_ble_eq_true rfl) dX3_sideBySide_125 ⟨Nat.le_refl 0, Nat.le_refl 0⟩ (fun H locs hG => ?_)
                have hG : GG D A s.heap (w_X3 y a pa na ta ha sl q_saved q_runs q_themes q_storyHeats ++ (w_X1 y pa p_characters p_length ++ (w_X2 y na n_settings n_letters n_heats n_starts n_families n_generations n_tally n_stories n_nextFamily n_splits n_boilings n_fizzles ++ (w_X2 y ta t_settings t_letters t_heats t_starts t_families t_generations t_tally t_stories t_nextFamily t_splits t_boilings t_fizzles ++ (w_X0 y ha hsb h_v h_oldest h_size ++ w_SL y sl ssb s_v))))) H locs := GG.blk (fun k => match k with | 0 => w_X3 y a pa na ta ha sl q_saved q_runs q_themes q_storyHeats | 1 => w_X1 y pa p_characters p_length | 2 => w_X2 y na n_settings n_letters n_heats n_starts n_families n_generations n_tally n_stories n_nextFamily n_splits n_boilings n_fizzles | 3 => w_X2 y ta t_settings t_letters t_heats t_starts t_families t_generations t_tally t_stories t_nextFamily t_splits t_boilings t_fizzles | 4 => w_X0 y ha hsb h_v h_oldest h_size | _ => w_SL y sl ssb s_v) [2, 0, 1, 3, 4, 5] [0, 1, 2, 3, 4, 5] (blkp _ _ rfl) _ _ rfl rfl hG
                exact hj34 r29 _ _ ls hf hG (lv_sub hl [] rfl)
              · have hf := it_e c28 hf
                refine lv_aload_n hx hb dX3_sideBySide_107 rfl (lv_at hl 0 rfl) ?_
                refine w_get3 F hK hG k1 0 rfl 0 (by decide) k0 rfl dX3_sideBySide_108 ?_
                refine lv_iload hx hb dX3_sideBySide_111 (lv_at hl 3 rfl) ?_
                obtain ⟨r31, h32, hf⟩ := bd1_e hf
                have hG : GG D A s.heap ((w_X2 y na n_settings n_letters n_heats n_starts n_families n_generations n_tally n_stories n_nextFamily n_splits n_boilings n_fizzles) ++ (w_X3 y a pa na ta ha sl q_saved q_runs q_themes q_storyHeats ++ (w_X1 y pa p_characters p_length ++ (w_X2 y ta t_settings t_letters t_heats t_starts t_families t_generations t_tally t_stories t_nextFamily t_splits t_boilings t_fizzles ++ (w_X0 y ha hsb h_v h_oldest h_size ++ (w_SL y sl ssb s_v)))))) H locs := GG.blk (fun k => match k with | 0 => w_X3 y a pa na ta ha sl q_saved q_runs q_themes q_storyHeats | 1 => w_X1 y pa p_characters p_length | 2 => w_X2 y na n_settings n_letters n_heats n_starts n_families n_generations n_tally n_stories n_nextFamily n_splits n_boilings n_fizzles | 3 => w_X2 y ta t_settings t_letters t_heats t_starts t_families t_generations t_tally t_stories t_nextFamily t_splits t_boilings t_fizzles | 4 => w_X0 y ha hsb h_v h_oldest h_size | _ => w_SL y sl ssb s_v) [0, 1, 2, 3, 4, 5] [2, 0, 1, 3, 4, 5] (blkp _ _ rfl) _ _ rfl rfl hG
                refine k_Pi F hK hA hG (c_X2_storyAt l D y na H.size Fu n_settings n_letters n_heats n_starts n_families n_generations n_tally n_stories n_nextFamily n_splits n_boilings n_fizzles v25 r31 h32) (cwV 1 F.2.2.2.2 gX3_sideBySide_X2_storyAt rfl rfl rfl (by decide +kernel) ⟨Nat.le_of_ble_eq_true rfl, Nat.le_of_ble_eq_true rfl⟩) 0 rfl rfl rfl rfl rfl hl.1 (Nat.le_of_ble_eq_true rfl) dX3_sideBySide_113 ⟨Nat.le_refl 0, Nat.le_refl 0⟩ (fun H locs hG => ?_)
                have hG : GG D A s.heap (w_X3 y a pa na ta ha sl q_saved q_runs q_themes q_storyHeats ++ (w_X1 y pa p_characters p_length ++ (w_X2 y na n_settings n_letters n_heats n_starts n_families n_generations n_tally n_stories n_nextFamily n_splits n_boilings n_fizzles ++ (w_X2 y ta t_settings t_letters t_heats t_starts t_families t_generations t_tally t_stories t_nextFamily t_splits t_boilings t_fizzles ++ (w_X0 y ha hsb h_v h_oldest h_size ++ w_SL y sl ssb s_v))))) H locs := GG.blk (fun k => match k with | 0 => w_X3 y a pa na ta ha sl q_saved q_runs q_themes q_storyHeats | 1 => w_X1 y pa p_characters p_length | 2 => w_X2 y na n_settings n_letters n_heats n_starts n_families n_generations n_tally n_stories n_nextFamily n_splits n_boilings n_fizzles | 3 => w_X2 y ta t_settings t_letters t_heats t_starts t_families t_generations t_tally t_stories t_nextFamily t_splits t_boilings t_fizzles | 4 => w_X0 y ha hsb h_v h_oldest h_size | _ => w_SL y sl ssb s_v) [2, 0, 1, 3, 4, 5] [0, 1, 2, 3, 4, 5] (blkp _ _ rfl) _ _ rfl rfl hG
                refine lv_goto (tgt := 128) hx hb dX3_sideBySide_116 (by decide) ?_
                exact hj34 r31 _ _ ls hf hG (lv_sub hl [] rfl)
            · have hf := it_e c27 hf
              refine lv_bipush (v := -6) hx hb dX3_sideBySide_99 rfl ?_
              have hf := so_e hf
              have e0 : (-6) = ro := hf
              exact hret _ _ _ _ _ e0 hG dX3_sideBySide_101
          · have hf := it_e c26 hf
            refine lv_iload hx hb dX3_sideBySide_91 (lv_at hl 2 rfl) ?_
            have hf := so_e hf
            have e0 : v24 = ro := hf
            exact hret _ _ _ _ _ e0 hG dX3_sideBySide_93
        have hL36 : ∀ (fu : Nat) (x10 : Int32) (x11 : Int32) (x12 : Int32) (H : Heap) (locs : List Loc) (ls : Array Slot), f_X3_sideBySide_L36 Fu k_36 n_letters n_starts n_stories p1 p2 fu x10 x11 x12 = some (ro) → GG D A s.heap (w_X3 y a pa na ta ha sl q_saved q_runs q_themes q_storyHeats ++ (w_X1 y pa p_characters p_length ++ (w_X2 y na n_settings n_letters n_heats n_starts n_families n_generations n_tally n_stories n_nextFamily n_splits n_boilings n_fizzles ++ (w_X2 y ta t_settings t_letters t_heats t_starts t_families t_generations t_tally t_stories t_nextFamily t_splits t_boilings t_fizzles ++ (w_X0 y ha hsb h_v h_oldest h_size ++ w_SL y sl ssb s_v))))) H locs → lv_has ls 7 [(0, .ref (a 0)), (1, .int p1), (2, .int p2), (3, .int p3), (4, .int x10), (5, .int x11), (6, .int x12)] → W p l e (RM 2 45) s m args below meth c H locs 0 0 Q (F0 m 36 ls []) := by
          intro fu
          induction fu with
          | zero => intro x10 x11 x12 H locs ls hf hG hl; exact no_e hf
          | succ fu ih =>
            intro x10 x11 x12 H locs ls hf hG hl
            rw [f_X3_sideBySide_L36_s] at hf
            refine lv_iload hx hb dX3_sideBySide_36 (lv_at hl 6 rfl) ?_
            refine lv_iconst (v := nI 1) hx hb dX3_sideBySide_38 rfl ?_
            refine lv_iadd hx hb dX3_sideBySide_39 ?_
            refine lv_aload_n hx hb dX3_sideBySide_40 rfl (lv_at hl 0 rfl) ?_
            refine w_get3 F hK hG k1 0 rfl 0 (by decide) k0 rfl dX3_sideBySide_41 ?_
            obtain ⟨r13, h14, hf⟩ := bd1_e hf
            have hG : GG D A s.heap ((w_X2 y na n_settings n_letters n_heats n_starts n_families n_generations n_tally n_stories n_nextFamily n_splits n_boilings n_fizzles) ++ (w_X3 y a pa na ta ha sl q_saved q_runs q_themes q_storyHeats ++ (w_X1 y pa p_characters p_length ++ (w_X2 y ta t_settings t_letters t_heats t_starts t_families t_generations t_tally t_stories t_nextFamily t_splits t_boilings t_fizzles ++ (w_X0 y ha hsb h_v h_oldest h_size ++ (w_SL y sl ssb s_v)))))) H locs := GG.blk (fun k => match k with | 0 => w_X3 y a pa na ta ha sl q_saved q_runs q_themes q_storyHeats | 1 => w_X1 y pa p_characters p_length | 2 => w_X2 y na n_settings n_letters n_heats n_starts n_families n_generations n_tally n_stories n_nextFamily n_splits n_boilings n_fizzles | 3 => w_X2 y ta t_settings t_letters t_heats t_starts t_families t_generations t_tally t_stories t_nextFamily t_splits t_boilings t_fizzles | 4 => w_X0 y ha hsb h_v h_oldest h_size | _ => w_SL y sl ssb s_v) [0, 1, 2, 3, 4, 5] [2, 0, 1, 3, 4, 5] (blkp _ _ rfl) _ _ rfl rfl hG
            refine k_Pi F hK hA hG (c_X2_words l D y na H.size Fu n_settings n_letters n_heats n_starts n_families n_generations n_tally n_stories n_nextFamily n_splits n_boilings n_fizzles r13 h14) (cwV 0 F.2.2.2.2 gX3_sideBySide_X2_words rfl rfl rfl (by decide +kernel) ⟨Nat.le_of_ble_eq_true rfl, Nat.le_of_ble_eq_true rfl⟩) 0 rfl rfl rfl rfl rfl hl.1 (Nat.le_of_ble_eq_true rfl) dX3_sideBySide_44 ⟨Nat.le_refl 0, Nat.le_refl 0⟩ (fun H locs hG => ?_)
            have hG : GG D A s.heap (w_X3 y a pa na ta ha sl q_saved q_runs q_themes q_storyHeats ++ (w_X1 y pa p_characters p_length ++ (w_X2 y na n_settings n_letters n_heats n_starts n_families n_generations n_tally n_stories n_nextFamily n_splits n_boilings n_fizzles ++ (w_X2 y ta t_settings t_letters t_heats t_starts t_families t_generations t_tally t_stories t_nextFamily t_splits t_boilings t_fizzles ++ (w_X0 y ha hsb h_v h_oldest h_size ++ w_SL y sl ssb s_v))))) H locs := GG.blk (fun k => match k with | 0 => w_X3 y a pa na ta ha sl q_saved q_runs q_themes q_storyHeats | 1 => w_X1 y pa p_characters p_length | 2 => w_X2 y na n_settings n_letters n_heats n_starts n_families n_generations n_tally n_stories n_nextFamily n_splits n_boilings n_fizzles | 3 => w_X2 y ta t_settings t_letters t_heats t_starts t_families t_generations t_tally t_stories t_nextFamily t_splits t_boilings t_fizzles | 4 => w_X0 y ha hsb h_v h_oldest h_size | _ => w_SL y sl ssb s_v) [2, 0, 1, 3, 4, 5] [0, 1, 2, 3, 4, 5] (blkp _ _ rfl) _ _ rfl rfl hG
            refine lv_icmp_ge (tgt := 87) hx hb dX3_sideBySide_47 (by decide) (fun c15 => ?_) (fun c15 => ?_)
            · have hf := it_e c15 hf
              exact hk_36 x10 x11 _ _ ls hf hG (lv_sub hl [0, 3, 4, 5] rfl)
            · have hf := if_e c15 hf
              refine lv_aload_n hx hb dX3_sideBySide_50 rfl (lv_at hl 0 rfl) ?_
              refine w_get3 F hK hG k1 0 rfl 0 (by decide) k0 rfl dX3_sideBySide_51 ?_
              refine lv_iload hx hb dX3_sideBySide_54 (lv_at hl 6 rfl) ?_
              refine lv_iload_n hx hb dX3_sideBySide_56 rfl (lv_at hl 1 rfl) ?_
              refine lv_iload_n hx hb dX3_sideBySide_57 rfl (lv_at hl 2 rfl) ?_
              obtain ⟨r16, h17, hf⟩ := bd1_e hf
              have hG : GG D A s.heap ((w_X2 y na n_settings n_letters n_heats n_starts n_families n_generations n_tally n_stories n_nextFamily n_splits n_boilings n_fizzles) ++ (w_X3 y a pa na ta ha sl q_saved q_runs q_themes q_storyHeats ++ (w_X1 y pa p_characters p_length ++ (w_X2 y ta t_settings t_letters t_heats t_starts t_families t_generations t_tally t_stories t_nextFamily t_splits t_boilings t_fizzles ++ (w_X0 y ha hsb h_v h_oldest h_size ++ (w_SL y sl ssb s_v)))))) H locs := GG.blk (fun k => match k with | 0 => w_X3 y a pa na ta ha sl q_saved q_runs q_themes q_storyHeats | 1 => w_X1 y pa p_characters p_length | 2 => w_X2 y na n_settings n_letters n_heats n_starts n_families n_generations n_tally n_stories n_nextFamily n_splits n_boilings n_fizzles | 3 => w_X2 y ta t_settings t_letters t_heats t_starts t_families t_generations t_tally t_stories t_nextFamily t_splits t_boilings t_fizzles | 4 => w_X0 y ha hsb h_v h_oldest h_size | _ => w_SL y sl ssb s_v) [0, 1, 2, 3, 4, 5] [2, 0, 1, 3, 4, 5] (blkp _ _ rfl) _ _ rfl rfl hG
              refine k_Pi F hK hA hG (c_X2_isPair l D y na H.size Fu n_settings n_letters n_heats n_starts n_families n_generations n_tally n_stories n_nextFamily n_splits n_boilings n_fizzles x12 p1 p2 r16 h17) (cwV 3 F.2.2.2.2 gX3_sideBySide_X2_isPair rfl rfl rfl (by decide +kernel) ⟨Nat.le_of_ble_eq_true rfl, Nat.le_of_ble_eq_true rfl⟩) 0 rfl rfl rfl rfl rfl hl.1 (Nat.le_of_ble_eq_true rfl) dX3_sideBySide_58 ⟨Nat.le_refl 0, Nat.le_refl 0⟩ (fun H locs hG => ?_)
              have hG : GG D A s.heap (w_X3 y a pa na ta ha sl q_saved q_runs q_themes q_storyHeats ++ (w_X1 y pa p_characters p_length ++ (w_X2 y na n_settings n_letters n_heats n_starts n_families n_generations n_tally n_stories n_nextFamily n_splits n_boilings n_fizzles ++ (w_X2 y ta t_settings t_letters t_heats t_starts t_families t_generations t_tally t_stories t_nextFamily t_splits t_boilings t_fizzles ++ (w_X0 y ha hsb h_v h_oldest h_size ++ w_SL y sl ssb s_v))))) H locs := GG.blk (fun k => match k with | 0 => w_X3 y a pa na ta ha sl q_saved q_runs q_themes q_storyHeats | 1 => w_X1 y pa p_characters p_length | 2 => w_X2 y na n_settings n_letters n_heats n_starts n_families n_generations n_tally n_stories n_nextFamily n_splits n_boilings n_fizzles | 3 => w_X2 y ta t_settings t_letters t_heats t_starts t_families t_generations t_tally t_stories t_nextFamily t_splits t_boilings t_fizzles | 4 => w_X0 y ha hsb h_v h_oldest h_size | _ => w_SL y sl ssb s_v) [2, 0, 1, 3, 4, 5] [0, 1, 2, 3, 4, 5] (blkp _ _ rfl) _ _ rfl rfl hG
              obtain ⟨j23, ej23, hf⟩ := jn_e hf
              have hj23 : ∀ (v21 : Int32) (v22 : Int32) (H : Heap) (locs : List Loc) (ls : Array Slot), j23 v21 v22 = some (ro) → GG D A s.heap (w_X3 y a pa na ta ha sl q_saved q_runs q_themes q_storyHeats ++ (w_X1 y pa p_characters p_length ++ (w_X2 y na n_settings n_letters n_heats n_starts n_families n_generations n_tally n_stories n_nextFamily n_splits n_boilings n_fizzles ++ (w_X2 y ta t_settings t_letters t_heats t_starts t_families t_generations t_tally t_stories t_nextFamily t_splits t_boilings t_fizzles ++ (w_X0 y ha hsb h_v h_oldest h_size ++ w_SL y sl ssb s_v))))) H locs → lv_has ls 7 [(0, .ref (a 0)), (1, .int p1), (2, .int p2), (3, .int p3), (4, .int v21), (5, .int v22), (6, .int x12)] → W p l e (RM 2 45) s m args below meth c H locs 0 0 Q (F0 m 81 ls []) := by
                intro v21 v22 H locs ls hf hG hl
                rw [ej23] at hf
                refine lv_iinc (v := x12 + (nI 1)) (lv' := [(6, .int (x12 + (nI 1))), (0, .ref (a 0)), (1, .int p1), (2, .int p2), (3, .int p3), (4, .int v21), (5, .int v22)]) hx hb dX3_sideBySide_81 hl (k := 6) rfl rfl (by decide) rfl (fun ls hl => ?_)
                refine lv_goto (tgt := 36) hx hb dX3_sideBySide_84 (by decide) ?_
                exact ih v21 v22 (x12 + (nI 1)) _ _ ls hf hG (lv_sub hl [1, 2, 3, 4, 5, 6, 0] rfl)
              refine lv_if_eq (tgt := 81) hx hb dX3_sideBySide_61 (by decide) (fun c18 => ?_) (fun c18 => ?_)
              · have hf := it_e c18 hf
                exact hj23 x10 x11 _ _ ls hf hG (lv_sub hl [0, 1, 2, 3, 4, 5, 6] rfl)
              · have hf := if_e c18 hf
                refine lv_iload hx hb dX3_sideBySide_64 (lv_at hl 4 rfl) ?_
                obtain ⟨v20, ev20, hf⟩ := nm_o hf
                have hJ : ∀ (ls : Array Slot), lv_has ls 7 [(0, .ref (a 0)), (1, .int p1), (2, .int p2), (3, .int p3), (4, .int x10), (6, .int x12)] → W p l e (RM 2 45) s m args below meth c H locs 0 0 Q (F0 m 76 ls [.int v20]) := by
                  intro ls hl
                  refine lv_istore (lv' := [(5, .int v20), (0, .ref (a 0)), (1, .int p1), (2, .int p2), (3, .int p3), (4, .int x10), (6, .int x12)]) hx hb dX3_sideBySide_76 hl (by decide) rfl (fun ls hl => ?_)
                  refine lv_iinc (v := x10 + (nI 1)) (lv' := [(4, .int (x10 + (nI 1))), (5, .int v20), (0, .ref (a 0)), (1, .int p1), (2, .int p2), (3, .int p3), (6, .int x12)]) hx hb dX3_sideBySide_78 hl (k := 5) rfl rfl (by decide) rfl (fun ls hl => ?_)
                  exact hj23 (x10 + (nI 1)) v20 _ _ ls hf hG (lv_sub hl [2, 3, 4, 5, 0, 1, 6] rfl)
                refine lv_if_ne (tgt := 74) hx hb dX3_sideBySide_66 (by decide) (fun c19 => ?_) (fun c19 => ?_)
                · refine lv_iload hx hb dX3_sideBySide_74 (lv_at hl 5 rfl) ?_
                  have qv20 := (ev20.trans (if_neg c19))
                  subst qv20
                  exact hJ ls (lv_sub hl [0, 1, 2, 3, 4, 6] rfl)
                · refine lv_iload hx hb dX3_sideBySide_69 (lv_at hl 6 rfl) ?_
                  refine lv_goto (tgt := 76) hx hb dX3_sideBySide_71 (by decide) ?_
                  have qv20 := (ev20.trans (if_pos c19))
                  subst qv20
                  exact hJ ls (lv_sub hl [0, 1, 2, 3, 4, 6] rfl)
        exact hL36 Fu (nI 0) (-6) (nI 0) _ _ ls hf hG (lv_sub hl [3, 4, 5, 6, 2, 1, 0] rfl)
      · have hf := it_e c9 hf
        refine lv_bipush (v := -2) hx hb dX3_sideBySide_23 rfl ?_
        have hf := so_e hf
        have e0 : (-2) = ro := hf
        exact hret _ _ _ _ _ e0 hG dX3_sideBySide_25
set_option maxHeartbeats 1000000 in
set_option maxRecDepth 100000 in
theorem c_X3_common (l : Launch) (D : va_G) (y : Nat → ClassId) (a pa na ta ha : Nat → Nat) (hsb : Nat → Nat → Nat) (sl : Nat) (ssb : Nat → Nat → Nat) (sz : Nat) (Fu : Nat) (q_saved : Ar) (q_runs : Ar) (q_themes : Ar) (q_storyHeats : Ar) (p_characters : Ar) (p_length : Int32) (n_settings : Ar) (n_letters : Ar) (n_heats : Ar) (n_starts : Ar) (n_families : Ar) (n_generations : Ar) (n_tally : Ar) (n_stories : Int32) (n_nextFamily : Int32) (n_splits : Int32) (n_boilings : Int32) (n_fizzles : Int32) (t_settings : Ar) (t_letters : Ar) (t_heats : Ar) (t_starts : Ar) (t_families : Ar) (t_generations : Ar) (t_tally : Ar) (t_stories : Int32) (t_nextFamily : Int32) (t_splits : Int32) (t_boilings : Int32) (t_fizzles : Int32) (h_v : (Nat → SV)) (h_oldest : Int32) (h_size : Int32) (s_v : (Nat → SV)) (p1 : Int32) (p2 : Int32) (ro : Int32) (q_runs_o : Ar) (hf : f_X3_common Fu q_runs n_letters n_starts n_stories p1 p2 = some (ro, q_runs_o)) : MI l yX3_common wsX3_common 2 43 [.ref (a 0), .int p1, .int p2] D y (w_X3 y a pa na ta ha sl q_saved q_runs q_themes q_storyHeats ++ (w_X1 y pa p_characters p_length ++ (w_X2 y na n_settings n_letters n_heats n_starts n_families n_generations n_tally n_stories n_nextFamily n_splits n_boilings n_fizzles ++ (w_X2 y ta t_settings t_letters t_heats t_starts t_families t_generations t_tally t_stories t_nextFamily t_splits t_boilings t_fizzles ++ (w_X0 y ha hsb h_v h_oldest h_size ++ w_SL y sl ssb s_v))))) sz ro (w_X3 y a pa na ta ha sl q_saved q_runs_o q_themes q_storyHeats ++ (w_X1 y pa p_characters p_length ++ (w_X2 y na n_settings n_letters n_heats n_starts n_families n_generations n_tally n_stories n_nextFamily n_splits n_boilings n_fizzles ++ (w_X2 y ta t_settings t_letters t_heats t_starts t_families t_generations t_tally t_stories t_nextFamily t_splits t_boilings t_fizzles ++ (w_X0 y ha hsb h_v h_oldest h_size ++ w_SL y sl ssb s_v))))) := by
  refine M_i (cc := cX3_common) (maxL := 10) (own := RX3) (by decide) rfl rfl (Nat.le_of_ble_eq_true rfl) ?_
  intro p e s m args below meth c A Q F hK hA H locs hG hret ls hl
  have hx := F.1
  have hb := F.2.1
  have hl : lv_has ls 10 [(0, .ref (a 0)), (1, .int p1), (2, .int p2)] := hl
  have k0 := F.2.2.2.2 (.fieldLink RX3 10 "HeatedStories" "now" "LHeatedStories$Shelf;") (List.mem_of_getElem? (i := 1) rfl)
  have k1 : ∀ w ∈ wsX30, w ∈ wsX3_common := (fun w h => List.mem_cons_of_mem _ (List.mem_append_left _ (List.mem_append_right _ (h))))
  have k2 := F.2.2.2.2 (.fieldLink RX3 98 "HeatedStories$Shelf" "starts" "[I") (List.mem_of_getElem? (i := 2) rfl)
  have k3 : ∀ w ∈ wsX20, w ∈ wsX3_common := (fun w h => List.mem_cons_of_mem _ (List.mem_append_right _ (h)))
  have k4 := F.2.2.2.2 (.fieldLink RX3 41 "HeatedStories" "runs" "[I") (List.mem_of_getElem? (i := 3) rfl)
  have k5 := F.2.2.2.2 (.fieldLink RX3 142 "HeatedStories$Shelf" "letters" "[I") (List.mem_of_getElem? (i := 4) rfl)
  have k6 := F.2.2.2.2 (.methodLink RX3 127 Lib.Math.max.name) (List.mem_of_getElem? (i := 5) rfl)
  have k7 := F.2.2.2.2 (.static Lib.Math.max.name) (List.mem_of_getElem? (i := 6) rfl)
  have k8 := F.2.2.2.2 (.initialized "java/lang/Math") (List.mem_of_getElem? (i := 7) rfl)
  have k9 := F.2.2.2.2 (.code Lib.Math.max.name Lib.Math.max.code 2 (some .int)) (List.mem_of_getElem? (i := 8) rfl)
  unfold f_X3_common at hf
  refine lv_aload_n hx hb dX3_common_0 rfl (lv_at hl 0 rfl) ?_
  refine w_get3 F hK hG k1 0 rfl 0 (by decide) k0 rfl dX3_common_1 ?_
  refine lv_iload_n hx hb dX3_common_4 rfl (lv_at hl 1 rfl) ?_
  obtain ⟨r1, h2, hf⟩ := bd1_e hf
  have hG : GG D A s.heap ((w_X2 y na n_settings n_letters n_heats n_starts n_families n_generations n_tally n_stories n_nextFamily n_splits n_boilings n_fizzles) ++ (w_X3 y a pa na ta ha sl q_saved q_runs q_themes q_storyHeats ++ (w_X1 y pa p_characters p_length ++ (w_X2 y ta t_settings t_letters t_heats t_starts t_families t_generations t_tally t_stories t_nextFamily t_splits t_boilings t_fizzles ++ (w_X0 y ha hsb h_v h_oldest h_size ++ (w_SL y sl ssb s_v)))))) H locs := GG.blk (fun k => match k with | 0 => w_X3 y a pa na ta ha sl q_saved q_runs q_themes q_storyHeats | 1 => w_X1 y pa p_characters p_length | 2 => w_X2 y na n_settings n_letters n_heats n_starts n_families n_generations n_tally n_stories n_nextFamily n_splits n_boilings n_fizzles | 3 => w_X2 y ta t_settings t_letters t_heats t_starts t_families t_generations t_tally t_stories t_nextFamily t_splits t_boilings t_fizzles | 4 => w_X0 y ha hsb h_v h_oldest h_size | _ => w_SL y sl ssb s_v) [0, 1, 2, 3, 4, 5] [2, 0, 1, 3, 4, 5] (blkp _ _ rfl) _ _ rfl rfl hG
  refine k_Pi F hK hA hG (c_X2_hasStory l D y na H.size Fu n_settings n_letters n_heats n_starts n_families n_generations n_tally n_stories n_nextFamily n_splits n_boilings n_fizzles p1 r1 h2) (cwV 1 F.2.2.2.2 gX3_common_X2_hasStory rfl rfl rfl (by decide +kernel) ⟨Nat.le_of_ble_eq_true rfl, Nat.le_of_ble_eq_true rfl⟩) 0 rfl rfl rfl rfl rfl hl.1 (Nat.le_of_ble_eq_true rfl) dX3_common_5 ⟨Nat.le_refl 0, Nat.le_refl 0⟩ (fun H locs hG => ?_)
  have hG : GG D A s.heap (w_X3 y a pa na ta ha sl q_saved q_runs q_themes q_storyHeats ++ (w_X1 y pa p_characters p_length ++ (w_X2 y na n_settings n_letters n_heats n_starts n_families n_generations n_tally n_stories n_nextFamily n_splits n_boilings n_fizzles ++ (w_X2 y ta t_settings t_letters t_heats t_starts t_families t_generations t_tally t_stories t_nextFamily t_splits t_boilings t_fizzles ++ (w_X0 y ha hsb h_v h_oldest h_size ++ w_SL y sl ssb s_v))))) H locs := GG.blk (fun k => match k with | 0 => w_X3 y a pa na ta ha sl q_saved q_runs q_themes q_storyHeats | 1 => w_X1 y pa p_characters p_length | 2 => w_X2 y na n_settings n_letters n_heats n_starts n_families n_generations n_tally n_stories n_nextFamily n_splits n_boilings n_fizzles | 3 => w_X2 y ta t_settings t_letters t_heats t_starts t_families t_generations t_tally t_stories t_nextFamily t_splits t_boilings t_fizzles | 4 => w_X0 y ha hsb h_v h_oldest h_size | _ => w_SL y sl ssb s_v) [2, 0, 1, 3, 4, 5] [0, 1, 2, 3, 4, 5] (blkp _ _ rfl) _ _ rfl rfl hG
  refine lv_if_eq (tgt := 22) hx hb dX3_common_8 (by decide) (fun c3 => ?_) (fun c3 => ?_)
  · have hf := it_e c3 hf
    refine lv_iconst (v := -1) hx hb dX3_common_22 rfl ?_
    have hf := so_e hf
    have e0 : (-1) = ro := congrArg (fun z => z.1) hf
    have e1 : q_runs = q_runs_o := congrArg (fun z => z.2) hf
    exact hret _ _ _ _ _ e0 (by rw [← e1]; exact hG) dX3_common_23
  · have hf := if_e c3 hf
    refine lv_aload_n hx hb dX3_common_11 rfl (lv_at hl 0 rfl) ?_
    refine w_get3 F hK hG k1 0 rfl 0 (by decide) k0 rfl dX3_common_12 ?_
    refine lv_iload_n hx hb dX3_common_15 rfl (lv_at hl 2 rfl) ?_
    obtain ⟨r4, h5, hf⟩ := bd1_e hf
    have hG : GG D A s.heap ((w_X2 y na n_settings n_letters n_heats n_starts n_families n_generations n_tally n_stories n_nextFamily n_splits n_boilings n_fizzles) ++ (w_X3 y a pa na ta ha sl q_saved q_runs q_themes q_storyHeats ++ (w_X1 y pa p_characters p_length ++ (w_X2 y ta t_settings t_letters t_heats t_starts t_families t_generations t_tally t_stories t_nextFamily t_splits t_boilings t_fizzles ++ (w_X0 y ha hsb h_v h_oldest h_size ++ (w_SL y sl ssb s_v)))))) H locs := GG.blk (fun k => match k with | 0 => w_X3 y a pa na ta ha sl q_saved q_runs q_themes q_storyHeats | 1 => w_X1 y pa p_characters p_length | 2 => w_X2 y na n_settings n_letters n_heats n_starts n_families n_generations n_tally n_stories n_nextFamily n_splits n_boilings n_fizzles | 3 => w_X2 y ta t_settings t_letters t_heats t_starts t_families t_generations t_tally t_stories t_nextFamily t_splits t_boilings t_fizzles | 4 => w_X0 y ha hsb h_v h_oldest h_size | _ => w_SL y sl ssb s_v) [0, 1, 2, 3, 4, 5] [2, 0, 1, 3, 4, 5] (blkp _ _ rfl) _ _ rfl rfl hG
    refine k_Pi F hK hA hG (c_X2_hasStory l D y na H.size Fu n_settings n_letters n_heats n_starts n_families n_generations n_tally n_stories n_nextFamily n_splits n_boilings n_fizzles p2 r4 h5) (cwV 1 F.2.2.2.2 gX3_common_X2_hasStory rfl rfl rfl (by decide +kernel) ⟨Nat.le_of_ble_eq_true rfl, Nat.le_of_ble_eq_true rfl⟩) 0 rfl rfl rfl rfl rfl hl.1 (Nat.le_of_ble_eq_true rfl) dX3_common_16 ⟨Nat.le_refl 0, Nat.le_refl 0⟩ (fun H locs hG => ?_)
    have hG : GG D A s.heap (w_X3 y a pa na ta ha sl q_saved q_runs q_themes q_storyHeats ++ (w_X1 y pa p_characters p_length ++ (w_X2 y na n_settings n_letters n_heats n_starts n_families n_generations n_tally n_stories n_nextFamily n_splits n_boilings n_fizzles ++ (w_X2 y ta t_settings t_letters t_heats t_starts t_families t_generations t_tally t_stories t_nextFamily t_splits t_boilings t_fizzles ++ (w_X0 y ha hsb h_v h_oldest h_size ++ w_SL y sl ssb s_v))))) H locs := GG.blk (fun k => match k with | 0 => w_X3 y a pa na ta ha sl q_saved q_runs q_themes q_storyHeats | 1 => w_X1 y pa p_characters p_length | 2 => w_X2 y na n_settings n_letters n_heats n_starts n_families n_generations n_tally n_stories n_nextFamily n_splits n_boilings n_fizzles | 3 => w_X2 y ta t_settings t_letters t_heats t_starts t_families t_generations t_tally t_stories t_nextFamily t_splits t_boilings t_fizzles | 4 => w_X0 y ha hsb h_v h_oldest h_size | _ => w_SL y sl ssb s_v) [2, 0, 1, 3, 4, 5] [0, 1, 2, 3, 4, 5] (blkp _ _ rfl) _ _ rfl rfl hG
    refine lv_if_ne (tgt := 24) hx hb dX3_common_19 (by decide) (fun c6 => ?_) (fun c6 => ?_)
    · have hf := if_e c6 hf
      refine lv_aload_n hx hb dX3_common_24 rfl (lv_at hl 0 rfl) ?_
      refine w_get3 F hK hG k1 0 rfl 0 (by decide) k0 rfl dX3_common_25 ?_
      refine w_get2 F hK hG k3 7 rfl 3 (by decide) k2 rfl dX3_common_28 ?_
      refine lv_iload_n hx hb dX3_common_31 rfl (lv_at hl 2 rfl) ?_
      obtain ⟨g7, hf⟩ := gd_e hf
      refine w_iald F hK hG 11 rfl g7 dX3_common_32 ?_
      refine lv_istore_n (lv' := [(3, .int (n_starts (p2).toNatClampNeg)), (0, .ref (a 0)), (1, .int p1), (2, .int p2)]) hx hb dX3_common_33 rfl hl (by decide) rfl (fun ls hl => ?_)
      refine lv_aload_n hx hb dX3_common_34 rfl (lv_at hl 1 rfl) ?_
      refine w_get3 F hK hG k1 0 rfl 0 (by decide) k0 rfl dX3_common_35 ?_
      refine lv_iload_n hx hb dX3_common_38 rfl (lv_at hl 3 rfl) ?_
      obtain ⟨r8, h9, hf⟩ := bd1_e hf
      have hG : GG D A s.heap ((w_X2 y na n_settings n_letters n_heats n_starts n_families n_generations n_tally n_stories n_nextFamily n_splits n_boilings n_fizzles) ++ (w_X3 y a pa na ta ha sl q_saved q_runs q_themes q_storyHeats ++ (w_X1 y pa p_characters p_length ++ (w_X2 y ta t_settings t_letters t_heats t_starts t_families t_generations t_tally t_stories t_nextFamily t_splits t_boilings t_fizzles ++ (w_X0 y ha hsb h_v h_oldest h_size ++ (w_SL y sl ssb s_v)))))) H locs := GG.blk (fun k => match k with | 0 => w_X3 y a pa na ta ha sl q_saved q_runs q_themes q_storyHeats | 1 => w_X1 y pa p_characters p_length | 2 => w_X2 y na n_settings n_letters n_heats n_starts n_families n_generations n_tally n_stories n_nextFamily n_splits n_boilings n_fizzles | 3 => w_X2 y ta t_settings t_letters t_heats t_starts t_families t_generations t_tally t_stories t_nextFamily t_splits t_boilings t_fizzles | 4 => w_X0 y ha hsb h_v h_oldest h_size | _ => w_SL y sl ssb s_v) [0, 1, 2, 3, 4, 5] [2, 0, 1, 3, 4, 5] (blkp _ _ rfl) _ _ rfl rfl hG
      refine k_Pi F hK hA hG (c_X2_sizeOf l D y na H.size Fu n_settings n_letters n_heats n_starts n_families n_generations n_tally n_stories n_nextFamily n_splits n_boilings n_fizzles p2 r8 h9) (cwV 1 F.2.2.2.2 gX3_common_X2_sizeOf rfl rfl rfl (by decide +kernel) ⟨Nat.le_of_ble_eq_true rfl, Nat.le_of_ble_eq_true rfl⟩) 0 rfl rfl rfl rfl rfl hl.1 (Nat.le_of_ble_eq_true rfl) dX3_common_39 ⟨Nat.le_refl 0, Nat.le_refl 0⟩ (fun H locs hG => ?_)
      have hG : GG D A s.heap (w_X3 y a pa na ta ha sl q_saved q_runs q_themes q_storyHeats ++ (w_X1 y pa p_characters p_length ++ (w_X2 y na n_settings n_letters n_heats n_starts n_families n_generations n_tally n_stories n_nextFamily n_splits n_boilings n_fizzles ++ (w_X2 y ta t_settings t_letters t_heats t_starts t_families t_generations t_tally t_stories t_nextFamily t_splits t_boilings t_fizzles ++ (w_X0 y ha hsb h_v h_oldest h_size ++ w_SL y sl ssb s_v))))) H locs := GG.blk (fun k => match k with | 0 => w_X3 y a pa na ta ha sl q_saved q_runs q_themes q_storyHeats | 1 => w_X1 y pa p_characters p_length | 2 => w_X2 y na n_settings n_letters n_heats n_starts n_families n_generations n_tally n_stories n_nextFamily n_splits n_boilings n_fizzles | 3 => w_X2 y ta t_settings t_letters t_heats t_starts t_families t_generations t_tally t_stories t_nextFamily t_splits t_boilings t_fizzles | 4 => w_X0 y ha hsb h_v h_oldest h_size | _ => w_SL y sl ssb s_v) [2, 0, 1, 3, 4, 5] [0, 1, 2, 3, 4, 5] (blkp _ _ rfl) _ _ rfl rfl hG
      refine lv_istore (lv' := [(4, .int r8), (3, .int (n_starts (p2).toNatClampNeg)), (0, .ref (a 0)), (1, .int p1), (2, .int p2)]) hx hb dX3_common_42 hl (by decide) rfl (fun ls hl => ?_)
      refine lv_aload_n hx hb dX3_common_44 rfl (lv_at hl 2 rfl) ?_
      refine w_get3 F hK hG k1 0 rfl 6 (by decide) k4 rfl dX3_common_45 ?_
      refine lv_iconst (v := nI 0) hx hb dX3_common_48 rfl ?_
      refine k_Sv F hK hA hG (wc := [(a 2, .inl (y 0, 150, .inl q_runs))]) (wc' := [(a 2, .inl (y 0, 150, .inl (fun _ => (nI 0))))]) (c_J7_fill l D y (a 2) 150 H.size q_runs (nI 0)) (va_cwS 2 F.2.2.2.2 gX3_common_J7_fill_53178 rfl rfl rfl (by decide +kernel) ⟨Nat.le_of_ble_eq_true rfl, Nat.le_of_ble_eq_true rfl⟩) [2] rfl rfl rfl (w_X3 y a pa na ta ha sl q_saved (fun _ => (nI 0)) q_themes q_storyHeats ++ (w_X1 y pa p_characters p_length ++ (w_X2 y na n_settings n_letters n_heats n_starts n_families n_generations n_tally n_stories n_nextFamily n_splits n_boilings n_fizzles ++ (w_X2 y ta t_settings t_letters t_heats t_starts t_families t_generations t_tally t_stories t_nextFamily t_splits t_boilings t_fizzles ++ (w_X0 y ha hsb h_v h_oldest h_size ++ w_SL y sl ssb s_v))))) rfl rfl rfl hl.1 (Nat.le_of_ble_eq_true rfl) dX3_common_49 ⟨Nat.le_refl 0, Nat.le_refl 0⟩ (fun H locs hG => ?_)
      refine lv_iconst (v := nI 0) hx hb dX3_common_52 rfl ?_
      refine lv_istore (lv' := [(5, .int (nI 0)), (4, .int r8), (3, .int (n_starts (p2).toNatClampNeg)), (0, .ref (a 0)), (1, .int p1), (2, .int p2)]) hx hb dX3_common_53 hl (by decide) rfl (fun ls hl => ?_)
      refine lv_aload_n hx hb dX3_common_55 rfl (lv_at hl 3 rfl) ?_
      refine w_get3 F hK hG k1 0 rfl 0 (by decide) k0 rfl dX3_common_56 ?_
      refine w_get2 F hK hG k3 7 rfl 3 (by decide) k2 rfl dX3_common_59 ?_
      refine lv_iload_n hx hb dX3_common_62 rfl (lv_at hl 4 rfl) ?_
      obtain ⟨g10, hf⟩ := gd_e hf
      refine w_iald F hK hG 11 rfl g10 dX3_common_63 ?_
      refine lv_istore (lv' := [(6, .int (n_starts (p1).toNatClampNeg)), (5, .int (nI 0)), (4, .int r8), (3, .int (n_starts (p2).toNatClampNeg)), (0, .ref (a 0)), (1, .int p1), (2, .int p2)]) hx hb dX3_common_64 hl (by decide) rfl (fun ls hl => ?_)
      obtain ⟨k_66, ek_66, hf⟩ := jn_e hf
      have hk_66 : ∀ (v35 : Int32) (q_runs_36 : Ar) (H : Heap) (locs : List Loc) (ls : Array Slot), k_66 v35 q_runs_36 = some (ro, q_runs_o) → GG D A s.heap (w_X3 y a pa na ta ha sl q_saved q_runs_36 q_themes q_storyHeats ++ (w_X1 y pa p_characters p_length ++ (w_X2 y na n_settings n_letters n_heats n_starts n_families n_generations n_tally n_stories n_nextFamily n_splits n_boilings n_fizzles ++ (w_X2 y ta t_settings t_letters t_heats t_starts t_families t_generations t_tally t_stories t_nextFamily t_splits t_boilings t_fizzles ++ (w_X0 y ha hsb h_v h_oldest h_size ++ w_SL y sl ssb s_v))))) H locs → lv_has ls 10 [(5, .int v35)] → W p l e (RM 2 43) s m args below meth c H locs 0 0 Q (F0 m 191 ls []) := by
        intro v35 q_runs_36 H locs ls hf hG hl
        rw [ek_66] at hf
        refine lv_iload hx hb dX3_common_191 (lv_at hl 0 rfl) ?_
        have hf := so_e hf
        have e0 : v35 = ro := congrArg (fun z => z.1) hf
        have e1 : q_runs_36 = q_runs_o := congrArg (fun z => z.2) hf
        exact hret _ _ _ _ _ e0 (by rw [← e1]; exact hG) dX3_common_193
      have hL66 : ∀ (fu : Nat) (x11 : Int32) (x12 : Int32) (q_runs_13 : Ar) (H : Heap) (locs : List Loc) (ls : Array Slot), f_X3_common_L66 Fu k_66 n_letters n_starts p1 p2 r8 fu x11 x12 q_runs_13 = some (ro, q_runs_o) → GG D A s.heap (w_X3 y a pa na ta ha sl q_saved q_runs_13 q_themes q_storyHeats ++ (w_X1 y pa p_characters p_length ++ (w_X2 y na n_settings n_letters n_heats n_starts n_families n_generations n_tally n_stories n_nextFamily n_splits n_boilings n_fizzles ++ (w_X2 y ta t_settings t_letters t_heats t_starts t_families t_generations t_tally t_stories t_nextFamily t_splits t_boilings t_fizzles ++ (w_X0 y ha hsb h_v h_oldest h_size ++ w_SL y sl ssb s_v))))) H locs → lv_has ls 10 [(0, .ref (a 0)), (1, .int p1), (3, .int (n_starts (p2).toNatClampNeg)), (4, .int r8), (5, .int x11), (6, .int x12)] → W p l e (RM 2 43) s m args below meth c H locs 0 0 Q (F0 m 66 ls []) := by
        intro fu
        induction fu with
        | zero => intro x11 x12 q_runs_13 H locs ls hf hG hl; exact no_e hf
        | succ fu ih =>
          intro x11 x12 q_runs_13 H locs ls hf hG hl
          rw [f_X3_common_L66_s] at hf
          refine lv_iload hx hb dX3_common_66 (lv_at hl 5 rfl) ?_
          refine lv_aload_n hx hb dX3_common_68 rfl (lv_at hl 0 rfl) ?_
          refine w_get3 F hK hG k1 0 rfl 0 (by decide) k0 rfl dX3_common_69 ?_
          refine w_get2 F hK hG k3 7 rfl 3 (by decide) k2 rfl dX3_common_72 ?_
          refine lv_iload_n hx hb dX3_common_75 rfl (lv_at hl 1 rfl) ?_
          refine lv_iconst (v := nI 1) hx hb dX3_common_76 rfl ?_
          refine lv_iadd hx hb dX3_common_77 ?_
          obtain ⟨g14, hf⟩ := gd_e hf
          refine w_iald F hK hG 11 rfl g14 dX3_common_78 ?_
          refine lv_icmp_ge (tgt := 191) hx hb dX3_common_79 (by decide) (fun c15 => ?_) (fun c15 => ?_)
          · have hf := it_e c15 hf
            exact hk_66 x11 q_runs_13 _ _ ls hf hG (lv_sub hl [4] rfl)
          · have hf := if_e c15 hf
            refine lv_iload hx hb dX3_common_82 (lv_at hl 3 rfl) ?_
            refine lv_iconst (v := nI 1) hx hb dX3_common_84 rfl ?_
            refine lv_isub hx hb dX3_common_85 ?_
            refine lv_istore (lv' := [(7, .int (r8 - (nI 1))), (0, .ref (a 0)), (1, .int p1), (3, .int (n_starts (p2).toNatClampNeg)), (4, .int r8), (5, .int x11), (6, .int x12)]) hx hb dX3_common_86 hl (by decide) rfl (fun ls hl => ?_)
            obtain ⟨k_88, ek_88, hf⟩ := jn_e hf
            have hk_88 : ∀ (v33 : Int32) (q_runs_34 : Ar) (H : Heap) (locs : List Loc) (ls : Array Slot), k_88 v33 q_runs_34 = some (ro, q_runs_o) → GG D A s.heap (w_X3 y a pa na ta ha sl q_saved q_runs_34 q_themes q_storyHeats ++ (w_X1 y pa p_characters p_length ++ (w_X2 y na n_settings n_letters n_heats n_starts n_families n_generations n_tally n_stories n_nextFamily n_splits n_boilings n_fizzles ++ (w_X2 y ta t_settings t_letters t_heats t_starts t_families t_generations t_tally t_stories t_nextFamily t_splits t_boilings t_fizzles ++ (w_X0 y ha hsb h_v h_oldest h_size ++ w_SL y sl ssb s_v))))) H locs → lv_has ls 10 [(0, .ref (a 0)), (1, .int p1), (3, .int (n_starts (p2).toNatClampNeg)), (4, .int r8), (5, .int v33), (6, .int x12)] → W p l e (RM 2 43) s m args below meth c H locs 0 0 Q (F0 m 185 ls []) := by
              intro v33 q_runs_34 H locs ls hf hG hl
              rw [ek_88] at hf
              refine lv_iinc (v := x12 + (nI 1)) (lv' := [(6, .int (x12 + (nI 1))), (0, .ref (a 0)), (1, .int p1), (3, .int (n_starts (p2).toNatClampNeg)), (4, .int r8), (5, .int v33)]) hx hb dX3_common_185 hl (k := 5) rfl rfl (by decide) rfl (fun ls hl => ?_)
              refine lv_goto (tgt := 66) hx hb dX3_common_188 (by decide) ?_
              exact ih v33 (x12 + (nI 1)) q_runs_34 _ _ ls hf hG (lv_sub hl [1, 2, 3, 4, 5, 0] rfl)
            have hL88 : ∀ (fu : Nat) (x16 : Int32) (x17 : Int32) (q_runs_18 : Ar) (H : Heap) (locs : List Loc) (ls : Array Slot), f_X3_common_L88 Fu k_88 n_letters n_starts p2 x12 fu x16 x17 q_runs_18 = some (ro, q_runs_o) → GG D A s.heap (w_X3 y a pa na ta ha sl q_saved q_runs_18 q_themes q_storyHeats ++ (w_X1 y pa p_characters p_length ++ (w_X2 y na n_settings n_letters n_heats n_starts n_families n_generations n_tally n_stories n_nextFamily n_splits n_boilings n_fizzles ++ (w_X2 y ta t_settings t_letters t_heats t_starts t_families t_generations t_tally t_stories t_nextFamily t_splits t_boilings t_fizzles ++ (w_X0 y ha hsb h_v h_oldest h_size ++ w_SL y sl ssb s_v))))) H locs → lv_has ls 10 [(0, .ref (a 0)), (1, .int p1), (3, .int (n_starts (p2).toNatClampNeg)), (4, .int r8), (5, .int x16), (6, .int x12), (7, .int x17)] → W p l e (RM 2 43) s m args below meth c H locs 0 0 Q (F0 m 88 ls []) := by
              intro fu
              induction fu with
              | zero => intro x16 x17 q_runs_18 H locs ls hf hG hl; exact no_e hf
              | succ fu ih =>
                intro x16 x17 q_runs_18 H locs ls hf hG hl
                rw [f_X3_common_L88_s] at hf
                refine lv_iload hx hb dX3_common_88 (lv_at hl 6 rfl) ?_
                refine lv_if_lt (tgt := 185) hx hb dX3_common_90 (by decide) (fun c19 => ?_) (fun c19 => ?_)
                · have hf := it_e c19 hf
                  exact hk_88 x16 q_runs_18 _ _ ls hf hG (lv_sub hl [0, 1, 2, 3, 4, 5] rfl)
                · have hf := if_e c19 hf
                  refine lv_aload_n hx hb dX3_common_93 rfl (lv_at hl 0 rfl) ?_
                  refine w_get3 F hK hG k1 0 rfl 0 (by decide) k0 rfl dX3_common_94 ?_
                  refine w_get2 F hK hG k3 7 rfl 1 (by decide) k5 rfl dX3_common_97 ?_
                  refine lv_iload hx hb dX3_common_100 (lv_at hl 5 rfl) ?_
                  obtain ⟨g20, hf⟩ := gd_e hf
                  refine w_iald F hK hG 9 rfl g20 dX3_common_102 ?_
                  refine lv_aload_n hx hb dX3_common_103 rfl (lv_at hl 0 rfl) ?_
                  refine w_get3 F hK hG k1 0 rfl 0 (by decide) k0 rfl dX3_common_104 ?_
                  refine w_get2 F hK hG k3 7 rfl 1 (by decide) k5 rfl dX3_common_107 ?_
                  refine lv_iload_n hx hb dX3_common_110 rfl (lv_at hl 2 rfl) ?_
                  refine lv_iload hx hb dX3_common_111 (lv_at hl 6 rfl) ?_
                  refine lv_iadd hx hb dX3_common_113 ?_
                  obtain ⟨g21, hf⟩ := gd_e hf
                  refine w_iald F hK hG 9 rfl g21 dX3_common_114 ?_
                  obtain ⟨v23, ev23, hf⟩ := nm_o hf
                  have hJ : ∀ (ls : Array Slot), lv_has ls 10 [(0, .ref (a 0)), (1, .int p1), (3, .int (n_starts (p2).toNatClampNeg)), (4, .int r8), (5, .int x16), (6, .int x12), (7, .int x17)] → W p l e (RM 2 43) s m args below meth c H locs 0 0 Q (F0 m 123 ls [.int v23]) := by
                    intro ls hl
                    refine lv_istore (lv' := [(8, .int v23), (0, .ref (a 0)), (1, .int p1), (3, .int (n_starts (p2).toNatClampNeg)), (4, .int r8), (5, .int x16), (6, .int x12), (7, .int x17)]) hx hb dX3_common_123 hl (by decide) rfl (fun ls hl => ?_)
                    refine lv_iload hx hb dX3_common_125 (lv_at hl 7 rfl) ?_
                    obtain ⟨j27, ej27, hf⟩ := jn_e hf
                    have hj27 : ∀ (v26 : Int32) (H : Heap) (locs : List Loc) (ls : Array Slot), j27 v26 = some (ro, q_runs_o) → GG D A s.heap (w_X3 y a pa na ta ha sl q_saved q_runs_18 q_themes q_storyHeats ++ (w_X1 y pa p_characters p_length ++ (w_X2 y na n_settings n_letters n_heats n_starts n_families n_generations n_tally n_stories n_nextFamily n_splits n_boilings n_fizzles ++ (w_X2 y ta t_settings t_letters t_heats t_starts t_families t_generations t_tally t_stories t_nextFamily t_splits t_boilings t_fizzles ++ (w_X0 y ha hsb h_v h_oldest h_size ++ w_SL y sl ssb s_v))))) H locs → lv_has ls 10 [(0, .ref (a 0)), (1, .int p1), (3, .int (n_starts (p2).toNatClampNeg)), (4, .int r8), (5, .int x16), (6, .int x12), (7, .int x17), (8, .int v23)] → W p l e (RM 2 43) s m args below meth c H locs 0 0 Q (F0 m 143 ls [.int v26]) := by
                      intro v26 H locs ls hf hG hl
                      rw [ej27] at hf
                      refine lv_istore (lv' := [(9, .int v26), (0, .ref (a 0)), (1, .int p1), (3, .int (n_starts (p2).toNatClampNeg)), (4, .int r8), (5, .int x16), (6, .int x12), (7, .int x17), (8, .int v23)]) hx hb dX3_common_143 hl (by decide) rfl (fun ls hl => ?_)
                      refine lv_aload_n hx hb dX3_common_145 rfl (lv_at hl 1 rfl) ?_
                      refine w_get3 F hK hG k1 0 rfl 6 (by decide) k4 rfl dX3_common_146 ?_
                      refine lv_iload hx hb dX3_common_149 (lv_at hl 7 rfl) ?_
                      refine lv_iload hx hb dX3_common_151 (lv_at hl 8 rfl) ?_
                      obtain ⟨v29, ev29, hf⟩ := nm_o hf
                      have hJ : ∀ (ls : Array Slot), lv_has ls 10 [(0, .ref (a 0)), (1, .int p1), (3, .int (n_starts (p2).toNatClampNeg)), (4, .int r8), (5, .int x16), (6, .int x12), (7, .int x17)] → W p l e (RM 2 43) s m args below meth c H locs 0 0 Q (F0 m 164 ls [.int v29, .int x17, .ref (a 2)]) := by
                        intro ls hl
                        obtain ⟨g30, hf⟩ := gd_e hf
                        refine w_iast F hK hG 2 rfl g30 (w_X3 y a pa na ta ha sl q_saved (upd q_runs_18 (x17).toNatClampNeg v29) q_themes q_storyHeats ++ (w_X1 y pa p_characters p_length ++ (w_X2 y na n_settings n_letters n_heats n_starts n_families n_generations n_tally n_stories n_nextFamily n_splits n_boilings n_fizzles ++ (w_X2 y ta t_settings t_letters t_heats t_starts t_families t_generations t_tally t_stories t_nextFamily t_splits t_boilings t_fizzles ++ (w_X0 y ha hsb h_v h_oldest h_size ++ w_SL y sl ssb s_v))))) rfl dX3_common_164 (fun H locs hG => ?_)
                        refine lv_iload hx hb dX3_common_165 (lv_at hl 4 rfl) ?_
                        refine lv_aload_n hx hb dX3_common_167 rfl (lv_at hl 0 rfl) ?_
                        refine w_get3 F hK hG k1 0 rfl 6 (by decide) k4 rfl dX3_common_168 ?_
                        refine lv_iload hx hb dX3_common_171 (lv_at hl 6 rfl) ?_
                        obtain ⟨g31, hf⟩ := gd_e hf
                        refine w_iald F hK hG 2 rfl g31 dX3_common_173 ?_
                        refine w_max F hl.1 k6 k7 k8 k9 ⟨Nat.le_of_ble_eq_true rfl, Nat.le_of_ble_eq_true rfl⟩ ⟨Nat.le_refl 0, Nat.le_refl 0⟩ dX3_common_174 ?_
                        obtain ⟨v32, ev32, hf⟩ := nm_o hf
                        refine w_nm ev32 ?_
                        refine lv_istore (lv' := [(5, .int v32), (0, .ref (a 0)), (1, .int p1), (3, .int (n_starts (p2).toNatClampNeg)), (4, .int r8), (6, .int x12), (7, .int x17)]) hx hb dX3_common_177 hl (by decide) rfl (fun ls hl => ?_)
                        refine lv_iinc (v := x17 + (-1)) (lv' := [(7, .int (x17 + (-1))), (5, .int v32), (0, .ref (a 0)), (1, .int p1), (3, .int (n_starts (p2).toNatClampNeg)), (4, .int r8), (6, .int x12)]) hx hb dX3_common_179 hl (k := 6) rfl rfl (by decide) rfl (fun ls hl => ?_)
                        refine lv_goto (tgt := 88) hx hb dX3_common_182 (by decide) ?_
                        exact ih v32 (x17 + (-1)) (upd q_runs_18 (x17).toNatClampNeg v29) _ _ ls hf hG (lv_sub hl [2, 3, 4, 5, 1, 6, 0] rfl)
                      refine lv_if_eq (tgt := 163) hx hb dX3_common_153 (by decide) (fun c28 => ?_) (fun c28 => ?_)
                      · refine lv_iconst (v := nI 0) hx hb dX3_common_163 rfl ?_
                        have qv29 := (ev29.trans (if_pos c28))
                        subst qv29
                        exact hJ ls (lv_sub hl [1, 2, 3, 4, 5, 6, 7] rfl)
                      · refine lv_iload hx hb dX3_common_156 (lv_at hl 0 rfl) ?_
                        refine lv_iconst (v := nI 1) hx hb dX3_common_158 rfl ?_
                        refine lv_iadd hx hb dX3_common_159 ?_
                        refine lv_goto (tgt := 164) hx hb dX3_common_160 (by decide) ?_
                        have qv29 := (ev29.trans (if_neg c28))
                        subst qv29
                        exact hJ ls (lv_sub hl [1, 2, 3, 4, 5, 6, 7] rfl)
                    refine lv_if_le (tgt := 142) hx hb dX3_common_127 (by decide) (fun c24 => ?_) (fun c24 => ?_)
                    · have hf := it_e c24 hf
                      refine lv_iconst (v := nI 0) hx hb dX3_common_142 rfl ?_
                      exact hj27 (nI 0) _ _ ls hf hG (lv_sub hl [1, 2, 3, 4, 5, 6, 7, 0] rfl)
                    · have hf := if_e c24 hf
                      refine lv_aload_n hx hb dX3_common_130 rfl (lv_at hl 1 rfl) ?_
                      refine w_get3 F hK hG k1 0 rfl 6 (by decide) k4 rfl dX3_common_131 ?_
                      refine lv_iload hx hb dX3_common_134 (lv_at hl 7 rfl) ?_
                      refine lv_iconst (v := nI 1) hx hb dX3_common_136 rfl ?_
                      refine lv_isub hx hb dX3_common_137 ?_
                      obtain ⟨g25, hf⟩ := gd_e hf
                      refine w_iald F hK hG 2 rfl g25 dX3_common_138 ?_
                      refine lv_goto (tgt := 143) hx hb dX3_common_139 (by decide) ?_
                      exact hj27 (q_runs_18 (x17 - (nI 1)).toNatClampNeg) _ _ ls hf hG (lv_sub hl [1, 2, 3, 4, 5, 6, 7, 0] rfl)
                  refine lv_icmp_ne (tgt := 122) hx hb dX3_common_115 (by decide) (fun c22 => ?_) (fun c22 => ?_)
                  · refine lv_iconst (v := nI 0) hx hb dX3_common_122 rfl ?_
                    have qv23 := (ev23.trans (if_neg c22))
                    subst qv23
                    exact hJ ls (lv_sub hl [0, 1, 2, 3, 4, 5, 6] rfl)
                  · refine lv_iconst (v := nI 1) hx hb dX3_common_118 rfl ?_
                    refine lv_goto (tgt := 123) hx hb dX3_common_119 (by decide) ?_
                    have qv23 := (ev23.trans (if_pos c22))
                    subst qv23
                    exact hJ ls (lv_sub hl [0, 1, 2, 3, 4, 5, 6] rfl)
            exact hL88 Fu x11 (r8 - (nI 1)) q_runs_13 _ _ ls hf hG (lv_sub hl [1, 2, 3, 4, 5, 6, 0] rfl)
      exact hL66 Fu (nI 0) (n_starts (p1).toNatClampNeg) (fun _ => (nI 0)) _ _ ls hf hG (lv_sub hl [4, 5, 3, 2, 1, 0] rfl)
    · have hf := it_e c6 hf
      refine lv_iconst (v := -1) hx hb dX3_common_22 rfl ?_
      have hf := so_e hf
      have e0 : (-1) = ro := congrArg (fun z => z.1) hf
      have e1 : q_runs = q_runs_o := congrArg (fun z => z.2) hf
      exact hret _ _ _ _ _ e0 (by rw [← e1]; exact hG) dX3_common_23
set_option maxHeartbeats 1000000 in
set_option maxRecDepth 100000 in
theorem c_X3_tryHeating (l : Launch) (D : va_G) (y : Nat → ClassId) (a pa na ta ha : Nat → Nat) (hsb : Nat → Nat → Nat) (sl : Nat) (ssb : Nat → Nat → Nat) (sz : Nat) (Fu : Nat) (q_saved : Ar) (q_runs : Ar) (q_themes : Ar) (q_storyHeats : Ar) (p_characters : Ar) (p_length : Int32) (n_settings : Ar) (n_letters : Ar) (n_heats : Ar) (n_starts : Ar) (n_families : Ar) (n_generations : Ar) (n_tally : Ar) (n_stories : Int32) (n_nextFamily : Int32) (n_splits : Int32) (n_boilings : Int32) (n_fizzles : Int32) (t_settings : Ar) (t_letters : Ar) (t_heats : Ar) (t_starts : Ar) (t_families : Ar) (t_generations : Ar) (t_tally : Ar) (t_stories : Int32) (t_nextFamily : Int32) (t_splits : Int32) (t_boilings : Int32) (t_fizzles : Int32) (h_v : (Nat → SV)) (h_oldest : Int32) (h_size : Int32) (s_v : (Nat → SV)) (p1 : Int32) (p2 : Int32) (ro : Int32) (t_settings_o : Ar) (t_letters_o : Ar) (t_heats_o : Ar) (t_starts_o : Ar) (t_families_o : Ar) (t_generations_o : Ar) (t_stories_o : Int32) (t_nextFamily_o : Int32) (t_splits_o : Int32) (t_boilings_o : Int32) (t_fizzles_o : Int32) (hf : f_X3_tryHeating Fu n_settings n_letters n_heats n_starts n_families n_generations n_stories n_nextFamily n_splits n_boilings n_fizzles t_settings t_letters t_heats t_starts t_families t_generations t_stories t_nextFamily t_splits t_boilings t_fizzles p1 p2 = some (ro, t_settings_o, t_letters_o, t_heats_o, t_starts_o, t_families_o, t_generations_o, t_stories_o, t_nextFamily_o, t_splits_o, t_boilings_o, t_fizzles_o)) : MI l yX3_tryHeating wsX3_tryHeating 4 110 [.ref (a 0), .int p1, .int p2] D y (w_X3 y a pa na ta ha sl q_saved q_runs q_themes q_storyHeats ++ (w_X1 y pa p_characters p_length ++ (w_X2 y na n_settings n_letters n_heats n_starts n_families n_generations n_tally n_stories n_nextFamily n_splits n_boilings n_fizzles ++ (w_X2 y ta t_settings t_letters t_heats t_starts t_families t_generations t_tally t_stories t_nextFamily t_splits t_boilings t_fizzles ++ (w_X0 y ha hsb h_v h_oldest h_size ++ w_SL y sl ssb s_v))))) sz ro (w_X3 y a pa na ta ha sl q_saved q_runs q_themes q_storyHeats ++ (w_X1 y pa p_characters p_length ++ (w_X2 y na n_settings n_letters n_heats n_starts n_families n_generations n_tally n_stories n_nextFamily n_splits n_boilings n_fizzles ++ (w_X2 y ta t_settings_o t_letters_o t_heats_o t_starts_o t_families_o t_generations_o t_tally t_stories_o t_nextFamily_o t_splits_o t_boilings_o t_fizzles_o ++ (w_X0 y ha hsb h_v h_oldest h_size ++ w_SL y sl ssb s_v))))) := by
  refine M_i (cc := cX3_tryHeating) (maxL := 3) (own := RX3) (by decide) rfl rfl (Nat.le_of_ble_eq_true rfl) ?_
  intro p e s m args below meth c A Q F hK hA H locs hG hret ls hl
  have hx := F.1
  have hb := F.2.1
  have hl : lv_has ls 3 [(0, .ref (a 0)), (1, .int p1), (2, .int p2)] := hl
  have k0 := F.2.2.2.2 (.fieldLink RX3 16 "HeatedStories" "trial" "LHeatedStories$Shelf;") (List.mem_of_getElem? (i := 1) rfl)
  have k1 : ∀ w ∈ wsX30, w ∈ wsX3_tryHeating := (fun w h => List.mem_cons_of_mem _ (List.mem_append_left _ (List.mem_append_right _ (h))))
  have k2 := F.2.2.2.2 (.fieldLink RX3 10 "HeatedStories" "now" "LHeatedStories$Shelf;") (List.mem_of_getElem? (i := 2) rfl)
  unfold f_X3_tryHeating at hf
  refine lv_aload_n hx hb dX3_tryHeating_0 rfl (lv_at hl 0 rfl) ?_
  refine w_get3 F hK hG k1 0 rfl 1 (by decide) k0 rfl dX3_tryHeating_1 ?_
  refine lv_aload_n hx hb dX3_tryHeating_4 rfl (lv_at hl 0 rfl) ?_
  refine w_get3 F hK hG k1 0 rfl 0 (by decide) k2 rfl dX3_tryHeating_5 ?_
  obtain ⟨t_settings_1, t_letters_2, t_heats_3, t_starts_4, t_families_5, t_generations_6, t_stories_7, t_nextFamily_8, t_splits_9, t_boilings_10, t_fizzles_11, h12, hf⟩ := bd11_e hf
  have hG : GG D A s.heap ((w_X2 y ta t_settings t_letters t_heats t_starts t_families t_generations t_tally t_stories t_nextFamily t_splits t_boilings t_fizzles ++ (w_X2 y na n_settings n_letters n_heats n_starts n_families n_generations n_tally n_stories n_nextFamily n_splits n_boilings n_fizzles)) ++ (w_X3 y a pa na ta ha sl q_saved q_runs q_themes q_storyHeats ++ (w_X1 y pa p_characters p_length ++ (w_X0 y ha hsb h_v h_oldest h_size ++ (w_SL y sl ssb s_v))))) H locs := GG.blk (fun k => match k with | 0 => w_X3 y a pa na ta ha sl q_saved q_runs q_themes q_storyHeats | 1 => w_X1 y pa p_characters p_length | 2 => w_X2 y na n_settings n_letters n_heats n_starts n_families n_generations n_tally n_stories n_nextFamily n_splits n_boilings n_fizzles | 3 => w_X2 y ta t_settings t_letters t_heats t_starts t_families t_generations t_tally t_stories t_nextFamily t_splits t_boilings t_fizzles | 4 => w_X0 y ha hsb h_v h_oldest h_size | _ => w_SL y sl ssb s_v) [0, 1, 2, 3, 4, 5] [3, 2, 0, 1, 4, 5] (blkp _ _ rfl) _ _ rfl (List.append_assoc (w_X2 y ta t_settings t_letters t_heats t_starts t_families t_generations t_tally t_stories t_nextFamily t_splits t_boilings t_fizzles) (w_X2 y na n_settings n_letters n_heats n_starts n_families n_generations n_tally n_stories n_nextFamily n_splits n_boilings n_fizzles) (w_X3 y a pa na ta ha sl q_saved q_runs q_themes q_storyHeats ++ (w_X1 y pa p_characters p_length ++ (w_X0 y ha hsb h_v h_oldest h_size ++ (w_SL y sl ssb s_v))))).symm hG
  refine k_Pv F hK hA hG (c_X2_copyFrom l D y ta na H.size Fu t_settings t_letters t_heats t_starts t_families t_generations t_tally t_stories t_nextFamily t_splits t_boilings t_fizzles n_settings n_letters n_heats n_starts n_families n_generations n_tally n_stories n_nextFamily n_splits n_boilings n_fizzles t_settings_1 t_letters_2 t_heats_3 t_starts_4 t_families_5 t_generations_6 t_stories_7 t_nextFamily_8 t_splits_9 t_boilings_10 t_fizzles_11 h12) (cwV 1 F.2.2.2.2 gX3_tryHeating_X2_copyFrom rfl rfl rfl (by decide +kernel) ⟨Nat.le_of_ble_eq_true rfl, Nat.le_of_ble_eq_true rfl⟩) 0 rfl rfl (adr_app rfl rfl) rfl rfl hl.1 (Nat.le_of_ble_eq_true rfl) dX3_tryHeating_8 ⟨Nat.le_refl 0, Nat.le_refl 0⟩ (fun H locs hG => ?_)
  have hG : GG D A s.heap (w_X3 y a pa na ta ha sl q_saved q_runs q_themes q_storyHeats ++ (w_X1 y pa p_characters p_length ++ (w_X2 y na n_settings n_letters n_heats n_starts n_families n_generations n_tally n_stories n_nextFamily n_splits n_boilings n_fizzles ++ (w_X2 y ta t_settings_1 t_letters_2 t_heats_3 t_starts_4 t_families_5 t_generations_6 t_tally t_stories_7 t_nextFamily_8 t_splits_9 t_boilings_10 t_fizzles_11 ++ (w_X0 y ha hsb h_v h_oldest h_size ++ w_SL y sl ssb s_v))))) H locs := GG.blk (fun k => match k with | 0 => w_X3 y a pa na ta ha sl q_saved q_runs q_themes q_storyHeats | 1 => w_X1 y pa p_characters p_length | 2 => w_X2 y na n_settings n_letters n_heats n_starts n_families n_generations n_tally n_stories n_nextFamily n_splits n_boilings n_fizzles | 3 => w_X2 y ta t_settings_1 t_letters_2 t_heats_3 t_starts_4 t_families_5 t_generations_6 t_tally t_stories_7 t_nextFamily_8 t_splits_9 t_boilings_10 t_fizzles_11 | 4 => w_X0 y ha hsb h_v h_oldest h_size | _ => w_SL y sl ssb s_v) [3, 2, 0, 1, 4, 5] [0, 1, 2, 3, 4, 5] (blkp _ _ rfl) _ _ (List.append_assoc (w_X2 y ta t_settings_1 t_letters_2 t_heats_3 t_starts_4 t_families_5 t_generations_6 t_tally t_stories_7 t_nextFamily_8 t_splits_9 t_boilings_10 t_fizzles_11) (w_X2 y na n_settings n_letters n_heats n_starts n_families n_generations n_tally n_stories n_nextFamily n_splits n_boilings n_fizzles) (w_X3 y a pa na ta ha sl q_saved q_runs q_themes q_storyHeats ++ (w_X1 y pa p_characters p_length ++ (w_X0 y ha hsb h_v h_oldest h_size ++ (w_SL y sl ssb s_v))))) rfl hG
  refine lv_aload_n hx hb dX3_tryHeating_11 rfl (lv_at hl 0 rfl) ?_
  refine w_get3 F hK hG k1 0 rfl 1 (by decide) k0 rfl dX3_tryHeating_12 ?_
  refine lv_iload_n hx hb dX3_tryHeating_15 rfl (lv_at hl 1 rfl) ?_
  refine lv_iload_n hx hb dX3_tryHeating_16 rfl (lv_at hl 2 rfl) ?_
  obtain ⟨t_heats_13, h14, hf⟩ := bd1_e hf
  have hG : GG D A s.heap ((w_X2 y ta t_settings_1 t_letters_2 t_heats_3 t_starts_4 t_families_5 t_generations_6 t_tally t_stories_7 t_nextFamily_8 t_splits_9 t_boilings_10 t_fizzles_11) ++ (w_X3 y a pa na ta ha sl q_saved q_runs q_themes q_storyHeats ++ (w_X1 y pa p_characters p_length ++ (w_X2 y na n_settings n_letters n_heats n_starts n_families n_generations n_tally n_stories n_nextFamily n_splits n_boilings n_fizzles ++ (w_X0 y ha hsb h_v h_oldest h_size ++ (w_SL y sl ssb s_v)))))) H locs := GG.blk (fun k => match k with | 0 => w_X3 y a pa na ta ha sl q_saved q_runs q_themes q_storyHeats | 1 => w_X1 y pa p_characters p_length | 2 => w_X2 y na n_settings n_letters n_heats n_starts n_families n_generations n_tally n_stories n_nextFamily n_splits n_boilings n_fizzles | 3 => w_X2 y ta t_settings_1 t_letters_2 t_heats_3 t_starts_4 t_families_5 t_generations_6 t_tally t_stories_7 t_nextFamily_8 t_splits_9 t_boilings_10 t_fizzles_11 | 4 => w_X0 y ha hsb h_v h_oldest h_size | _ => w_SL y sl ssb s_v) [0, 1, 2, 3, 4, 5] [3, 0, 1, 2, 4, 5] (blkp _ _ rfl) _ _ rfl rfl hG
  refine k_Pv F hK hA hG (c_X2_warm l D y ta H.size Fu t_settings_1 t_letters_2 t_heats_3 t_starts_4 t_families_5 t_generations_6 t_tally t_stories_7 t_nextFamily_8 t_splits_9 t_boilings_10 t_fizzles_11 p1 p2 t_heats_13 h14) (cwV 2 F.2.2.2.2 gX3_tryHeating_X2_warm rfl rfl rfl (by decide +kernel) ⟨Nat.le_of_ble_eq_true rfl, Nat.le_of_ble_eq_true rfl⟩) 0 rfl rfl rfl rfl rfl hl.1 (Nat.le_of_ble_eq_true rfl) dX3_tryHeating_17 ⟨Nat.le_refl 0, Nat.le_refl 0⟩ (fun H locs hG => ?_)
  have hG : GG D A s.heap (w_X3 y a pa na ta ha sl q_saved q_runs q_themes q_storyHeats ++ (w_X1 y pa p_characters p_length ++ (w_X2 y na n_settings n_letters n_heats n_starts n_families n_generations n_tally n_stories n_nextFamily n_splits n_boilings n_fizzles ++ (w_X2 y ta t_settings_1 t_letters_2 t_heats_13 t_starts_4 t_families_5 t_generations_6 t_tally t_stories_7 t_nextFamily_8 t_splits_9 t_boilings_10 t_fizzles_11 ++ (w_X0 y ha hsb h_v h_oldest h_size ++ w_SL y sl ssb s_v))))) H locs := GG.blk (fun k => match k with | 0 => w_X3 y a pa na ta ha sl q_saved q_runs q_themes q_storyHeats | 1 => w_X1 y pa p_characters p_length | 2 => w_X2 y na n_settings n_letters n_heats n_starts n_families n_generations n_tally n_stories n_nextFamily n_splits n_boilings n_fizzles | 3 => w_X2 y ta t_settings_1 t_letters_2 t_heats_13 t_starts_4 t_families_5 t_generations_6 t_tally t_stories_7 t_nextFamily_8 t_splits_9 t_boilings_10 t_fizzles_11 | 4 => w_X0 y ha hsb h_v h_oldest h_size | _ => w_SL y sl ssb s_v) [3, 0, 1, 2, 4, 5] [0, 1, 2, 3, 4, 5] (blkp _ _ rfl) _ _ rfl rfl hG
  refine lv_aload_n hx hb dX3_tryHeating_20 rfl (lv_at hl 0 rfl) ?_
  refine w_get3 F hK hG k1 0 rfl 1 (by decide) k0 rfl dX3_tryHeating_21 ?_
  obtain ⟨r15, t_heats_16, t_starts_17, t_families_18, t_generations_19, t_stories_20, t_splits_21, t_boilings_22, t_fizzles_23, h24, hf⟩ := bd9_e hf
  have hG : GG D A s.heap ((w_X2 y ta t_settings_1 t_letters_2 t_heats_13 t_starts_4 t_families_5 t_generations_6 t_tally t_stories_7 t_nextFamily_8 t_splits_9 t_boilings_10 t_fizzles_11) ++ (w_X3 y a pa na ta ha sl q_saved q_runs q_themes q_storyHeats ++ (w_X1 y pa p_characters p_length ++ (w_X2 y na n_settings n_letters n_heats n_starts n_families n_generations n_tally n_stories n_nextFamily n_splits n_boilings n_fizzles ++ (w_X0 y ha hsb h_v h_oldest h_size ++ (w_SL y sl ssb s_v)))))) H locs := GG.blk (fun k => match k with | 0 => w_X3 y a pa na ta ha sl q_saved q_runs q_themes q_storyHeats | 1 => w_X1 y pa p_characters p_length | 2 => w_X2 y na n_settings n_letters n_heats n_starts n_families n_generations n_tally n_stories n_nextFamily n_splits n_boilings n_fizzles | 3 => w_X2 y ta t_settings_1 t_letters_2 t_heats_13 t_starts_4 t_families_5 t_generations_6 t_tally t_stories_7 t_nextFamily_8 t_splits_9 t_boilings_10 t_fizzles_11 | 4 => w_X0 y ha hsb h_v h_oldest h_size | _ => w_SL y sl ssb s_v) [0, 1, 2, 3, 4, 5] [3, 0, 1, 2, 4, 5] (blkp _ _ rfl) _ _ rfl rfl hG
  refine k_Pi F hK hA hG (c_X2_react l D y ta H.size Fu t_settings_1 t_letters_2 t_heats_13 t_starts_4 t_families_5 t_generations_6 t_tally t_stories_7 t_nextFamily_8 t_splits_9 t_boilings_10 t_fizzles_11 r15 t_heats_16 t_starts_17 t_families_18 t_generations_19 t_stories_20 t_splits_21 t_boilings_22 t_fizzles_23 h24) (cwV 0 F.2.2.2.2 gX3_tryHeating_X2_react rfl rfl rfl (by decide +kernel) ⟨Nat.le_of_ble_eq_true rfl, Nat.le_of_ble_eq_true rfl⟩) 0 rfl rfl rfl rfl rfl hl.1 (Nat.le_of_ble_eq_true rfl) dX3_tryHeating_24 ⟨Nat.le_refl 0, Nat.le_refl 0⟩ (fun H locs hG => ?_)
  have hG : GG D A s.heap (w_X3 y a pa na ta ha sl q_saved q_runs q_themes q_storyHeats ++ (w_X1 y pa p_characters p_length ++ (w_X2 y na n_settings n_letters n_heats n_starts n_families n_generations n_tally n_stories n_nextFamily n_splits n_boilings n_fizzles ++ (w_X2 y ta t_settings_1 t_letters_2 t_heats_16 t_starts_17 t_families_18 t_generations_19 t_tally t_stories_20 t_nextFamily_8 t_splits_21 t_boilings_22 t_fizzles_23 ++ (w_X0 y ha hsb h_v h_oldest h_size ++ w_SL y sl ssb s_v))))) H locs := GG.blk (fun k => match k with | 0 => w_X3 y a pa na ta ha sl q_saved q_runs q_themes q_storyHeats | 1 => w_X1 y pa p_characters p_length | 2 => w_X2 y na n_settings n_letters n_heats n_starts n_families n_generations n_tally n_stories n_nextFamily n_splits n_boilings n_fizzles | 3 => w_X2 y ta t_settings_1 t_letters_2 t_heats_16 t_starts_17 t_families_18 t_generations_19 t_tally t_stories_20 t_nextFamily_8 t_splits_21 t_boilings_22 t_fizzles_23 | 4 => w_X0 y ha hsb h_v h_oldest h_size | _ => w_SL y sl ssb s_v) [3, 0, 1, 2, 4, 5] [0, 1, 2, 3, 4, 5] (blkp _ _ rfl) _ _ rfl rfl hG
  have hf := so_e hf
  have e0 : r15 = ro := congrArg (fun z => z.1) hf
  have e1 : t_settings_1 = t_settings_o := congrArg (fun z => z.2.1) hf
  have e2 : t_letters_2 = t_letters_o := congrArg (fun z => z.2.2.1) hf
  have e3 : t_heats_16 = t_heats_o := congrArg (fun z => z.2.2.2.1) hf
  have e4 : t_starts_17 = t_starts_o := congrArg (fun z => z.2.2.2.2.1) hf
  have e5 : t_families_18 = t_families_o := congrArg (fun z => z.2.2.2.2.2.1) hf
  have e6 : t_generations_19 = t_generations_o := congrArg (fun z => z.2.2.2.2.2.2.1) hf
  have e7 : t_stories_20 = t_stories_o := congrArg (fun z => z.2.2.2.2.2.2.2.1) hf
  have e8 : t_nextFamily_8 = t_nextFamily_o := congrArg (fun z => z.2.2.2.2.2.2.2.2.1) hf
  have e9 : t_splits_21 = t_splits_o := congrArg (fun z => z.2.2.2.2.2.2.2.2.2.1) hf
  have e10 : t_boilings_22 = t_boilings_o := congrArg (fun z => z.2.2.2.2.2.2.2.2.2.2.1) hf
  have e11 : t_fizzles_23 = t_fizzles_o := congrArg (fun z => z.2.2.2.2.2.2.2.2.2.2.2) hf
  exact hret _ _ _ _ _ e0 (by rw [← e1, ← e2, ← e3, ← e4, ← e5, ← e6, ← e7, ← e8, ← e9, ← e10, ← e11]; exact hG) dX3_tryHeating_27
set_option maxHeartbeats 1000000 in
set_option maxRecDepth 100000 in
theorem c_X3_ifHeated (l : Launch) (D : va_G) (y : Nat → ClassId) (a pa na ta ha : Nat → Nat) (hsb : Nat → Nat → Nat) (sl : Nat) (ssb : Nat → Nat → Nat) (sz : Nat) (Fu : Nat) (q_saved : Ar) (q_runs : Ar) (q_themes : Ar) (q_storyHeats : Ar) (p_characters : Ar) (p_length : Int32) (n_settings : Ar) (n_letters : Ar) (n_heats : Ar) (n_starts : Ar) (n_families : Ar) (n_generations : Ar) (n_tally : Ar) (n_stories : Int32) (n_nextFamily : Int32) (n_splits : Int32) (n_boilings : Int32) (n_fizzles : Int32) (t_settings : Ar) (t_letters : Ar) (t_heats : Ar) (t_starts : Ar) (t_families : Ar) (t_generations : Ar) (t_tally : Ar) (t_stories : Int32) (t_nextFamily : Int32) (t_splits : Int32) (t_boilings : Int32) (t_fizzles : Int32) (h_v : (Nat → SV)) (h_oldest : Int32) (h_size : Int32) (s_v : (Nat → SV)) (p1 : Int32) (p2 : Int32) (p3 : Int32) (p4 : Int32) (ro : Int32) (t_settings_o : Ar) (t_letters_o : Ar) (t_heats_o : Ar) (t_starts_o : Ar) (t_families_o : Ar) (t_generations_o : Ar) (t_stories_o : Int32) (t_nextFamily_o : Int32) (t_splits_o : Int32) (t_boilings_o : Int32) (t_fizzles_o : Int32) (hf : f_X3_ifHeated Fu n_settings n_letters n_heats n_starts n_families n_generations n_stories n_nextFamily n_splits n_boilings n_fizzles t_settings t_letters t_heats t_starts t_families t_generations t_stories t_nextFamily t_splits t_boilings t_fizzles p1 p2 p3 p4 = some (ro, t_settings_o, t_letters_o, t_heats_o, t_starts_o, t_families_o, t_generations_o, t_stories_o, t_nextFamily_o, t_splits_o, t_boilings_o, t_fizzles_o)) : MI l yX3_ifHeated wsX3_ifHeated 5 132 [.ref (a 0), .int p1, .int p2, .int p3, .int p4] D y (w_X3 y a pa na ta ha sl q_saved q_runs q_themes q_storyHeats ++ (w_X1 y pa p_characters p_length ++ (w_X2 y na n_settings n_letters n_heats n_starts n_families n_generations n_tally n_stories n_nextFamily n_splits n_boilings n_fizzles ++ (w_X2 y ta t_settings t_letters t_heats t_starts t_families t_generations t_tally t_stories t_nextFamily t_splits t_boilings t_fizzles ++ (w_X0 y ha hsb h_v h_oldest h_size ++ w_SL y sl ssb s_v))))) sz ro (w_X3 y a pa na ta ha sl q_saved q_runs q_themes q_storyHeats ++ (w_X1 y pa p_characters p_length ++ (w_X2 y na n_settings n_letters n_heats n_starts n_families n_generations n_tally n_stories n_nextFamily n_splits n_boilings n_fizzles ++ (w_X2 y ta t_settings_o t_letters_o t_heats_o t_starts_o t_families_o t_generations_o t_tally t_stories_o t_nextFamily_o t_splits_o t_boilings_o t_fizzles_o ++ (w_X0 y ha hsb h_v h_oldest h_size ++ w_SL y sl ssb s_v))))) := by
  refine M_i (cc := cX3_ifHeated) (maxL := 6) (own := RX3) (by decide) rfl rfl (Nat.le_of_ble_eq_true rfl) ?_
  intro p e s m args below meth c A Q F hK hA H locs hG hret ls hl
  have hx := F.1
  have hb := F.2.1
  have hl : lv_has ls 6 [(0, .ref (a 0)), (1, .int p1), (2, .int p2), (3, .int p3), (4, .int p4)] := hl
  have k0 := F.2.2.2.2 (.fieldLink RX3 10 "HeatedStories" "now" "LHeatedStories$Shelf;") (List.mem_of_getElem? (i := 1) rfl)
  have k1 : ∀ w ∈ wsX30, w ∈ wsX3_ifHeated := (fun w h => List.mem_cons_of_mem _ (List.mem_append_left _ (List.mem_append_right _ (h))))
  have k2 := F.2.2.2.2 (.fieldLink RX3 98 "HeatedStories$Shelf" "starts" "[I") (List.mem_of_getElem? (i := 2) rfl)
  have k3 : ∀ w ∈ wsX20, w ∈ wsX3_ifHeated := (fun w h => List.mem_cons_of_mem _ (List.mem_append_right _ (h)))
  have k4 := F.2.2.2.2 (.fieldLink RX3 16 "HeatedStories" "trial" "LHeatedStories$Shelf;") (List.mem_of_getElem? (i := 3) rfl)
  have k5 := F.2.2.2.2 (.fieldLink RX3 166 "HeatedStories$Shelf" "splits" "I") (List.mem_of_getElem? (i := 4) rfl)
  have k6 := F.2.2.2.2 (.fieldLink RX3 72 "HeatedStories$Shelf" "stories" "I") (List.mem_of_getElem? (i := 5) rfl)
  unfold f_X3_ifHeated at hf
  refine lv_aload_n hx hb dX3_ifHeated_0 rfl (lv_at hl 0 rfl) ?_
  refine w_get3 F hK hG k1 0 rfl 0 (by decide) k0 rfl dX3_ifHeated_1 ?_
  refine lv_iload_n hx hb dX3_ifHeated_4 rfl (lv_at hl 1 rfl) ?_
  refine lv_iload_n hx hb dX3_ifHeated_5 rfl (lv_at hl 2 rfl) ?_
  obtain ⟨r1, h2, hf⟩ := bd1_e hf
  have hG : GG D A s.heap ((w_X2 y na n_settings n_letters n_heats n_starts n_families n_generations n_tally n_stories n_nextFamily n_splits n_boilings n_fizzles) ++ (w_X3 y a pa na ta ha sl q_saved q_runs q_themes q_storyHeats ++ (w_X1 y pa p_characters p_length ++ (w_X2 y ta t_settings t_letters t_heats t_starts t_families t_generations t_tally t_stories t_nextFamily t_splits t_boilings t_fizzles ++ (w_X0 y ha hsb h_v h_oldest h_size ++ (w_SL y sl ssb s_v)))))) H locs := GG.blk (fun k => match k with | 0 => w_X3 y a pa na ta ha sl q_saved q_runs q_themes q_storyHeats | 1 => w_X1 y pa p_characters p_length | 2 => w_X2 y na n_settings n_letters n_heats n_starts n_families n_generations n_tally n_stories n_nextFamily n_splits n_boilings n_fizzles | 3 => w_X2 y ta t_settings t_letters t_heats t_starts t_families t_generations t_tally t_stories t_nextFamily t_splits t_boilings t_fizzles | 4 => w_X0 y ha hsb h_v h_oldest h_size | _ => w_SL y sl ssb s_v) [0, 1, 2, 3, 4, 5] [2, 0, 1, 3, 4, 5] (blkp _ _ rfl) _ _ rfl rfl hG
  refine k_Pi F hK hA hG (c_X2_hasWord l D y na H.size Fu n_settings n_letters n_heats n_starts n_families n_generations n_tally n_stories n_nextFamily n_splits n_boilings n_fizzles p1 p2 r1 h2) (cwV 2 F.2.2.2.2 gX3_ifHeated_X2_hasWord rfl rfl rfl (by decide +kernel) ⟨Nat.le_of_ble_eq_true rfl, Nat.le_of_ble_eq_true rfl⟩) 0 rfl rfl rfl rfl rfl hl.1 (Nat.le_of_ble_eq_true rfl) dX3_ifHeated_6 ⟨Nat.le_refl 0, Nat.le_refl 0⟩ (fun H locs hG => ?_)
  have hG : GG D A s.heap (w_X3 y a pa na ta ha sl q_saved q_runs q_themes q_storyHeats ++ (w_X1 y pa p_characters p_length ++ (w_X2 y na n_settings n_letters n_heats n_starts n_families n_generations n_tally n_stories n_nextFamily n_splits n_boilings n_fizzles ++ (w_X2 y ta t_settings t_letters t_heats t_starts t_families t_generations t_tally t_stories t_nextFamily t_splits t_boilings t_fizzles ++ (w_X0 y ha hsb h_v h_oldest h_size ++ w_SL y sl ssb s_v))))) H locs := GG.blk (fun k => match k with | 0 => w_X3 y a pa na ta ha sl q_saved q_runs q_themes q_storyHeats | 1 => w_X1 y pa p_characters p_length | 2 => w_X2 y na n_settings n_letters n_heats n_starts n_families n_generations n_tally n_stories n_nextFamily n_splits n_boilings n_fizzles | 3 => w_X2 y ta t_settings t_letters t_heats t_starts t_families t_generations t_tally t_stories t_nextFamily t_splits t_boilings t_fizzles | 4 => w_X0 y ha hsb h_v h_oldest h_size | _ => w_SL y sl ssb s_v) [2, 0, 1, 3, 4, 5] [0, 1, 2, 3, 4, 5] (blkp _ _ rfl) _ _ rfl rfl hG
  refine lv_if_ne (tgt := 14) hx hb dX3_ifHeated_9 (by decide) (fun c3 => ?_) (fun c3 => ?_)
  · have hf := if_e c3 hf
    refine lv_iload_n hx hb dX3_ifHeated_14 rfl (lv_at hl 3 rfl) ?_
    refine lv_iconst (v := nI 1) hx hb dX3_ifHeated_15 rfl ?_
    refine lv_sipush (v := nI 500) hx hb dX3_ifHeated_16 rfl ?_
    obtain ⟨r4, h5, hf⟩ := bd1_e hf
    refine k_Si F hK hA hG (c_X3_isWithin l D y  H.size Fu  p3 (nI 1) (nI 500) r4 h5) (va_cwS 3 F.2.2.2.2 gX3_ifHeated_X3_isWithin rfl rfl rfl (by decide +kernel) ⟨Nat.le_of_ble_eq_true rfl, Nat.le_of_ble_eq_true rfl⟩) rfl rfl hl.1 (Nat.le_of_ble_eq_true rfl) dX3_ifHeated_19 ⟨Nat.le_refl 0, Nat.le_refl 0⟩ (fun H locs hG => ?_)
    refine lv_if_eq (tgt := 35) hx hb dX3_ifHeated_22 (by decide) (fun c6 => ?_) (fun c6 => ?_)
    · have hf := it_e c6 hf
      refine lv_bipush (v := -2) hx hb dX3_ifHeated_35 rfl ?_
      have hf := so_e hf
      have e0 : (-2) = ro := congrArg (fun z => z.1) hf
      have e1 : t_settings = t_settings_o := congrArg (fun z => z.2.1) hf
      have e2 : t_letters = t_letters_o := congrArg (fun z => z.2.2.1) hf
      have e3 : t_heats = t_heats_o := congrArg (fun z => z.2.2.2.1) hf
      have e4 : t_starts = t_starts_o := congrArg (fun z => z.2.2.2.2.1) hf
      have e5 : t_families = t_families_o := congrArg (fun z => z.2.2.2.2.2.1) hf
      have e6 : t_generations = t_generations_o := congrArg (fun z => z.2.2.2.2.2.2.1) hf
      have e7 : t_stories = t_stories_o := congrArg (fun z => z.2.2.2.2.2.2.2.1) hf
      have e8 : t_nextFamily = t_nextFamily_o := congrArg (fun z => z.2.2.2.2.2.2.2.2.1) hf
      have e9 : t_splits = t_splits_o := congrArg (fun z => z.2.2.2.2.2.2.2.2.2.1) hf
      have e10 : t_boilings = t_boilings_o := congrArg (fun z => z.2.2.2.2.2.2.2.2.2.2.1) hf
      have e11 : t_fizzles = t_fizzles_o := congrArg (fun z => z.2.2.2.2.2.2.2.2.2.2.2) hf
      exact hret _ _ _ _ _ e0 (by rw [← e1, ← e2, ← e3, ← e4, ← e5, ← e6, ← e7, ← e8, ← e9, ← e10, ← e11]; exact hG) dX3_ifHeated_37
    · have hf := if_e c6 hf
      refine lv_iload hx hb dX3_ifHeated_25 (lv_at hl 4 rfl) ?_
      refine lv_iconst (v := nI 0) hx hb dX3_ifHeated_27 rfl ?_
      refine lv_iconst (v := nI 3) hx hb dX3_ifHeated_28 rfl ?_
      obtain ⟨r7, h8, hf⟩ := bd1_e hf
      refine k_Si F hK hA hG (c_X3_isWithin l D y  H.size Fu  p4 (nI 0) (nI 3) r7 h8) (va_cwS 3 F.2.2.2.2 gX3_ifHeated_X3_isWithin rfl rfl rfl (by decide +kernel) ⟨Nat.le_of_ble_eq_true rfl, Nat.le_of_ble_eq_true rfl⟩) rfl rfl hl.1 (Nat.le_of_ble_eq_true rfl) dX3_ifHeated_29 ⟨Nat.le_refl 0, Nat.le_refl 0⟩ (fun H locs hG => ?_)
      refine lv_if_ne (tgt := 38) hx hb dX3_ifHeated_32 (by decide) (fun c9 => ?_) (fun c9 => ?_)
      · have hf := if_e c9 hf
        refine lv_aload_n hx hb dX3_ifHeated_38 rfl (lv_at hl 0 rfl) ?_
        refine lv_aload_n hx hb dX3_ifHeated_39 rfl (lv_at hl 0 rfl) ?_
        refine w_get3 F hK hG k1 0 rfl 0 (by decide) k0 rfl dX3_ifHeated_40 ?_
        refine w_get2 F hK hG k3 7 rfl 3 (by decide) k2 rfl dX3_ifHeated_43 ?_
        refine lv_iload_n hx hb dX3_ifHeated_46 rfl (lv_at hl 1 rfl) ?_
        obtain ⟨g10, hf⟩ := gd_e hf
        refine w_iald F hK hG 11 rfl g10 dX3_ifHeated_47 ?_
        refine lv_iload_n hx hb dX3_ifHeated_48 rfl (lv_at hl 2 rfl) ?_
        refine lv_iadd hx hb dX3_ifHeated_49 ?_
        refine lv_iload_n hx hb dX3_ifHeated_50 rfl (lv_at hl 3 rfl) ?_
        obtain ⟨r11, t_settings_12, t_letters_13, t_heats_14, t_starts_15, t_families_16, t_generations_17, t_stories_18, t_nextFamily_19, t_splits_20, t_boilings_21, t_fizzles_22, h23, hf⟩ := bd12_e hf
        refine k_Wi F hK hA hG (c_X3_tryHeating l D y a pa na ta ha hsb sl ssb H.size Fu q_saved q_runs q_themes q_storyHeats p_characters p_length n_settings n_letters n_heats n_starts n_families n_generations n_tally n_stories n_nextFamily n_splits n_boilings n_fizzles t_settings t_letters t_heats t_starts t_families t_generations t_tally t_stories t_nextFamily t_splits t_boilings t_fizzles h_v h_oldest h_size s_v ((n_starts (p1).toNatClampNeg) + p2) p3 r11 t_settings_12 t_letters_13 t_heats_14 t_starts_15 t_families_16 t_generations_17 t_stories_18 t_nextFamily_19 t_splits_20 t_boilings_21 t_fizzles_22 h23) (cwV 2 F.2.2.2.2 gX3_ifHeated_X3_tryHeating rfl rfl rfl (by decide +kernel) ⟨Nat.le_of_ble_eq_true rfl, Nat.le_of_ble_eq_true rfl⟩) 0 rfl rfl rfl rfl rfl hl.1 (Nat.le_of_ble_eq_true rfl) dX3_ifHeated_51 ⟨Nat.le_refl 0, Nat.le_refl 0⟩ (fun H locs hG => ?_)
        refine lv_istore (lv' := [(5, .int r11), (0, .ref (a 0)), (1, .int p1), (2, .int p2), (3, .int p3), (4, .int p4)]) hx hb dX3_ifHeated_54 hl (by decide) rfl (fun ls hl => ?_)
        refine lv_iload hx hb dX3_ifHeated_56 (lv_at hl 5 rfl) ?_
        obtain ⟨v24, ev24, hf⟩ := nm_o hf
        refine w_nm ev24 ?_
        by_cases cv24_0 : v24 = nI 0
        · subst cv24_0
          have hf := it_e rfl hf
          refine lv_tableIn (tgt := 84) hx hb dX3_ifHeated_58 (by decide) (by decide) rfl (by decide) ?_
          refine lv_iload hx hb dX3_ifHeated_84 (lv_at hl 0 rfl) ?_
          have hf := so_e hf
          have e0 : r11 = ro := congrArg (fun z => z.1) hf
          have e1 : t_settings_12 = t_settings_o := congrArg (fun z => z.2.1) hf
          have e2 : t_letters_13 = t_letters_o := congrArg (fun z => z.2.2.1) hf
          have e3 : t_heats_14 = t_heats_o := congrArg (fun z => z.2.2.2.1) hf
          have e4 : t_starts_15 = t_starts_o := congrArg (fun z => z.2.2.2.2.1) hf
          have e5 : t_families_16 = t_families_o := congrArg (fun z => z.2.2.2.2.2.1) hf
          have e6 : t_generations_17 = t_generations_o := congrArg (fun z => z.2.2.2.2.2.2.1) hf
          have e7 : t_stories_18 = t_stories_o := congrArg (fun z => z.2.2.2.2.2.2.2.1) hf
          have e8 : t_nextFamily_19 = t_nextFamily_o := congrArg (fun z => z.2.2.2.2.2.2.2.2.1) hf
          have e9 : t_splits_20 = t_splits_o := congrArg (fun z => z.2.2.2.2.2.2.2.2.2.1) hf
          have e10 : t_boilings_21 = t_boilings_o := congrArg (fun z => z.2.2.2.2.2.2.2.2.2.2.1) hf
          have e11 : t_fizzles_22 = t_fizzles_o := congrArg (fun z => z.2.2.2.2.2.2.2.2.2.2.2) hf
          exact hret _ _ _ _ _ e0 (by rw [← e1, ← e2, ← e3, ← e4, ← e5, ← e6, ← e7, ← e8, ← e9, ← e10, ← e11]; exact hG) dX3_ifHeated_86
        have hf := if_e cv24_0 hf
        by_cases cv24_1 : v24 = nI 1
        · subst cv24_1
          have hf := it_e rfl hf
          refine lv_tableIn (tgt := 87) hx hb dX3_ifHeated_58 (by decide) (by decide) rfl (by decide) ?_
          refine lv_aload_n hx hb dX3_ifHeated_87 rfl (lv_at hl 1 rfl) ?_
          refine w_get3 F hK hG k1 0 rfl 1 (by decide) k4 rfl dX3_ifHeated_88 ?_
          refine w_get2 F hK hG k3 15 rfl 9 (by decide) k5 rfl dX3_ifHeated_91 ?_
          refine lv_aload_n hx hb dX3_ifHeated_94 rfl (lv_at hl 1 rfl) ?_
          refine w_get3 F hK hG k1 0 rfl 0 (by decide) k0 rfl dX3_ifHeated_95 ?_
          refine w_get2 F hK hG k3 7 rfl 9 (by decide) k5 rfl dX3_ifHeated_98 ?_
          refine lv_isub hx hb dX3_ifHeated_101 ?_
          have hf := so_e hf
          have e0 : (t_splits_20 - n_splits) = ro := congrArg (fun z => z.1) hf
          have e1 : t_settings_12 = t_settings_o := congrArg (fun z => z.2.1) hf
          have e2 : t_letters_13 = t_letters_o := congrArg (fun z => z.2.2.1) hf
          have e3 : t_heats_14 = t_heats_o := congrArg (fun z => z.2.2.2.1) hf
          have e4 : t_starts_15 = t_starts_o := congrArg (fun z => z.2.2.2.2.1) hf
          have e5 : t_families_16 = t_families_o := congrArg (fun z => z.2.2.2.2.2.1) hf
          have e6 : t_generations_17 = t_generations_o := congrArg (fun z => z.2.2.2.2.2.2.1) hf
          have e7 : t_stories_18 = t_stories_o := congrArg (fun z => z.2.2.2.2.2.2.2.1) hf
          have e8 : t_nextFamily_19 = t_nextFamily_o := congrArg (fun z => z.2.2.2.2.2.2.2.2.1) hf
          have e9 : t_splits_20 = t_splits_o := congrArg (fun z => z.2.2.2.2.2.2.2.2.2.1) hf
          have e10 : t_boilings_21 = t_boilings_o := congrArg (fun z => z.2.2.2.2.2.2.2.2.2.2.1) hf
          have e11 : t_fizzles_22 = t_fizzles_o := congrArg (fun z => z.2.2.2.2.2.2.2.2.2.2.2) hf
          exact hret _ _ _ _ _ e0 (by rw [← e1, ← e2, ← e3, ← e4, ← e5, ← e6, ← e7, ← e8, ← e9, ← e10, ← e11]; exact hG) dX3_ifHeated_102
        have hf := if_e cv24_1 hf
        by_cases cv24_2 : v24 = nI 2
        · subst cv24_2
          have hf := it_e rfl hf
          refine lv_tableIn (tgt := 103) hx hb dX3_ifHeated_58 (by decide) (by decide) rfl (by decide) ?_
          refine lv_aload_n hx hb dX3_ifHeated_103 rfl (lv_at hl 1 rfl) ?_
          refine w_get3 F hK hG k1 0 rfl 1 (by decide) k4 rfl dX3_ifHeated_104 ?_
          refine w_get2 F hK hG k3 15 rfl 7 (by decide) k6 rfl dX3_ifHeated_107 ?_
          have hf := so_e hf
          have e0 : t_stories_18 = ro := congrArg (fun z => z.1) hf
          have e1 : t_settings_12 = t_settings_o := congrArg (fun z => z.2.1) hf
          have e2 : t_letters_13 = t_letters_o := congrArg (fun z => z.2.2.1) hf
          have e3 : t_heats_14 = t_heats_o := congrArg (fun z => z.2.2.2.1) hf
          have e4 : t_starts_15 = t_starts_o := congrArg (fun z => z.2.2.2.2.1) hf
          have e5 : t_families_16 = t_families_o := congrArg (fun z => z.2.2.2.2.2.1) hf
          have e6 : t_generations_17 = t_generations_o := congrArg (fun z => z.2.2.2.2.2.2.1) hf
          have e7 : t_stories_18 = t_stories_o := congrArg (fun z => z.2.2.2.2.2.2.2.1) hf
          have e8 : t_nextFamily_19 = t_nextFamily_o := congrArg (fun z => z.2.2.2.2.2.2.2.2.1) hf
          have e9 : t_splits_20 = t_splits_o := congrArg (fun z => z.2.2.2.2.2.2.2.2.2.1) hf
          have e10 : t_boilings_21 = t_boilings_o := congrArg (fun z => z.2.2.2.2.2.2.2.2.2.2.1) hf
          have e11 : t_fizzles_22 = t_fizzles_o := congrArg (fun z => z.2.2.2.2.2.2.2.2.2.2.2) hf
          exact hret _ _ _ _ _ e0 (by rw [← e1, ← e2, ← e3, ← e4, ← e5, ← e6, ← e7, ← e8, ← e9, ← e10, ← e11]; exact hG) dX3_ifHeated_110
        have hf := if_e cv24_2 hf
        refine lv_tableOut (tgt := 111) hx hb dX3_ifHeated_58 (tsw 2 (by decide) (fun k hk => ?_)) (by decide) ?_
        · rcases (show k = 0 ∨ k = 1 ∨ k = 2 by omega) with rfl | rfl | rfl
          · exact cv24_0
          · exact cv24_1
          · exact cv24_2
        refine lv_aload_n hx hb dX3_ifHeated_111 rfl (lv_at hl 1 rfl) ?_
        refine w_get3 F hK hG k1 0 rfl 1 (by decide) k4 rfl dX3_ifHeated_112 ?_
        obtain ⟨r25, h26, hf⟩ := bd1_e hf
        have hG : GG D A s.heap ((w_X2 y ta t_settings_12 t_letters_13 t_heats_14 t_starts_15 t_families_16 t_generations_17 t_tally t_stories_18 t_nextFamily_19 t_splits_20 t_boilings_21 t_fizzles_22) ++ (w_X3 y a pa na ta ha sl q_saved q_runs q_themes q_storyHeats ++ (w_X1 y pa p_characters p_length ++ (w_X2 y na n_settings n_letters n_heats n_starts n_families n_generations n_tally n_stories n_nextFamily n_splits n_boilings n_fizzles ++ (w_X0 y ha hsb h_v h_oldest h_size ++ (w_SL y sl ssb s_v)))))) H locs := GG.blk (fun k => match k with | 0 => w_X3 y a pa na ta ha sl q_saved q_runs q_themes q_storyHeats | 1 => w_X1 y pa p_characters p_length | 2 => w_X2 y na n_settings n_letters n_heats n_starts n_families n_generations n_tally n_stories n_nextFamily n_splits n_boilings n_fizzles | 3 => w_X2 y ta t_settings_12 t_letters_13 t_heats_14 t_starts_15 t_families_16 t_generations_17 t_tally t_stories_18 t_nextFamily_19 t_splits_20 t_boilings_21 t_fizzles_22 | 4 => w_X0 y ha hsb h_v h_oldest h_size | _ => w_SL y sl ssb s_v) [0, 1, 2, 3, 4, 5] [3, 0, 1, 2, 4, 5] (blkp _ _ rfl) _ _ rfl rfl hG
        refine k_Pi F hK hA hG (c_X2_heatOfAll l D y ta H.size Fu t_settings_12 t_letters_13 t_heats_14 t_starts_15 t_families_16 t_generations_17 t_tally t_stories_18 t_nextFamily_19 t_splits_20 t_boilings_21 t_fizzles_22 r25 h26) (cwV 0 F.2.2.2.2 gX3_ifHeated_X2_heatOfAll rfl rfl rfl (by decide +kernel) ⟨Nat.le_of_ble_eq_true rfl, Nat.le_of_ble_eq_true rfl⟩) 0 rfl rfl rfl rfl rfl hl.1 (Nat.le_of_ble_eq_true rfl) dX3_ifHeated_115 ⟨Nat.le_refl 0, Nat.le_refl 0⟩ (fun H locs hG => ?_)
        have hG : GG D A s.heap (w_X3 y a pa na ta ha sl q_saved q_runs q_themes q_storyHeats ++ (w_X1 y pa p_characters p_length ++ (w_X2 y na n_settings n_letters n_heats n_starts n_families n_generations n_tally n_stories n_nextFamily n_splits n_boilings n_fizzles ++ (w_X2 y ta t_settings_12 t_letters_13 t_heats_14 t_starts_15 t_families_16 t_generations_17 t_tally t_stories_18 t_nextFamily_19 t_splits_20 t_boilings_21 t_fizzles_22 ++ (w_X0 y ha hsb h_v h_oldest h_size ++ w_SL y sl ssb s_v))))) H locs := GG.blk (fun k => match k with | 0 => w_X3 y a pa na ta ha sl q_saved q_runs q_themes q_storyHeats | 1 => w_X1 y pa p_characters p_length | 2 => w_X2 y na n_settings n_letters n_heats n_starts n_families n_generations n_tally n_stories n_nextFamily n_splits n_boilings n_fizzles | 3 => w_X2 y ta t_settings_12 t_letters_13 t_heats_14 t_starts_15 t_families_16 t_generations_17 t_tally t_stories_18 t_nextFamily_19 t_splits_20 t_boilings_21 t_fizzles_22 | 4 => w_X0 y ha hsb h_v h_oldest h_size | _ => w_SL y sl ssb s_v) [3, 0, 1, 2, 4, 5] [0, 1, 2, 3, 4, 5] (blkp _ _ rfl) _ _ rfl rfl hG
        have hf := so_e hf
        have e0 : r25 = ro := congrArg (fun z => z.1) hf
        have e1 : t_settings_12 = t_settings_o := congrArg (fun z => z.2.1) hf
        have e2 : t_letters_13 = t_letters_o := congrArg (fun z => z.2.2.1) hf
        have e3 : t_heats_14 = t_heats_o := congrArg (fun z => z.2.2.2.1) hf
        have e4 : t_starts_15 = t_starts_o := congrArg (fun z => z.2.2.2.2.1) hf
        have e5 : t_families_16 = t_families_o := congrArg (fun z => z.2.2.2.2.2.1) hf
        have e6 : t_generations_17 = t_generations_o := congrArg (fun z => z.2.2.2.2.2.2.1) hf
        have e7 : t_stories_18 = t_stories_o := congrArg (fun z => z.2.2.2.2.2.2.2.1) hf
        have e8 : t_nextFamily_19 = t_nextFamily_o := congrArg (fun z => z.2.2.2.2.2.2.2.2.1) hf
        have e9 : t_splits_20 = t_splits_o := congrArg (fun z => z.2.2.2.2.2.2.2.2.2.1) hf
        have e10 : t_boilings_21 = t_boilings_o := congrArg (fun z => z.2.2.2.2.2.2.2.2.2.2.1) hf
        have e11 : t_fizzles_22 = t_fizzles_o := congrArg (fun z => z.2.2.2.2.2.2.2.2.2.2.2) hf
        exact hret _ _ _ _ _ e0 (by rw [← e1, ← e2, ← e3, ← e4, ← e5, ← e6, ← e7, ← e8, ← e9, ← e10, ← e11]; exact hG) dX3_ifHeated_118
      · have hf := it_e c9 hf
        refine lv_bipush (v := -2) hx hb dX3_ifHeated_35 rfl ?_
        have hf := so_e hf
        have e0 : (-2) = ro := congrArg (fun z => z.1) hf
        have e1 : t_settings = t_settings_o := congrArg (fun z => z.2.1) hf
        have e2 : t_letters = t_letters_o := congrArg (fun z => z.2.2.1) hf
        have e3 : t_heats = t_heats_o := congrArg (fun z => z.2.2.2.1) hf
        have e4 : t_starts = t_starts_o := congrArg (fun z => z.2.2.2.2.1) hf
        have e5 : t_families = t_families_o := congrArg (fun z => z.2.2.2.2.2.1) hf
        have e6 : t_generations = t_generations_o := congrArg (fun z => z.2.2.2.2.2.2.1) hf
        have e7 : t_stories = t_stories_o := congrArg (fun z => z.2.2.2.2.2.2.2.1) hf
        have e8 : t_nextFamily = t_nextFamily_o := congrArg (fun z => z.2.2.2.2.2.2.2.2.1) hf
        have e9 : t_splits = t_splits_o := congrArg (fun z => z.2.2.2.2.2.2.2.2.2.1) hf
        have e10 : t_boilings = t_boilings_o := congrArg (fun z => z.2.2.2.2.2.2.2.2.2.2.1) hf
        have e11 : t_fizzles = t_fizzles_o := congrArg (fun z => z.2.2.2.2.2.2.2.2.2.2.2) hf
        exact hret _ _ _ _ _ e0 (by rw [← e1, ← e2, ← e3, ← e4, ← e5, ← e6, ← e7, ← e8, ← e9, ← e10, ← e11]; exact hG) dX3_ifHeated_37
  · have hf := it_e c3 hf
    refine lv_iconst (v := -1) hx hb dX3_ifHeated_12 rfl ?_
    have hf := so_e hf
    have e0 : (-1) = ro := congrArg (fun z => z.1) hf
    have e1 : t_settings = t_settings_o := congrArg (fun z => z.2.1) hf
    have e2 : t_letters = t_letters_o := congrArg (fun z => z.2.2.1) hf
    have e3 : t_heats = t_heats_o := congrArg (fun z => z.2.2.2.1) hf
    have e4 : t_starts = t_starts_o := congrArg (fun z => z.2.2.2.2.1) hf
    have e5 : t_families = t_families_o := congrArg (fun z => z.2.2.2.2.2.1) hf
    have e6 : t_generations = t_generations_o := congrArg (fun z => z.2.2.2.2.2.2.1) hf
    have e7 : t_stories = t_stories_o := congrArg (fun z => z.2.2.2.2.2.2.2.1) hf
    have e8 : t_nextFamily = t_nextFamily_o := congrArg (fun z => z.2.2.2.2.2.2.2.2.1) hf
    have e9 : t_splits = t_splits_o := congrArg (fun z => z.2.2.2.2.2.2.2.2.2.1) hf
    have e10 : t_boilings = t_boilings_o := congrArg (fun z => z.2.2.2.2.2.2.2.2.2.2.1) hf
    have e11 : t_fizzles = t_fizzles_o := congrArg (fun z => z.2.2.2.2.2.2.2.2.2.2.2) hf
    exact hret _ _ _ _ _ e0 (by rw [← e1, ← e2, ← e3, ← e4, ← e5, ← e6, ← e7, ← e8, ← e9, ← e10, ← e11]; exact hG) dX3_ifHeated_13
