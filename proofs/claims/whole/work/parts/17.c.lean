set_option maxHeartbeats 1000000 in
set_option maxRecDepth 100000 in
theorem c_X3_critical (l : Launch) (D : va_G) (y : Nat → ClassId) (a pa na ta ha : Nat → Nat) (hsb : Nat → Nat → Nat) (sl : Nat) (ssb : Nat → Nat → Nat) (sz : Nat) (Fu : Nat) (q_saved : Ar) (q_runs : Ar) (q_themes : Ar) (q_storyHeats : Ar) (p_characters : Ar) (p_length : Int32) (n_settings : Ar) (n_letters : Ar) (n_heats : Ar) (n_starts : Ar) (n_families : Ar) (n_generations : Ar) (n_tally : Ar) (n_stories : Int32) (n_nextFamily : Int32) (n_splits : Int32) (n_boilings : Int32) (n_fizzles : Int32) (t_settings : Ar) (t_letters : Ar) (t_heats : Ar) (t_starts : Ar) (t_families : Ar) (t_generations : Ar) (t_tally : Ar) (t_stories : Int32) (t_nextFamily : Int32) (t_splits : Int32) (t_boilings : Int32) (t_fizzles : Int32) (h_v : (Nat → SV)) (h_oldest : Int32) (h_size : Int32) (s_v : (Nat → SV)) (p1 : Int32) (p2 : Int32) (ro : Int32) (t_settings_o : Ar) (t_letters_o : Ar) (t_heats_o : Ar) (t_starts_o : Ar) (t_families_o : Ar) (t_generations_o : Ar) (t_stories_o : Int32) (t_nextFamily_o : Int32) (t_splits_o : Int32) (t_boilings_o : Int32) (t_fizzles_o : Int32) (hf : f_X3_critical Fu n_settings n_letters n_heats n_starts n_families n_generations n_stories n_nextFamily n_splits n_boilings n_fizzles t_settings t_letters t_heats t_starts t_families t_generations t_stories t_nextFamily t_splits t_boilings t_fizzles p1 p2 = some (ro, t_settings_o, t_letters_o, t_heats_o, t_starts_o, t_families_o, t_generations_o, t_stories_o, t_nextFamily_o, t_splits_o, t_boilings_o, t_fizzles_o)) : MI l yX3_critical wsX3_critical 5 132 [.ref (a 0), .int p1, .int p2] D y (w_X3 y a pa na ta ha sl q_saved q_runs q_themes q_storyHeats ++ (w_X1 y pa p_characters p_length ++ (w_X2 y na n_settings n_letters n_heats n_starts n_families n_generations n_tally n_stories n_nextFamily n_splits n_boilings n_fizzles ++ (w_X2 y ta t_settings t_letters t_heats t_starts t_families t_generations t_tally t_stories t_nextFamily t_splits t_boilings t_fizzles ++ (w_X0 y ha hsb h_v h_oldest h_size ++ w_SL y sl ssb s_v))))) sz ro (w_X3 y a pa na ta ha sl q_saved q_runs q_themes q_storyHeats ++ (w_X1 y pa p_characters p_length ++ (w_X2 y na n_settings n_letters n_heats n_starts n_families n_generations n_tally n_stories n_nextFamily n_splits n_boilings n_fizzles ++ (w_X2 y ta t_settings_o t_letters_o t_heats_o t_starts_o t_families_o t_generations_o t_tally t_stories_o t_nextFamily_o t_splits_o t_boilings_o t_fizzles_o ++ (w_X0 y ha hsb h_v h_oldest h_size ++ w_SL y sl ssb s_v))))) := by
  refine M_i (cc := cX3_critical) (maxL := 7) (own := RX3) (by decide) rfl rfl (Nat.le_of_ble_eq_true rfl) ?_
  intro p e s m args below meth c A Q F hK hA H locs hG hret ls hl
  have hx := F.1
  have hb := F.2.1
  have hl : lv_has ls 7 [(0, .ref (a 0)), (1, .int p1), (2, .int p2)] := hl
  have k0 := F.2.2.2.2 (.fieldLink RX3 10 "HeatedStories" "now" "LHeatedStories$Shelf;") (List.mem_of_getElem? (i := 1) rfl)
  have k1 : ∀ w ∈ wsX30, w ∈ wsX3_critical := (fun w h => List.mem_cons_of_mem _ (List.mem_append_left _ (List.mem_append_right _ (h))))
  have k2 := F.2.2.2.2 (.fieldLink RX3 98 "HeatedStories$Shelf" "starts" "[I") (List.mem_of_getElem? (i := 2) rfl)
  have k3 : ∀ w ∈ wsX20, w ∈ wsX3_critical := (fun w h => List.mem_cons_of_mem _ (List.mem_append_right _ (h)))
  have k4 := F.2.2.2.2 (.fieldLink RX3 65 "HeatedStories$Shelf" "settings" "[I") (List.mem_of_getElem? (i := 3) rfl)
  have k5 := F.2.2.2.2 (.fieldLink RX3 133 "HeatedStories$Shelf" "heats" "[I") (List.mem_of_getElem? (i := 4) rfl)
  have k6 := F.2.2.2.2 (.methodLink RX3 127 Lib.Math.max.name) (List.mem_of_getElem? (i := 5) rfl)
  have k7 := F.2.2.2.2 (.static Lib.Math.max.name) (List.mem_of_getElem? (i := 6) rfl)
  have k8 := F.2.2.2.2 (.initialized "java/lang/Math") (List.mem_of_getElem? (i := 7) rfl)
  have k9 := F.2.2.2.2 (.code Lib.Math.max.name Lib.Math.max.code 2 (some .int)) (List.mem_of_getElem? (i := 8) rfl)
  have k10 := F.2.2.2.2 (.fieldLink RX3 16 "HeatedStories" "trial" "LHeatedStories$Shelf;") (List.mem_of_getElem? (i := 9) rfl)
  have k11 := F.2.2.2.2 (.fieldLink RX3 166 "HeatedStories$Shelf" "splits" "I") (List.mem_of_getElem? (i := 10) rfl)
  unfold f_X3_critical at hf
  refine lv_aload_n hx hb dX3_critical_0 rfl (lv_at hl 0 rfl) ?_
  refine w_get3 F hK hG k1 0 rfl 0 (by decide) k0 rfl dX3_critical_1 ?_
  refine lv_iload_n hx hb dX3_critical_4 rfl (lv_at hl 1 rfl) ?_
  refine lv_iload_n hx hb dX3_critical_5 rfl (lv_at hl 2 rfl) ?_
  obtain ⟨r1, h2, hf⟩ := bd1_e hf
  have hG : GG D A s.heap ((w_X2 y na n_settings n_letters n_heats n_starts n_families n_generations n_tally n_stories n_nextFamily n_splits n_boilings n_fizzles) ++ (w_X3 y a pa na ta ha sl q_saved q_runs q_themes q_storyHeats ++ (w_X1 y pa p_characters p_length ++ (w_X2 y ta t_settings t_letters t_heats t_starts t_families t_generations t_tally t_stories t_nextFamily t_splits t_boilings t_fizzles ++ (w_X0 y ha hsb h_v h_oldest h_size ++ (w_SL y sl ssb s_v)))))) H locs := GG.blk (fun k => match k with | 0 => w_X3 y a pa na ta ha sl q_saved q_runs q_themes q_storyHeats | 1 => w_X1 y pa p_characters p_length | 2 => w_X2 y na n_settings n_letters n_heats n_starts n_families n_generations n_tally n_stories n_nextFamily n_splits n_boilings n_fizzles | 3 => w_X2 y ta t_settings t_letters t_heats t_starts t_families t_generations t_tally t_stories t_nextFamily t_splits t_boilings t_fizzles | 4 => w_X0 y ha hsb h_v h_oldest h_size | _ => w_SL y sl ssb s_v) [0, 1, 2, 3, 4, 5] [2, 0, 1, 3, 4, 5] (blkp _ _ rfl) _ _ rfl rfl hG
  refine k_Pi F hK hA hG (c_X2_hasWord l D y na H.size Fu n_settings n_letters n_heats n_starts n_families n_generations n_tally n_stories n_nextFamily n_splits n_boilings n_fizzles p1 p2 r1 h2) (cwV 2 F.2.2.2.2 gX3_critical_X2_hasWord rfl rfl rfl (by decide +kernel) ⟨Nat.le_of_ble_eq_true rfl, Nat.le_of_ble_eq_true rfl⟩) 0 rfl rfl rfl rfl rfl hl.1 (Nat.le_of_ble_eq_true rfl) dX3_critical_6 ⟨Nat.le_refl 0, Nat.le_refl 0⟩ (fun H locs hG => ?_)
  have hG : GG D A s.heap (w_X3 y a pa na ta ha sl q_saved q_runs q_themes q_storyHeats ++ (w_X1 y pa p_characters p_length ++ (w_X2 y na n_settings n_letters n_heats n_starts n_families n_generations n_tally n_stories n_nextFamily n_splits n_boilings n_fizzles ++ (w_X2 y ta t_settings t_letters t_heats t_starts t_families t_generations t_tally t_stories t_nextFamily t_splits t_boilings t_fizzles ++ (w_X0 y ha hsb h_v h_oldest h_size ++ w_SL y sl ssb s_v))))) H locs := GG.blk (fun k => match k with | 0 => w_X3 y a pa na ta ha sl q_saved q_runs q_themes q_storyHeats | 1 => w_X1 y pa p_characters p_length | 2 => w_X2 y na n_settings n_letters n_heats n_starts n_families n_generations n_tally n_stories n_nextFamily n_splits n_boilings n_fizzles | 3 => w_X2 y ta t_settings t_letters t_heats t_starts t_families t_generations t_tally t_stories t_nextFamily t_splits t_boilings t_fizzles | 4 => w_X0 y ha hsb h_v h_oldest h_size | _ => w_SL y sl ssb s_v) [2, 0, 1, 3, 4, 5] [0, 1, 2, 3, 4, 5] (blkp _ _ rfl) _ _ rfl rfl hG
  refine lv_if_ne (tgt := 14) hx hb dX3_critical_9 (by decide) (fun c3 => ?_) (fun c3 => ?_)
  · have hf := if_e c3 hf
    refine lv_aload_n hx hb dX3_critical_14 rfl (lv_at hl 0 rfl) ?_
    refine w_get3 F hK hG k1 0 rfl 0 (by decide) k0 rfl dX3_critical_15 ?_
    refine w_get2 F hK hG k3 7 rfl 3 (by decide) k2 rfl dX3_critical_18 ?_
    refine lv_iload_n hx hb dX3_critical_21 rfl (lv_at hl 1 rfl) ?_
    obtain ⟨g4, hf⟩ := gd_e hf
    refine w_iald F hK hG 11 rfl g4 dX3_critical_22 ?_
    refine lv_iload_n hx hb dX3_critical_23 rfl (lv_at hl 2 rfl) ?_
    refine lv_iadd hx hb dX3_critical_24 ?_
    obtain ⟨v5, ev5, hf⟩ := nm_o hf
    refine w_nm ev5 ?_
    refine lv_istore_n (lv' := [(3, .int v5), (0, .ref (a 0)), (1, .int p1), (2, .int p2)]) hx hb dX3_critical_25 rfl hl (by decide) rfl (fun ls hl => ?_)
    refine lv_iconst (v := nI 1) hx hb dX3_critical_26 rfl ?_
    refine lv_aload_n hx hb dX3_critical_27 rfl (lv_at hl 1 rfl) ?_
    refine w_get3 F hK hG k1 0 rfl 0 (by decide) k0 rfl dX3_critical_28 ?_
    refine w_get2 F hK hG k3 7 rfl 0 (by decide) k4 rfl dX3_critical_31 ?_
    refine lv_iconst (v := nI 0) hx hb dX3_critical_34 rfl ?_
    refine w_ialdk F hK hG 8 rfl (Nat.le_of_ble_eq_true rfl) (Nat.le_of_ble_eq_true rfl) dX3_critical_35 ?_
    refine lv_aload_n hx hb dX3_critical_36 rfl (lv_at hl 1 rfl) ?_
    refine w_get3 F hK hG k1 0 rfl 0 (by decide) k0 rfl dX3_critical_37 ?_
    refine w_get2 F hK hG k3 7 rfl 2 (by decide) k5 rfl dX3_critical_40 ?_
    refine lv_iload_n hx hb dX3_critical_43 rfl (lv_at hl 0 rfl) ?_
    obtain ⟨g6, hf⟩ := gd_e hf
    refine w_iald F hK hG 10 rfl g6 dX3_critical_44 ?_
    refine lv_isub hx hb dX3_critical_45 ?_
    refine w_max F hl.1 k6 k7 k8 k9 ⟨Nat.le_of_ble_eq_true rfl, Nat.le_of_ble_eq_true rfl⟩ ⟨Nat.le_refl 0, Nat.le_refl 0⟩ dX3_critical_46 ?_
    obtain ⟨v7, ev7, hf⟩ := nm_o hf
    refine w_nm ev7 ?_
    refine lv_istore (lv' := [(4, .int v7), (3, .int v5), (0, .ref (a 0)), (1, .int p1), (2, .int p2)]) hx hb dX3_critical_49 hl (by decide) rfl (fun ls hl => ?_)
    refine lv_aload_n hx hb dX3_critical_51 rfl (lv_at hl 2 rfl) ?_
    refine w_get3 F hK hG k1 0 rfl 0 (by decide) k0 rfl dX3_critical_52 ?_
    obtain ⟨r8, h9, hf⟩ := bd1_e hf
    have hG : GG D A s.heap ((w_X2 y na n_settings n_letters n_heats n_starts n_families n_generations n_tally n_stories n_nextFamily n_splits n_boilings n_fizzles) ++ (w_X3 y a pa na ta ha sl q_saved q_runs q_themes q_storyHeats ++ (w_X1 y pa p_characters p_length ++ (w_X2 y ta t_settings t_letters t_heats t_starts t_families t_generations t_tally t_stories t_nextFamily t_splits t_boilings t_fizzles ++ (w_X0 y ha hsb h_v h_oldest h_size ++ (w_SL y sl ssb s_v)))))) H locs := GG.blk (fun k => match k with | 0 => w_X3 y a pa na ta ha sl q_saved q_runs q_themes q_storyHeats | 1 => w_X1 y pa p_characters p_length | 2 => w_X2 y na n_settings n_letters n_heats n_starts n_families n_generations n_tally n_stories n_nextFamily n_splits n_boilings n_fizzles | 3 => w_X2 y ta t_settings t_letters t_heats t_starts t_families t_generations t_tally t_stories t_nextFamily t_splits t_boilings t_fizzles | 4 => w_X0 y ha hsb h_v h_oldest h_size | _ => w_SL y sl ssb s_v) [0, 1, 2, 3, 4, 5] [2, 0, 1, 3, 4, 5] (blkp _ _ rfl) _ _ rfl rfl hG
    refine k_Pi F hK hA hG (c_X2_isCalm l D y na H.size Fu n_settings n_letters n_heats n_starts n_families n_generations n_tally n_stories n_nextFamily n_splits n_boilings n_fizzles r8 h9) (cwV 0 F.2.2.2.2 gX3_critical_X2_isCalm rfl rfl rfl (by decide +kernel) ⟨Nat.le_of_ble_eq_true rfl, Nat.le_of_ble_eq_true rfl⟩) 0 rfl rfl rfl rfl rfl hl.1 (Nat.le_of_ble_eq_true rfl) dX3_critical_55 ⟨Nat.le_refl 0, Nat.le_refl 0⟩ (fun H locs hG => ?_)
    have hG : GG D A s.heap (w_X3 y a pa na ta ha sl q_saved q_runs q_themes q_storyHeats ++ (w_X1 y pa p_characters p_length ++ (w_X2 y na n_settings n_letters n_heats n_starts n_families n_generations n_tally n_stories n_nextFamily n_splits n_boilings n_fizzles ++ (w_X2 y ta t_settings t_letters t_heats t_starts t_families t_generations t_tally t_stories t_nextFamily t_splits t_boilings t_fizzles ++ (w_X0 y ha hsb h_v h_oldest h_size ++ w_SL y sl ssb s_v))))) H locs := GG.blk (fun k => match k with | 0 => w_X3 y a pa na ta ha sl q_saved q_runs q_themes q_storyHeats | 1 => w_X1 y pa p_characters p_length | 2 => w_X2 y na n_settings n_letters n_heats n_starts n_families n_generations n_tally n_stories n_nextFamily n_splits n_boilings n_fizzles | 3 => w_X2 y ta t_settings t_letters t_heats t_starts t_families t_generations t_tally t_stories t_nextFamily t_splits t_boilings t_fizzles | 4 => w_X0 y ha hsb h_v h_oldest h_size | _ => w_SL y sl ssb s_v) [2, 0, 1, 3, 4, 5] [0, 1, 2, 3, 4, 5] (blkp _ _ rfl) _ _ rfl rfl hG
    obtain ⟨v11, ev11, hf⟩ := nm_o hf
    have hJ : ∀ (ls : Array Slot), lv_has ls 7 [(0, .ref (a 0)), (3, .int v5), (4, .int v7)] → W p l e (RM 5 132) s m args below meth c H locs 0 0 Q (F0 m 67 ls [.int v11]) := by
      intro ls hl
      refine lv_istore (lv' := [(5, .int v11), (0, .ref (a 0)), (3, .int v5), (4, .int v7)]) hx hb dX3_critical_67 hl (by decide) rfl (fun ls hl => ?_)
      refine lv_iload hx hb dX3_critical_69 (lv_at hl 0 rfl) ?_
      refine lv_istore (lv' := [(6, .int v11), (5, .int v11), (0, .ref (a 0)), (3, .int v5), (4, .int v7)]) hx hb dX3_critical_71 hl (by decide) rfl (fun ls hl => ?_)
      have hL73 : ∀ (fu : Nat) (x12 : Int32) (t_settings_13 : Ar) (t_letters_14 : Ar) (t_heats_15 : Ar) (t_starts_16 : Ar) (t_families_17 : Ar) (t_generations_18 : Ar) (t_stories_19 : Int32) (t_nextFamily_20 : Int32) (t_splits_21 : Int32) (t_boilings_22 : Int32) (t_fizzles_23 : Int32) (H : Heap) (locs : List Loc) (ls : Array Slot), f_X3_critical_L73 Fu n_settings n_letters n_heats n_starts n_families n_generations n_stories n_nextFamily n_splits n_boilings n_fizzles v5 v7 fu x12 t_settings_13 t_letters_14 t_heats_15 t_starts_16 t_families_17 t_generations_18 t_stories_19 t_nextFamily_20 t_splits_21 t_boilings_22 t_fizzles_23 = some (ro, t_settings_o, t_letters_o, t_heats_o, t_starts_o, t_families_o, t_generations_o, t_stories_o, t_nextFamily_o, t_splits_o, t_boilings_o, t_fizzles_o) → GG D A s.heap (w_X3 y a pa na ta ha sl q_saved q_runs q_themes q_storyHeats ++ (w_X1 y pa p_characters p_length ++ (w_X2 y na n_settings n_letters n_heats n_starts n_families n_generations n_tally n_stories n_nextFamily n_splits n_boilings n_fizzles ++ (w_X2 y ta t_settings_13 t_letters_14 t_heats_15 t_starts_16 t_families_17 t_generations_18 t_tally t_stories_19 t_nextFamily_20 t_splits_21 t_boilings_22 t_fizzles_23 ++ (w_X0 y ha hsb h_v h_oldest h_size ++ w_SL y sl ssb s_v))))) H locs → lv_has ls 7 [(0, .ref (a 0)), (3, .int v5), (4, .int v7), (6, .int x12)] → W p l e (RM 5 132) s m args below meth c H locs 0 0 Q (F0 m 73 ls []) := by
        intro fu
        induction fu with
        | zero => intro x12 t_settings_13 t_letters_14 t_heats_15 t_starts_16 t_families_17 t_generations_18 t_stories_19 t_nextFamily_20 t_splits_21 t_boilings_22 t_fizzles_23 H locs ls hf hG hl; exact no_e hf
        | succ fu ih =>
          intro x12 t_settings_13 t_letters_14 t_heats_15 t_starts_16 t_families_17 t_generations_18 t_stories_19 t_nextFamily_20 t_splits_21 t_boilings_22 t_fizzles_23 H locs ls hf hG hl
          rw [f_X3_critical_L73_s] at hf
          refine lv_iload hx hb dX3_critical_73 (lv_at hl 3 rfl) ?_
          refine lv_iload hx hb dX3_critical_75 (lv_at hl 2 rfl) ?_
          refine lv_icmp_gt (tgt := 114) hx hb dX3_critical_77 (by decide) (fun c24 => ?_) (fun c24 => ?_)
          · have hf := it_e c24 hf
            refine lv_bipush (v := -6) hx hb dX3_critical_114 rfl ?_
            have hf := so_e hf
            have e0 : (-6) = ro := congrArg (fun z => z.1) hf
            have e1 : t_settings_13 = t_settings_o := congrArg (fun z => z.2.1) hf
            have e2 : t_letters_14 = t_letters_o := congrArg (fun z => z.2.2.1) hf
            have e3 : t_heats_15 = t_heats_o := congrArg (fun z => z.2.2.2.1) hf
            have e4 : t_starts_16 = t_starts_o := congrArg (fun z => z.2.2.2.2.1) hf
            have e5 : t_families_17 = t_families_o := congrArg (fun z => z.2.2.2.2.2.1) hf
            have e6 : t_generations_18 = t_generations_o := congrArg (fun z => z.2.2.2.2.2.2.1) hf
            have e7 : t_stories_19 = t_stories_o := congrArg (fun z => z.2.2.2.2.2.2.2.1) hf
            have e8 : t_nextFamily_20 = t_nextFamily_o := congrArg (fun z => z.2.2.2.2.2.2.2.2.1) hf
            have e9 : t_splits_21 = t_splits_o := congrArg (fun z => z.2.2.2.2.2.2.2.2.2.1) hf
            have e10 : t_boilings_22 = t_boilings_o := congrArg (fun z => z.2.2.2.2.2.2.2.2.2.2.1) hf
            have e11 : t_fizzles_23 = t_fizzles_o := congrArg (fun z => z.2.2.2.2.2.2.2.2.2.2.2) hf
            exact hret _ _ _ _ _ e0 (by rw [← e1, ← e2, ← e3, ← e4, ← e5, ← e6, ← e7, ← e8, ← e9, ← e10, ← e11]; exact hG) dX3_critical_116
          · have hf := if_e c24 hf
            refine lv_aload_n hx hb dX3_critical_80 rfl (lv_at hl 0 rfl) ?_
            refine lv_iload_n hx hb dX3_critical_81 rfl (lv_at hl 1 rfl) ?_
            refine lv_iload hx hb dX3_critical_82 (lv_at hl 3 rfl) ?_
            obtain ⟨r25, t_settings_26, t_letters_27, t_heats_28, t_starts_29, t_families_30, t_generations_31, t_stories_32, t_nextFamily_33, t_splits_34, t_boilings_35, t_fizzles_36, h37, hf⟩ := bd12_e hf
            refine k_Wi F hK hA hG (c_X3_tryHeating l D y a pa na ta ha hsb sl ssb H.size Fu q_saved q_runs q_themes q_storyHeats p_characters p_length n_settings n_letters n_heats n_starts n_families n_generations n_tally n_stories n_nextFamily n_splits n_boilings n_fizzles t_settings_13 t_letters_14 t_heats_15 t_starts_16 t_families_17 t_generations_18 t_tally t_stories_19 t_nextFamily_20 t_splits_21 t_boilings_22 t_fizzles_23 h_v h_oldest h_size s_v v5 x12 r25 t_settings_26 t_letters_27 t_heats_28 t_starts_29 t_families_30 t_generations_31 t_stories_32 t_nextFamily_33 t_splits_34 t_boilings_35 t_fizzles_36 h37) (cwV 2 F.2.2.2.2 gX3_critical_X3_tryHeating rfl rfl rfl (by decide +kernel) ⟨Nat.le_of_ble_eq_true rfl, Nat.le_of_ble_eq_true rfl⟩) 0 rfl rfl rfl rfl rfl hl.1 (Nat.le_of_ble_eq_true rfl) dX3_critical_84 ⟨Nat.le_refl 0, Nat.le_refl 0⟩ (fun H locs hG => ?_)
            refine lv_pop hx hb dX3_critical_87 rfl ?_
            refine lv_aload_n hx hb dX3_critical_88 rfl (lv_at hl 0 rfl) ?_
            refine w_get3 F hK hG k1 0 rfl 1 (by decide) k10 rfl dX3_critical_89 ?_
            refine w_get2 F hK hG k3 15 rfl 9 (by decide) k11 rfl dX3_critical_92 ?_
            refine lv_aload_n hx hb dX3_critical_95 rfl (lv_at hl 0 rfl) ?_
            refine w_get3 F hK hG k1 0 rfl 0 (by decide) k0 rfl dX3_critical_96 ?_
            refine w_get2 F hK hG k3 7 rfl 9 (by decide) k11 rfl dX3_critical_99 ?_
            refine lv_icmp_le (tgt := 108) hx hb dX3_critical_102 (by decide) (fun c38 => ?_) (fun c38 => ?_)
            · have hf := it_e c38 hf
              refine lv_iinc (v := x12 + (nI 1)) (lv' := [(6, .int (x12 + (nI 1))), (0, .ref (a 0)), (3, .int v5), (4, .int v7)]) hx hb dX3_critical_108 hl (k := 3) rfl rfl (by decide) rfl (fun ls hl => ?_)
              refine lv_goto (tgt := 73) hx hb dX3_critical_111 (by decide) ?_
              exact ih (x12 + (nI 1)) t_settings_26 t_letters_27 t_heats_28 t_starts_29 t_families_30 t_generations_31 t_stories_32 t_nextFamily_33 t_splits_34 t_boilings_35 t_fizzles_36 _ _ ls hf hG (lv_sub hl [1, 2, 3, 0] rfl)
            · have hf := if_e c38 hf
              refine lv_iload hx hb dX3_critical_105 (lv_at hl 3 rfl) ?_
              have hf := so_e hf
              have e0 : x12 = ro := congrArg (fun z => z.1) hf
              have e1 : t_settings_26 = t_settings_o := congrArg (fun z => z.2.1) hf
              have e2 : t_letters_27 = t_letters_o := congrArg (fun z => z.2.2.1) hf
              have e3 : t_heats_28 = t_heats_o := congrArg (fun z => z.2.2.2.1) hf
              have e4 : t_starts_29 = t_starts_o := congrArg (fun z => z.2.2.2.2.1) hf
              have e5 : t_families_30 = t_families_o := congrArg (fun z => z.2.2.2.2.2.1) hf
              have e6 : t_generations_31 = t_generations_o := congrArg (fun z => z.2.2.2.2.2.2.1) hf
              have e7 : t_stories_32 = t_stories_o := congrArg (fun z => z.2.2.2.2.2.2.2.1) hf
              have e8 : t_nextFamily_33 = t_nextFamily_o := congrArg (fun z => z.2.2.2.2.2.2.2.2.1) hf
              have e9 : t_splits_34 = t_splits_o := congrArg (fun z => z.2.2.2.2.2.2.2.2.2.1) hf
              have e10 : t_boilings_35 = t_boilings_o := congrArg (fun z => z.2.2.2.2.2.2.2.2.2.2.1) hf
              have e11 : t_fizzles_36 = t_fizzles_o := congrArg (fun z => z.2.2.2.2.2.2.2.2.2.2.2) hf
              exact hret _ _ _ _ _ e0 (by rw [← e1, ← e2, ← e3, ← e4, ← e5, ← e6, ← e7, ← e8, ← e9, ← e10, ← e11]; exact hG) dX3_critical_107
      exact hL73 Fu v11 t_settings t_letters t_heats t_starts t_families t_generations t_stories t_nextFamily t_splits t_boilings t_fizzles _ _ ls hf hG (lv_sub hl [2, 3, 4, 0] rfl)
    refine lv_if_eq (tgt := 66) hx hb dX3_critical_58 (by decide) (fun c10 => ?_) (fun c10 => ?_)
    · refine lv_iconst (v := nI 1) hx hb dX3_critical_66 rfl ?_
      have qv11 := (ev11.trans (if_pos c10))
      subst qv11
      exact hJ ls (lv_sub hl [2, 1, 0] rfl)
    · refine lv_iload hx hb dX3_critical_61 (lv_at hl 0 rfl) ?_
      refine lv_goto (tgt := 67) hx hb dX3_critical_63 (by decide) ?_
      have qv11 := (ev11.trans (if_neg c10))
      subst qv11
      exact hJ ls (lv_sub hl [2, 1, 0] rfl)
  · have hf := it_e c3 hf
    refine lv_iconst (v := -1) hx hb dX3_critical_12 rfl ?_
    have hf := so_e hf
    have e0 : (-1) = ro := congrArg (fun z => z.1) hf
    have e1 : t_settings = t_settings_o := congrArg (fun z => z.2.1) hf
    have e2 : t_letters = t_letters_o := congrArg (fun z => z.2.2.1) hf
    have e3 : t_heats = t_heats_o := congrArg (fun z => z.2.2.2.1) hf
    have e4 : t_starts = t_starts_o := congrArg (fun z => z.2.2.2.2.1) hf
    have e5 : t_families = t_families_o := congrArg (fun z => z.2.2.2.2.2.1) hf
    have e6 : t_generations = t_generations_o := congrArg (fun z => z.2.2.2.2.2.2.1) hf
    have e7 : t_stories = t_stories_o := congrArg (fun z => z.2.2.2.2.2.2.2.1) hf
    have e8 : t_nextFamily = t_nextFamily_o := congrArg (fun z => z.2.2.2.2.2.2.2.2.1) hf
    have e9 : t_splits = t_splits_o := congrArg (fun z => z.2.2.2.2.2.2.2.2.2.1) hf
    have e10 : t_boilings = t_boilings_o := congrArg (fun z => z.2.2.2.2.2.2.2.2.2.2.1) hf
    have e11 : t_fizzles = t_fizzles_o := congrArg (fun z => z.2.2.2.2.2.2.2.2.2.2.2) hf
    exact hret _ _ _ _ _ e0 (by rw [← e1, ← e2, ← e3, ← e4, ← e5, ← e6, ← e7, ← e8, ← e9, ← e10, ← e11]; exact hG) dX3_critical_13
set_option maxHeartbeats 1000000 in
set_option maxRecDepth 100000 in
theorem c_X3_touchiest (l : Launch) (D : va_G) (y : Nat → ClassId) (a pa na ta ha : Nat → Nat) (hsb : Nat → Nat → Nat) (sl : Nat) (ssb : Nat → Nat → Nat) (sz : Nat) (Fu : Nat) (q_saved : Ar) (q_runs : Ar) (q_themes : Ar) (q_storyHeats : Ar) (p_characters : Ar) (p_length : Int32) (n_settings : Ar) (n_letters : Ar) (n_heats : Ar) (n_starts : Ar) (n_families : Ar) (n_generations : Ar) (n_tally : Ar) (n_stories : Int32) (n_nextFamily : Int32) (n_splits : Int32) (n_boilings : Int32) (n_fizzles : Int32) (t_settings : Ar) (t_letters : Ar) (t_heats : Ar) (t_starts : Ar) (t_families : Ar) (t_generations : Ar) (t_tally : Ar) (t_stories : Int32) (t_nextFamily : Int32) (t_splits : Int32) (t_boilings : Int32) (t_fizzles : Int32) (h_v : (Nat → SV)) (h_oldest : Int32) (h_size : Int32) (s_v : (Nat → SV)) (p1 : Int32) (p2 : Int32) (ro : Int32) (t_settings_o : Ar) (t_letters_o : Ar) (t_heats_o : Ar) (t_starts_o : Ar) (t_families_o : Ar) (t_generations_o : Ar) (t_stories_o : Int32) (t_nextFamily_o : Int32) (t_splits_o : Int32) (t_boilings_o : Int32) (t_fizzles_o : Int32) (hf : f_X3_touchiest Fu n_settings n_letters n_heats n_starts n_families n_generations n_stories n_nextFamily n_splits n_boilings n_fizzles t_settings t_letters t_heats t_starts t_families t_generations t_stories t_nextFamily t_splits t_boilings t_fizzles p1 p2 = some (ro, t_settings_o, t_letters_o, t_heats_o, t_starts_o, t_families_o, t_generations_o, t_stories_o, t_nextFamily_o, t_splits_o, t_boilings_o, t_fizzles_o)) : MI l yX3_touchiest wsX3_touchiest 5 132 [.ref (a 0), .int p1, .int p2] D y (w_X3 y a pa na ta ha sl q_saved q_runs q_themes q_storyHeats ++ (w_X1 y pa p_characters p_length ++ (w_X2 y na n_settings n_letters n_heats n_starts n_families n_generations n_tally n_stories n_nextFamily n_splits n_boilings n_fizzles ++ (w_X2 y ta t_settings t_letters t_heats t_starts t_families t_generations t_tally t_stories t_nextFamily t_splits t_boilings t_fizzles ++ (w_X0 y ha hsb h_v h_oldest h_size ++ w_SL y sl ssb s_v))))) sz ro (w_X3 y a pa na ta ha sl q_saved q_runs q_themes q_storyHeats ++ (w_X1 y pa p_characters p_length ++ (w_X2 y na n_settings n_letters n_heats n_starts n_families n_generations n_tally n_stories n_nextFamily n_splits n_boilings n_fizzles ++ (w_X2 y ta t_settings_o t_letters_o t_heats_o t_starts_o t_families_o t_generations_o t_tally t_stories_o t_nextFamily_o t_splits_o t_boilings_o t_fizzles_o ++ (w_X0 y ha hsb h_v h_oldest h_size ++ w_SL y sl ssb s_v))))) := by
  refine M_i (cc := cX3_touchiest) (maxL := 9) (own := RX3) (by decide) rfl rfl (Nat.le_of_ble_eq_true rfl) ?_
  intro p e s m args below meth c A Q F hK hA H locs hG hret ls hl
  have hx := F.1
  have hb := F.2.1
  have hl : lv_has ls 9 [(0, .ref (a 0)), (1, .int p1), (2, .int p2)] := hl
  have k0 := F.2.2.2.2 (.fieldLink RX3 10 "HeatedStories" "now" "LHeatedStories$Shelf;") (List.mem_of_getElem? (i := 1) rfl)
  have k1 : ∀ w ∈ wsX30, w ∈ wsX3_touchiest := (fun w h => List.mem_cons_of_mem _ (List.mem_append_left _ (List.mem_append_right _ (h))))
  have k2 := F.2.2.2.2 (.fieldLink RX3 72 "HeatedStories$Shelf" "stories" "I") (List.mem_of_getElem? (i := 2) rfl)
  have k3 : ∀ w ∈ wsX20, w ∈ wsX3_touchiest := (fun w h => List.mem_cons_of_mem _ (List.mem_append_right _ (h)))
  have k4 := F.2.2.2.2 (.fieldLink RX3 133 "HeatedStories$Shelf" "heats" "[I") (List.mem_of_getElem? (i := 3) rfl)
  have k5 := F.2.2.2.2 (.fieldLink RX3 65 "HeatedStories$Shelf" "settings" "[I") (List.mem_of_getElem? (i := 4) rfl)
  unfold f_X3_touchiest at hf
  refine lv_iload_n hx hb dX3_touchiest_0 rfl (lv_at hl 1 rfl) ?_
  refine lv_iconst (v := nI 1) hx hb dX3_touchiest_1 rfl ?_
  refine lv_sipush (v := nI 500) hx hb dX3_touchiest_2 rfl ?_
  obtain ⟨r1, h2, hf⟩ := bd1_e hf
  refine k_Si F hK hA hG (c_X3_isWithin l D y  H.size Fu  p1 (nI 1) (nI 500) r1 h2) (va_cwS 3 F.2.2.2.2 gX3_touchiest_X3_isWithin rfl rfl rfl (by decide +kernel) ⟨Nat.le_of_ble_eq_true rfl, Nat.le_of_ble_eq_true rfl⟩) rfl rfl hl.1 (Nat.le_of_ble_eq_true rfl) dX3_touchiest_5 ⟨Nat.le_refl 0, Nat.le_refl 0⟩ (fun H locs hG => ?_)
  refine lv_if_eq (tgt := 20) hx hb dX3_touchiest_8 (by decide) (fun c3 => ?_) (fun c3 => ?_)
  · have hf := it_e c3 hf
    refine lv_bipush (v := -2) hx hb dX3_touchiest_20 rfl ?_
    have hf := so_e hf
    have e0 : (-2) = ro := congrArg (fun z => z.1) hf
    have e1 : t_settings = t_settings_o := congrArg (fun z => z.2.1) hf
    have e2 : t_letters = t_letters_o := congrArg (fun z => z.2.2.1) hf
    have e3 : t_heats = t_heats_o := congrArg (fun z => z.2.2.2.1) hf
    have e4 : t_starts = t_starts_o := congrArg (fun z => z.2.2.2.2.1) hf
    have e5 : t_families = t_families_o := congrArg (fun z => z.2.2.2.2.2.1) hf
    have e6 : t_generations = t_generations_o := congrArg (fun z => z.2.2.2.2.2.2.1) hf
    have e7 : t_stories = t_stories_o := congrArg (fun z => z.2.2.2.2.2.2.2.1) hf
    have e8 : t_nextFamily = t_nextFamily_o := congrArg (fun z => z.2.2.2.2.2.2.2.2.1) hf
    have e9 : t_splits = t_splits_o := congrArg (fun z => z.2.2.2.2.2.2.2.2.2.1) hf
    have e10 : t_boilings = t_boilings_o := congrArg (fun z => z.2.2.2.2.2.2.2.2.2.2.1) hf
    have e11 : t_fizzles = t_fizzles_o := congrArg (fun z => z.2.2.2.2.2.2.2.2.2.2.2) hf
    exact hret _ _ _ _ _ e0 (by rw [← e1, ← e2, ← e3, ← e4, ← e5, ← e6, ← e7, ← e8, ← e9, ← e10, ← e11]; exact hG) dX3_touchiest_22
  · have hf := if_e c3 hf
    refine lv_iload_n hx hb dX3_touchiest_11 rfl (lv_at hl 2 rfl) ?_
    refine lv_iconst (v := nI 0) hx hb dX3_touchiest_12 rfl ?_
    refine lv_iconst (v := nI 2) hx hb dX3_touchiest_13 rfl ?_
    obtain ⟨r4, h5, hf⟩ := bd1_e hf
    refine k_Si F hK hA hG (c_X3_isWithin l D y  H.size Fu  p2 (nI 0) (nI 2) r4 h5) (va_cwS 3 F.2.2.2.2 gX3_touchiest_X3_isWithin rfl rfl rfl (by decide +kernel) ⟨Nat.le_of_ble_eq_true rfl, Nat.le_of_ble_eq_true rfl⟩) rfl rfl hl.1 (Nat.le_of_ble_eq_true rfl) dX3_touchiest_14 ⟨Nat.le_refl 0, Nat.le_refl 0⟩ (fun H locs hG => ?_)
    refine lv_if_ne (tgt := 23) hx hb dX3_touchiest_17 (by decide) (fun c6 => ?_) (fun c6 => ?_)
    · have hf := if_e c6 hf
      refine lv_aload_n hx hb dX3_touchiest_23 rfl (lv_at hl 0 rfl) ?_
      refine w_get3 F hK hG k1 0 rfl 0 (by decide) k0 rfl dX3_touchiest_24 ?_
      refine w_get2 F hK hG k3 7 rfl 7 (by decide) k2 rfl dX3_touchiest_27 ?_
      refine lv_if_ne (tgt := 36) hx hb dX3_touchiest_30 (by decide) (fun c7 => ?_) (fun c7 => ?_)
      · have hf := if_e c7 hf
        refine lv_aload_n hx hb dX3_touchiest_36 rfl (lv_at hl 0 rfl) ?_
        refine w_get3 F hK hG k1 0 rfl 0 (by decide) k0 rfl dX3_touchiest_37 ?_
        obtain ⟨r8, h9, hf⟩ := bd1_e hf
        have hG : GG D A s.heap ((w_X2 y na n_settings n_letters n_heats n_starts n_families n_generations n_tally n_stories n_nextFamily n_splits n_boilings n_fizzles) ++ (w_X3 y a pa na ta ha sl q_saved q_runs q_themes q_storyHeats ++ (w_X1 y pa p_characters p_length ++ (w_X2 y ta t_settings t_letters t_heats t_starts t_families t_generations t_tally t_stories t_nextFamily t_splits t_boilings t_fizzles ++ (w_X0 y ha hsb h_v h_oldest h_size ++ (w_SL y sl ssb s_v)))))) H locs := GG.blk (fun k => match k with | 0 => w_X3 y a pa na ta ha sl q_saved q_runs q_themes q_storyHeats | 1 => w_X1 y pa p_characters p_length | 2 => w_X2 y na n_settings n_letters n_heats n_starts n_families n_generations n_tally n_stories n_nextFamily n_splits n_boilings n_fizzles | 3 => w_X2 y ta t_settings t_letters t_heats t_starts t_families t_generations t_tally t_stories t_nextFamily t_splits t_boilings t_fizzles | 4 => w_X0 y ha hsb h_v h_oldest h_size | _ => w_SL y sl ssb s_v) [0, 1, 2, 3, 4, 5] [2, 0, 1, 3, 4, 5] (blkp _ _ rfl) _ _ rfl rfl hG
        refine k_Pi F hK hA hG (c_X2_isCalm l D y na H.size Fu n_settings n_letters n_heats n_starts n_families n_generations n_tally n_stories n_nextFamily n_splits n_boilings n_fizzles r8 h9) (cwV 0 F.2.2.2.2 gX3_touchiest_X2_isCalm rfl rfl rfl (by decide +kernel) ⟨Nat.le_of_ble_eq_true rfl, Nat.le_of_ble_eq_true rfl⟩) 0 rfl rfl rfl rfl rfl hl.1 (Nat.le_of_ble_eq_true rfl) dX3_touchiest_40 ⟨Nat.le_refl 0, Nat.le_refl 0⟩ (fun H locs hG => ?_)
        have hG : GG D A s.heap (w_X3 y a pa na ta ha sl q_saved q_runs q_themes q_storyHeats ++ (w_X1 y pa p_characters p_length ++ (w_X2 y na n_settings n_letters n_heats n_starts n_families n_generations n_tally n_stories n_nextFamily n_splits n_boilings n_fizzles ++ (w_X2 y ta t_settings t_letters t_heats t_starts t_families t_generations t_tally t_stories t_nextFamily t_splits t_boilings t_fizzles ++ (w_X0 y ha hsb h_v h_oldest h_size ++ w_SL y sl ssb s_v))))) H locs := GG.blk (fun k => match k with | 0 => w_X3 y a pa na ta ha sl q_saved q_runs q_themes q_storyHeats | 1 => w_X1 y pa p_characters p_length | 2 => w_X2 y na n_settings n_letters n_heats n_starts n_families n_generations n_tally n_stories n_nextFamily n_splits n_boilings n_fizzles | 3 => w_X2 y ta t_settings t_letters t_heats t_starts t_families t_generations t_tally t_stories t_nextFamily t_splits t_boilings t_fizzles | 4 => w_X0 y ha hsb h_v h_oldest h_size | _ => w_SL y sl ssb s_v) [2, 0, 1, 3, 4, 5] [0, 1, 2, 3, 4, 5] (blkp _ _ rfl) _ _ rfl rfl hG
        refine lv_istore_n (lv' := [(3, .int r8), (0, .ref (a 0)), (1, .int p1), (2, .int p2)]) hx hb dX3_touchiest_43 rfl hl (by decide) rfl (fun ls hl => ?_)
        refine lv_iconst (v := nI 0) hx hb dX3_touchiest_44 rfl ?_
        refine lv_istore (lv' := [(4, .int (nI 0)), (3, .int r8), (0, .ref (a 0)), (1, .int p1), (2, .int p2)]) hx hb dX3_touchiest_45 hl (by decide) rfl (fun ls hl => ?_)
        refine lv_iconst (v := -1) hx hb dX3_touchiest_47 rfl ?_
        refine lv_istore (lv' := [(5, .int (-1)), (4, .int (nI 0)), (3, .int r8), (0, .ref (a 0)), (1, .int p1), (2, .int p2)]) hx hb dX3_touchiest_48 hl (by decide) rfl (fun ls hl => ?_)
        refine lv_iconst (v := nI 0) hx hb dX3_touchiest_50 rfl ?_
        refine lv_istore (lv' := [(6, .int (nI 0)), (5, .int (-1)), (4, .int (nI 0)), (3, .int r8), (0, .ref (a 0)), (1, .int p1), (2, .int p2)]) hx hb dX3_touchiest_51 hl (by decide) rfl (fun ls hl => ?_)
        obtain ⟨k_53, ek_53, hf⟩ := jn_e hf
        have hk_53 : ∀ (v62 : Int32) (v63 : Int32) (t_settings_64 : Ar) (t_letters_65 : Ar) (t_heats_66 : Ar) (t_starts_67 : Ar) (t_families_68 : Ar) (t_generations_69 : Ar) (t_stories_70 : Int32) (t_nextFamily_71 : Int32) (t_splits_72 : Int32) (t_boilings_73 : Int32) (t_fizzles_74 : Int32) (H : Heap) (locs : List Loc) (ls : Array Slot), k_53 v62 v63 t_settings_64 t_letters_65 t_heats_66 t_starts_67 t_families_68 t_generations_69 t_stories_70 t_nextFamily_71 t_splits_72 t_boilings_73 t_fizzles_74 = some (ro, t_settings_o, t_letters_o, t_heats_o, t_starts_o, t_families_o, t_generations_o, t_stories_o, t_nextFamily_o, t_splits_o, t_boilings_o, t_fizzles_o) → GG D A s.heap (w_X3 y a pa na ta ha sl q_saved q_runs q_themes q_storyHeats ++ (w_X1 y pa p_characters p_length ++ (w_X2 y na n_settings n_letters n_heats n_starts n_families n_generations n_tally n_stories n_nextFamily n_splits n_boilings n_fizzles ++ (w_X2 y ta t_settings_64 t_letters_65 t_heats_66 t_starts_67 t_families_68 t_generations_69 t_tally t_stories_70 t_nextFamily_71 t_splits_72 t_boilings_73 t_fizzles_74 ++ (w_X0 y ha hsb h_v h_oldest h_size ++ w_SL y sl ssb s_v))))) H locs → lv_has ls 9 [(0, .ref (a 0)), (2, .int p2), (4, .int v62), (5, .int v63)] → W p l e (RM 5 132) s m args below meth c H locs 0 0 Q (F0 m 139 ls []) := by
          intro v62 v63 t_settings_64 t_letters_65 t_heats_66 t_starts_67 t_families_68 t_generations_69 t_stories_70 t_nextFamily_71 t_splits_72 t_boilings_73 t_fizzles_74 H locs ls hf hG hl
          rw [ek_53] at hf
          refine lv_iload_n hx hb dX3_touchiest_139 rfl (lv_at hl 1 rfl) ?_
          obtain ⟨v75, ev75, hf⟩ := nm_o hf
          refine w_nm ev75 ?_
          by_cases cv75_0 : v75 = nI 0
          · subst cv75_0
            have hf := it_e rfl hf
            refine lv_lookup (tgt := 168) hx hb dX3_touchiest_140 (by decide) rfl (by decide) ?_
            refine lv_aload_n hx hb dX3_touchiest_168 rfl (lv_at hl 0 rfl) ?_
            refine w_get3 F hK hG k1 0 rfl 0 (by decide) k0 rfl dX3_touchiest_169 ?_
            refine lv_iload hx hb dX3_touchiest_172 (lv_at hl 2 rfl) ?_
            obtain ⟨r76, h77, hf⟩ := bd1_e hf
            have hG : GG D A s.heap ((w_X2 y na n_settings n_letters n_heats n_starts n_families n_generations n_tally n_stories n_nextFamily n_splits n_boilings n_fizzles) ++ (w_X3 y a pa na ta ha sl q_saved q_runs q_themes q_storyHeats ++ (w_X1 y pa p_characters p_length ++ (w_X2 y ta t_settings_64 t_letters_65 t_heats_66 t_starts_67 t_families_68 t_generations_69 t_tally t_stories_70 t_nextFamily_71 t_splits_72 t_boilings_73 t_fizzles_74 ++ (w_X0 y ha hsb h_v h_oldest h_size ++ (w_SL y sl ssb s_v)))))) H locs := GG.blk (fun k => match k with | 0 => w_X3 y a pa na ta ha sl q_saved q_runs q_themes q_storyHeats | 1 => w_X1 y pa p_characters p_length | 2 => w_X2 y na n_settings n_letters n_heats n_starts n_families n_generations n_tally n_stories n_nextFamily n_splits n_boilings n_fizzles | 3 => w_X2 y ta t_settings_64 t_letters_65 t_heats_66 t_starts_67 t_families_68 t_generations_69 t_tally t_stories_70 t_nextFamily_71 t_splits_72 t_boilings_73 t_fizzles_74 | 4 => w_X0 y ha hsb h_v h_oldest h_size | _ => w_SL y sl ssb s_v) [0, 1, 2, 3, 4, 5] [2, 0, 1, 3, 4, 5] (blkp _ _ rfl) _ _ rfl rfl hG
            refine k_Pi F hK hA hG (c_X2_storyAt l D y na H.size Fu n_settings n_letters n_heats n_starts n_families n_generations n_tally n_stories n_nextFamily n_splits n_boilings n_fizzles v62 r76 h77) (cwV 1 F.2.2.2.2 gX3_touchiest_X2_storyAt rfl rfl rfl (by decide +kernel) ⟨Nat.le_of_ble_eq_true rfl, Nat.le_of_ble_eq_true rfl⟩) 0 rfl rfl rfl rfl rfl hl.1 (Nat.le_of_ble_eq_true rfl) dX3_touchiest_174 ⟨Nat.le_refl 0, Nat.le_refl 0⟩ (fun H locs hG => ?_)
            have hG : GG D A s.heap (w_X3 y a pa na ta ha sl q_saved q_runs q_themes q_storyHeats ++ (w_X1 y pa p_characters p_length ++ (w_X2 y na n_settings n_letters n_heats n_starts n_families n_generations n_tally n_stories n_nextFamily n_splits n_boilings n_fizzles ++ (w_X2 y ta t_settings_64 t_letters_65 t_heats_66 t_starts_67 t_families_68 t_generations_69 t_tally t_stories_70 t_nextFamily_71 t_splits_72 t_boilings_73 t_fizzles_74 ++ (w_X0 y ha hsb h_v h_oldest h_size ++ w_SL y sl ssb s_v))))) H locs := GG.blk (fun k => match k with | 0 => w_X3 y a pa na ta ha sl q_saved q_runs q_themes q_storyHeats | 1 => w_X1 y pa p_characters p_length | 2 => w_X2 y na n_settings n_letters n_heats n_starts n_families n_generations n_tally n_stories n_nextFamily n_splits n_boilings n_fizzles | 3 => w_X2 y ta t_settings_64 t_letters_65 t_heats_66 t_starts_67 t_families_68 t_generations_69 t_tally t_stories_70 t_nextFamily_71 t_splits_72 t_boilings_73 t_fizzles_74 | 4 => w_X0 y ha hsb h_v h_oldest h_size | _ => w_SL y sl ssb s_v) [2, 0, 1, 3, 4, 5] [0, 1, 2, 3, 4, 5] (blkp _ _ rfl) _ _ rfl rfl hG
            have hf := so_e hf
            have e0 : r76 = ro := congrArg (fun z => z.1) hf
            have e1 : t_settings_64 = t_settings_o := congrArg (fun z => z.2.1) hf
            have e2 : t_letters_65 = t_letters_o := congrArg (fun z => z.2.2.1) hf
            have e3 : t_heats_66 = t_heats_o := congrArg (fun z => z.2.2.2.1) hf
            have e4 : t_starts_67 = t_starts_o := congrArg (fun z => z.2.2.2.2.1) hf
            have e5 : t_families_68 = t_families_o := congrArg (fun z => z.2.2.2.2.2.1) hf
            have e6 : t_generations_69 = t_generations_o := congrArg (fun z => z.2.2.2.2.2.2.1) hf
            have e7 : t_stories_70 = t_stories_o := congrArg (fun z => z.2.2.2.2.2.2.2.1) hf
            have e8 : t_nextFamily_71 = t_nextFamily_o := congrArg (fun z => z.2.2.2.2.2.2.2.2.1) hf
            have e9 : t_splits_72 = t_splits_o := congrArg (fun z => z.2.2.2.2.2.2.2.2.2.1) hf
            have e10 : t_boilings_73 = t_boilings_o := congrArg (fun z => z.2.2.2.2.2.2.2.2.2.2.1) hf
            have e11 : t_fizzles_74 = t_fizzles_o := congrArg (fun z => z.2.2.2.2.2.2.2.2.2.2.2) hf
            exact hret _ _ _ _ _ e0 (by rw [← e1, ← e2, ← e3, ← e4, ← e5, ← e6, ← e7, ← e8, ← e9, ← e10, ← e11]; exact hG) dX3_touchiest_177
          have hf := if_e cv75_0 hf
          by_cases cv75_1 : v75 = nI 1
          · subst cv75_1
            have hf := it_e rfl hf
            refine lv_lookup (tgt := 178) hx hb dX3_touchiest_140 (by decide) rfl (by decide) ?_
            refine lv_aload_n hx hb dX3_touchiest_178 rfl (lv_at hl 0 rfl) ?_
            refine w_get3 F hK hG k1 0 rfl 0 (by decide) k0 rfl dX3_touchiest_179 ?_
            refine lv_iload hx hb dX3_touchiest_182 (lv_at hl 2 rfl) ?_
            obtain ⟨r78, h79, hf⟩ := bd1_e hf
            have hG : GG D A s.heap ((w_X2 y na n_settings n_letters n_heats n_starts n_families n_generations n_tally n_stories n_nextFamily n_splits n_boilings n_fizzles) ++ (w_X3 y a pa na ta ha sl q_saved q_runs q_themes q_storyHeats ++ (w_X1 y pa p_characters p_length ++ (w_X2 y ta t_settings_64 t_letters_65 t_heats_66 t_starts_67 t_families_68 t_generations_69 t_tally t_stories_70 t_nextFamily_71 t_splits_72 t_boilings_73 t_fizzles_74 ++ (w_X0 y ha hsb h_v h_oldest h_size ++ (w_SL y sl ssb s_v)))))) H locs := GG.blk (fun k => match k with | 0 => w_X3 y a pa na ta ha sl q_saved q_runs q_themes q_storyHeats | 1 => w_X1 y pa p_characters p_length | 2 => w_X2 y na n_settings n_letters n_heats n_starts n_families n_generations n_tally n_stories n_nextFamily n_splits n_boilings n_fizzles | 3 => w_X2 y ta t_settings_64 t_letters_65 t_heats_66 t_starts_67 t_families_68 t_generations_69 t_tally t_stories_70 t_nextFamily_71 t_splits_72 t_boilings_73 t_fizzles_74 | 4 => w_X0 y ha hsb h_v h_oldest h_size | _ => w_SL y sl ssb s_v) [0, 1, 2, 3, 4, 5] [2, 0, 1, 3, 4, 5] (blkp _ _ rfl) _ _ rfl rfl hG
            refine k_Pi F hK hA hG (c_X2_placeOf l D y na H.size Fu n_settings n_letters n_heats n_starts n_families n_generations n_tally n_stories n_nextFamily n_splits n_boilings n_fizzles v62 r78 h79) (cwV 1 F.2.2.2.2 gX3_touchiest_X2_placeOf rfl rfl rfl (by decide +kernel) ⟨Nat.le_of_ble_eq_true rfl, Nat.le_of_ble_eq_true rfl⟩) 0 rfl rfl rfl rfl rfl hl.1 (Nat.le_of_ble_eq_true rfl) dX3_touchiest_184 ⟨Nat.le_refl 0, Nat.le_refl 0⟩ (fun H locs hG => ?_)
            have hG : GG D A s.heap (w_X3 y a pa na ta ha sl q_saved q_runs q_themes q_storyHeats ++ (w_X1 y pa p_characters p_length ++ (w_X2 y na n_settings n_letters n_heats n_starts n_families n_generations n_tally n_stories n_nextFamily n_splits n_boilings n_fizzles ++ (w_X2 y ta t_settings_64 t_letters_65 t_heats_66 t_starts_67 t_families_68 t_generations_69 t_tally t_stories_70 t_nextFamily_71 t_splits_72 t_boilings_73 t_fizzles_74 ++ (w_X0 y ha hsb h_v h_oldest h_size ++ w_SL y sl ssb s_v))))) H locs := GG.blk (fun k => match k with | 0 => w_X3 y a pa na ta ha sl q_saved q_runs q_themes q_storyHeats | 1 => w_X1 y pa p_characters p_length | 2 => w_X2 y na n_settings n_letters n_heats n_starts n_families n_generations n_tally n_stories n_nextFamily n_splits n_boilings n_fizzles | 3 => w_X2 y ta t_settings_64 t_letters_65 t_heats_66 t_starts_67 t_families_68 t_generations_69 t_tally t_stories_70 t_nextFamily_71 t_splits_72 t_boilings_73 t_fizzles_74 | 4 => w_X0 y ha hsb h_v h_oldest h_size | _ => w_SL y sl ssb s_v) [2, 0, 1, 3, 4, 5] [0, 1, 2, 3, 4, 5] (blkp _ _ rfl) _ _ rfl rfl hG
            have hf := so_e hf
            have e0 : r78 = ro := congrArg (fun z => z.1) hf
            have e1 : t_settings_64 = t_settings_o := congrArg (fun z => z.2.1) hf
            have e2 : t_letters_65 = t_letters_o := congrArg (fun z => z.2.2.1) hf
            have e3 : t_heats_66 = t_heats_o := congrArg (fun z => z.2.2.2.1) hf
            have e4 : t_starts_67 = t_starts_o := congrArg (fun z => z.2.2.2.2.1) hf
            have e5 : t_families_68 = t_families_o := congrArg (fun z => z.2.2.2.2.2.1) hf
            have e6 : t_generations_69 = t_generations_o := congrArg (fun z => z.2.2.2.2.2.2.1) hf
            have e7 : t_stories_70 = t_stories_o := congrArg (fun z => z.2.2.2.2.2.2.2.1) hf
            have e8 : t_nextFamily_71 = t_nextFamily_o := congrArg (fun z => z.2.2.2.2.2.2.2.2.1) hf
            have e9 : t_splits_72 = t_splits_o := congrArg (fun z => z.2.2.2.2.2.2.2.2.2.1) hf
            have e10 : t_boilings_73 = t_boilings_o := congrArg (fun z => z.2.2.2.2.2.2.2.2.2.2.1) hf
            have e11 : t_fizzles_74 = t_fizzles_o := congrArg (fun z => z.2.2.2.2.2.2.2.2.2.2.2) hf
            exact hret _ _ _ _ _ e0 (by rw [← e1, ← e2, ← e3, ← e4, ← e5, ← e6, ← e7, ← e8, ← e9, ← e10, ← e11]; exact hG) dX3_touchiest_187
          have hf := if_e cv75_1 hf
          refine lv_lookup (tgt := 188) hx hb dX3_touchiest_140 (by decide) (lkp_out2 rfl cv75_0 cv75_1) (by decide) ?_
          refine lv_iload hx hb dX3_touchiest_188 (lv_at hl 3 rfl) ?_
          have hf := so_e hf
          have e0 : v63 = ro := congrArg (fun z => z.1) hf
          have e1 : t_settings_64 = t_settings_o := congrArg (fun z => z.2.1) hf
          have e2 : t_letters_65 = t_letters_o := congrArg (fun z => z.2.2.1) hf
          have e3 : t_heats_66 = t_heats_o := congrArg (fun z => z.2.2.2.1) hf
          have e4 : t_starts_67 = t_starts_o := congrArg (fun z => z.2.2.2.2.1) hf
          have e5 : t_families_68 = t_families_o := congrArg (fun z => z.2.2.2.2.2.1) hf
          have e6 : t_generations_69 = t_generations_o := congrArg (fun z => z.2.2.2.2.2.2.1) hf
          have e7 : t_stories_70 = t_stories_o := congrArg (fun z => z.2.2.2.2.2.2.2.1) hf
          have e8 : t_nextFamily_71 = t_nextFamily_o := congrArg (fun z => z.2.2.2.2.2.2.2.2.1) hf
          have e9 : t_splits_72 = t_splits_o := congrArg (fun z => z.2.2.2.2.2.2.2.2.2.1) hf
          have e10 : t_boilings_73 = t_boilings_o := congrArg (fun z => z.2.2.2.2.2.2.2.2.2.2.1) hf
          have e11 : t_fizzles_74 = t_fizzles_o := congrArg (fun z => z.2.2.2.2.2.2.2.2.2.2.2) hf
          exact hret _ _ _ _ _ e0 (by rw [← e1, ← e2, ← e3, ← e4, ← e5, ← e6, ← e7, ← e8, ← e9, ← e10, ← e11]; exact hG) dX3_touchiest_190
        have hL53 : ∀ (fu : Nat) (x10 : Int32) (x11 : Int32) (x12 : Int32) (t_settings_13 : Ar) (t_letters_14 : Ar) (t_heats_15 : Ar) (t_starts_16 : Ar) (t_families_17 : Ar) (t_generations_18 : Ar) (t_stories_19 : Int32) (t_nextFamily_20 : Int32) (t_splits_21 : Int32) (t_boilings_22 : Int32) (t_fizzles_23 : Int32) (H : Heap) (locs : List Loc) (ls : Array Slot), f_X3_touchiest_L53 Fu k_53 n_settings n_letters n_heats n_starts n_families n_generations n_stories n_nextFamily n_splits n_boilings n_fizzles p1 r8 fu x10 x11 x12 t_settings_13 t_letters_14 t_heats_15 t_starts_16 t_families_17 t_generations_18 t_stories_19 t_nextFamily_20 t_splits_21 t_boilings_22 t_fizzles_23 = some (ro, t_settings_o, t_letters_o, t_heats_o, t_starts_o, t_families_o, t_generations_o, t_stories_o, t_nextFamily_o, t_splits_o, t_boilings_o, t_fizzles_o) → GG D A s.heap (w_X3 y a pa na ta ha sl q_saved q_runs q_themes q_storyHeats ++ (w_X1 y pa p_characters p_length ++ (w_X2 y na n_settings n_letters n_heats n_starts n_families n_generations n_tally n_stories n_nextFamily n_splits n_boilings n_fizzles ++ (w_X2 y ta t_settings_13 t_letters_14 t_heats_15 t_starts_16 t_families_17 t_generations_18 t_tally t_stories_19 t_nextFamily_20 t_splits_21 t_boilings_22 t_fizzles_23 ++ (w_X0 y ha hsb h_v h_oldest h_size ++ w_SL y sl ssb s_v))))) H locs → lv_has ls 9 [(0, .ref (a 0)), (1, .int p1), (2, .int p2), (3, .int r8), (4, .int x10), (5, .int x11), (6, .int x12)] → W p l e (RM 5 132) s m args below meth c H locs 0 0 Q (F0 m 53 ls []) := by
          intro fu
          induction fu with
          | zero => intro x10 x11 x12 t_settings_13 t_letters_14 t_heats_15 t_starts_16 t_families_17 t_generations_18 t_stories_19 t_nextFamily_20 t_splits_21 t_boilings_22 t_fizzles_23 H locs ls hf hG hl; exact no_e hf
          | succ fu ih =>
            intro x10 x11 x12 t_settings_13 t_letters_14 t_heats_15 t_starts_16 t_families_17 t_generations_18 t_stories_19 t_nextFamily_20 t_splits_21 t_boilings_22 t_fizzles_23 H locs ls hf hG hl
            rw [f_X3_touchiest_L53_s] at hf
            refine lv_iload hx hb dX3_touchiest_53 (lv_at hl 6 rfl) ?_
            refine lv_aload_n hx hb dX3_touchiest_55 rfl (lv_at hl 0 rfl) ?_
            refine w_get3 F hK hG k1 0 rfl 0 (by decide) k0 rfl dX3_touchiest_56 ?_
            obtain ⟨r24, h25, hf⟩ := bd1_e hf
            have hG : GG D A s.heap ((w_X2 y na n_settings n_letters n_heats n_starts n_families n_generations n_tally n_stories n_nextFamily n_splits n_boilings n_fizzles) ++ (w_X3 y a pa na ta ha sl q_saved q_runs q_themes q_storyHeats ++ (w_X1 y pa p_characters p_length ++ (w_X2 y ta t_settings_13 t_letters_14 t_heats_15 t_starts_16 t_families_17 t_generations_18 t_tally t_stories_19 t_nextFamily_20 t_splits_21 t_boilings_22 t_fizzles_23 ++ (w_X0 y ha hsb h_v h_oldest h_size ++ (w_SL y sl ssb s_v)))))) H locs := GG.blk (fun k => match k with | 0 => w_X3 y a pa na ta ha sl q_saved q_runs q_themes q_storyHeats | 1 => w_X1 y pa p_characters p_length | 2 => w_X2 y na n_settings n_letters n_heats n_starts n_families n_generations n_tally n_stories n_nextFamily n_splits n_boilings n_fizzles | 3 => w_X2 y ta t_settings_13 t_letters_14 t_heats_15 t_starts_16 t_families_17 t_generations_18 t_tally t_stories_19 t_nextFamily_20 t_splits_21 t_boilings_22 t_fizzles_23 | 4 => w_X0 y ha hsb h_v h_oldest h_size | _ => w_SL y sl ssb s_v) [0, 1, 2, 3, 4, 5] [2, 0, 1, 3, 4, 5] (blkp _ _ rfl) _ _ rfl rfl hG
            refine k_Pi F hK hA hG (c_X2_words l D y na H.size Fu n_settings n_letters n_heats n_starts n_families n_generations n_tally n_stories n_nextFamily n_splits n_boilings n_fizzles r24 h25) (cwV 0 F.2.2.2.2 gX3_touchiest_X2_words rfl rfl rfl (by decide +kernel) ⟨Nat.le_of_ble_eq_true rfl, Nat.le_of_ble_eq_true rfl⟩) 0 rfl rfl rfl rfl rfl hl.1 (Nat.le_of_ble_eq_true rfl) dX3_touchiest_59 ⟨Nat.le_refl 0, Nat.le_refl 0⟩ (fun H locs hG => ?_)
            have hG : GG D A s.heap (w_X3 y a pa na ta ha sl q_saved q_runs q_themes q_storyHeats ++ (w_X1 y pa p_characters p_length ++ (w_X2 y na n_settings n_letters n_heats n_starts n_families n_generations n_tally n_stories n_nextFamily n_splits n_boilings n_fizzles ++ (w_X2 y ta t_settings_13 t_letters_14 t_heats_15 t_starts_16 t_families_17 t_generations_18 t_tally t_stories_19 t_nextFamily_20 t_splits_21 t_boilings_22 t_fizzles_23 ++ (w_X0 y ha hsb h_v h_oldest h_size ++ w_SL y sl ssb s_v))))) H locs := GG.blk (fun k => match k with | 0 => w_X3 y a pa na ta ha sl q_saved q_runs q_themes q_storyHeats | 1 => w_X1 y pa p_characters p_length | 2 => w_X2 y na n_settings n_letters n_heats n_starts n_families n_generations n_tally n_stories n_nextFamily n_splits n_boilings n_fizzles | 3 => w_X2 y ta t_settings_13 t_letters_14 t_heats_15 t_starts_16 t_families_17 t_generations_18 t_tally t_stories_19 t_nextFamily_20 t_splits_21 t_boilings_22 t_fizzles_23 | 4 => w_X0 y ha hsb h_v h_oldest h_size | _ => w_SL y sl ssb s_v) [2, 0, 1, 3, 4, 5] [0, 1, 2, 3, 4, 5] (blkp _ _ rfl) _ _ rfl rfl hG
            refine lv_icmp_ge (tgt := 139) hx hb dX3_touchiest_62 (by decide) (fun c26 => ?_) (fun c26 => ?_)
            · have hf := it_e c26 hf
              exact hk_53 x10 x11 t_settings_13 t_letters_14 t_heats_15 t_starts_16 t_families_17 t_generations_18 t_stories_19 t_nextFamily_20 t_splits_21 t_boilings_22 t_fizzles_23 _ _ ls hf hG (lv_sub hl [0, 2, 4, 5] rfl)
            · have hf := if_e c26 hf
              refine lv_iload_n hx hb dX3_touchiest_65 rfl (lv_at hl 3 rfl) ?_
              obtain ⟨j31, ej31, hf⟩ := jn_e hf
              have hj31 : ∀ (v30 : Int32) (H : Heap) (locs : List Loc) (ls : Array Slot), j31 v30 = some (ro, t_settings_o, t_letters_o, t_heats_o, t_starts_o, t_families_o, t_generations_o, t_stories_o, t_nextFamily_o, t_splits_o, t_boilings_o, t_fizzles_o) → GG D A s.heap (w_X3 y a pa na ta ha sl q_saved q_runs q_themes q_storyHeats ++ (w_X1 y pa p_characters p_length ++ (w_X2 y na n_settings n_letters n_heats n_starts n_families n_generations n_tally n_stories n_nextFamily n_splits n_boilings n_fizzles ++ (w_X2 y ta t_settings_13 t_letters_14 t_heats_15 t_starts_16 t_families_17 t_generations_18 t_tally t_stories_19 t_nextFamily_20 t_splits_21 t_boilings_22 t_fizzles_23 ++ (w_X0 y ha hsb h_v h_oldest h_size ++ w_SL y sl ssb s_v))))) H locs → lv_has ls 9 [(0, .ref (a 0)), (1, .int p1), (2, .int p2), (3, .int r8), (4, .int x10), (5, .int x11), (6, .int x12)] → W p l e (RM 5 132) s m args below meth c H locs 0 0 Q (F0 m 98 ls [.int v30]) := by
                intro v30 H locs ls hf hG hl
                rw [ej31] at hf
                refine lv_istore (lv' := [(7, .int v30), (0, .ref (a 0)), (1, .int p1), (2, .int p2), (3, .int r8), (4, .int x10), (5, .int x11), (6, .int x12)]) hx hb dX3_touchiest_98 hl (by decide) rfl (fun ls hl => ?_)
                refine lv_iload hx hb dX3_touchiest_100 (lv_at hl 0 rfl) ?_
                obtain ⟨j58, ej58, hf⟩ := jn_e hf
                have hj58 : ∀ (v46 : Int32) (t_settings_47 : Ar) (t_letters_48 : Ar) (t_heats_49 : Ar) (t_starts_50 : Ar) (t_families_51 : Ar) (t_generations_52 : Ar) (t_stories_53 : Int32) (t_nextFamily_54 : Int32) (t_splits_55 : Int32) (t_boilings_56 : Int32) (t_fizzles_57 : Int32) (H : Heap) (locs : List Loc) (ls : Array Slot), j58 v46 t_settings_47 t_letters_48 t_heats_49 t_starts_50 t_families_51 t_generations_52 t_stories_53 t_nextFamily_54 t_splits_55 t_boilings_56 t_fizzles_57 = some (ro, t_settings_o, t_letters_o, t_heats_o, t_starts_o, t_families_o, t_generations_o, t_stories_o, t_nextFamily_o, t_splits_o, t_boilings_o, t_fizzles_o) → GG D A s.heap (w_X3 y a pa na ta ha sl q_saved q_runs q_themes q_storyHeats ++ (w_X1 y pa p_characters p_length ++ (w_X2 y na n_settings n_letters n_heats n_starts n_families n_generations n_tally n_stories n_nextFamily n_splits n_boilings n_fizzles ++ (w_X2 y ta t_settings_47 t_letters_48 t_heats_49 t_starts_50 t_families_51 t_generations_52 t_tally t_stories_53 t_nextFamily_54 t_splits_55 t_boilings_56 t_fizzles_57 ++ (w_X0 y ha hsb h_v h_oldest h_size ++ w_SL y sl ssb s_v))))) H locs → lv_has ls 9 [(0, .ref (a 0)), (1, .int p1), (2, .int p2), (3, .int r8), (4, .int x10), (5, .int x11), (6, .int x12)] → W p l e (RM 5 132) s m args below meth c H locs 0 0 Q (F0 m 116 ls [.int v46]) := by
                  intro v46 t_settings_47 t_letters_48 t_heats_49 t_starts_50 t_families_51 t_generations_52 t_stories_53 t_nextFamily_54 t_splits_55 t_boilings_56 t_fizzles_57 H locs ls hf hG hl
                  rw [ej58] at hf
                  refine lv_istore (lv' := [(8, .int v46), (0, .ref (a 0)), (1, .int p1), (2, .int p2), (3, .int r8), (4, .int x10), (5, .int x11), (6, .int x12)]) hx hb dX3_touchiest_116 hl (by decide) rfl (fun ls hl => ?_)
                  refine lv_iload hx hb dX3_touchiest_118 (lv_at hl 0 rfl) ?_
                  refine lv_iload hx hb dX3_touchiest_120 (lv_at hl 6 rfl) ?_
                  obtain ⟨v60, ev60, hf⟩ := nm_o hf
                  obtain ⟨v61, ev61, hf⟩ := nm_o hf
                  have hJ : ∀ (ls : Array Slot), lv_has ls 9 [(0, .ref (a 0)), (1, .int p1), (2, .int p2), (3, .int r8), (4, .int v60), (5, .int v61), (6, .int x12)] → W p l e (RM 5 132) s m args below meth c H locs 0 0 Q (F0 m 133 ls []) := by
                    intro ls hl
                    refine lv_iinc (v := x12 + (nI 1)) (lv' := [(6, .int (x12 + (nI 1))), (0, .ref (a 0)), (1, .int p1), (2, .int p2), (3, .int r8), (4, .int v60), (5, .int v61)]) hx hb dX3_touchiest_133 hl (k := 6) rfl rfl (by decide) rfl (fun ls hl => ?_)
                    refine lv_goto (tgt := 53) hx hb dX3_touchiest_136 (by decide) ?_
                    exact ih v60 v61 (x12 + (nI 1)) t_settings_47 t_letters_48 t_heats_49 t_starts_50 t_families_51 t_generations_52 t_stories_53 t_nextFamily_54 t_splits_55 t_boilings_56 t_fizzles_57 _ _ ls hf hG (lv_sub hl [1, 2, 3, 4, 5, 6, 0] rfl)
                  refine lv_icmp_le (tgt := 133) hx hb dX3_touchiest_122 (by decide) (fun c59 => ?_) (fun c59 => ?_)
                  · have qv60 := (ev60.trans (if_pos c59))
                    subst qv60
                    have qv61 := (ev61.trans (if_pos c59))
                    subst qv61
                    exact hJ ls (lv_sub hl [1, 2, 3, 4, 5, 6, 7] rfl)
                  · refine lv_iload hx hb dX3_touchiest_125 (lv_at hl 0 rfl) ?_
                    refine lv_istore (lv' := [(5, .int v46), (8, .int v46), (0, .ref (a 0)), (1, .int p1), (2, .int p2), (3, .int r8), (4, .int x10), (6, .int x12)]) hx hb dX3_touchiest_127 hl (by decide) rfl (fun ls hl => ?_)
                    refine lv_iload hx hb dX3_touchiest_129 (lv_at hl 7 rfl) ?_
                    refine lv_istore (lv' := [(4, .int x12), (5, .int v46), (8, .int v46), (0, .ref (a 0)), (1, .int p1), (2, .int p2), (3, .int r8), (6, .int x12)]) hx hb dX3_touchiest_131 hl (by decide) rfl (fun ls hl => ?_)
                    have qv60 := (ev60.trans (if_neg c59))
                    subst qv60
                    have qv61 := (ev61.trans (if_neg c59))
                    subst qv61
                    exact hJ ls (lv_sub hl [3, 4, 5, 6, 0, 1, 7] rfl)
                refine lv_if_eq (tgt := 109) hx hb dX3_touchiest_102 (by decide) (fun c32 => ?_) (fun c32 => ?_)
                · have hf := it_e c32 hf
                  refine lv_aload_n hx hb dX3_touchiest_109 rfl (lv_at hl 1 rfl) ?_
                  refine lv_iload hx hb dX3_touchiest_110 (lv_at hl 7 rfl) ?_
                  refine lv_iload_n hx hb dX3_touchiest_112 rfl (lv_at hl 2 rfl) ?_
                  obtain ⟨r33, t_settings_34, t_letters_35, t_heats_36, t_starts_37, t_families_38, t_generations_39, t_stories_40, t_nextFamily_41, t_splits_42, t_boilings_43, t_fizzles_44, h45, hf⟩ := bd12_e hf
                  refine k_Wi F hK hA hG (c_X3_tryHeating l D y a pa na ta ha hsb sl ssb H.size Fu q_saved q_runs q_themes q_storyHeats p_characters p_length n_settings n_letters n_heats n_starts n_families n_generations n_tally n_stories n_nextFamily n_splits n_boilings n_fizzles t_settings_13 t_letters_14 t_heats_15 t_starts_16 t_families_17 t_generations_18 t_tally t_stories_19 t_nextFamily_20 t_splits_21 t_boilings_22 t_fizzles_23 h_v h_oldest h_size s_v x12 p1 r33 t_settings_34 t_letters_35 t_heats_36 t_starts_37 t_families_38 t_generations_39 t_stories_40 t_nextFamily_41 t_splits_42 t_boilings_43 t_fizzles_44 h45) (cwV 2 F.2.2.2.2 gX3_touchiest_X3_tryHeating rfl rfl rfl (by decide +kernel) ⟨Nat.le_of_ble_eq_true rfl, Nat.le_of_ble_eq_true rfl⟩) 0 rfl rfl rfl rfl rfl hl.1 (Nat.le_of_ble_eq_true rfl) dX3_touchiest_113 ⟨Nat.le_refl 0, Nat.le_refl 0⟩ (fun H locs hG => ?_)
                  exact hj58 r33 t_settings_34 t_letters_35 t_heats_36 t_starts_37 t_families_38 t_generations_39 t_stories_40 t_nextFamily_41 t_splits_42 t_boilings_43 t_fizzles_44 _ _ ls hf hG (lv_sub hl [1, 2, 3, 4, 5, 6, 7] rfl)
                · have hf := if_e c32 hf
                  refine lv_iconst (v := nI 0) hx hb dX3_touchiest_105 rfl ?_
                  refine lv_goto (tgt := 116) hx hb dX3_touchiest_106 (by decide) ?_
                  exact hj58 (nI 0) t_settings_13 t_letters_14 t_heats_15 t_starts_16 t_families_17 t_generations_18 t_stories_19 t_nextFamily_20 t_splits_21 t_boilings_22 t_fizzles_23 _ _ ls hf hG (lv_sub hl [1, 2, 3, 4, 5, 6, 7] rfl)
              refine lv_if_eq (tgt := 97) hx hb dX3_touchiest_66 (by decide) (fun c27 => ?_) (fun c27 => ?_)
              · have hf := it_e c27 hf
                refine lv_iconst (v := nI 0) hx hb dX3_touchiest_97 rfl ?_
                exact hj31 (nI 0) _ _ ls hf hG (lv_sub hl [0, 1, 2, 3, 4, 5, 6] rfl)
              · have hf := if_e c27 hf
                refine lv_aload_n hx hb dX3_touchiest_69 rfl (lv_at hl 0 rfl) ?_
                refine w_get3 F hK hG k1 0 rfl 0 (by decide) k0 rfl dX3_touchiest_70 ?_
                refine w_get2 F hK hG k3 7 rfl 2 (by decide) k4 rfl dX3_touchiest_73 ?_
                refine lv_iload hx hb dX3_touchiest_76 (lv_at hl 6 rfl) ?_
                obtain ⟨g28, hf⟩ := gd_e hf
                refine w_iald F hK hG 10 rfl g28 dX3_touchiest_78 ?_
                refine lv_iload_n hx hb dX3_touchiest_79 rfl (lv_at hl 1 rfl) ?_
                refine lv_iadd hx hb dX3_touchiest_80 ?_
                refine lv_aload_n hx hb dX3_touchiest_81 rfl (lv_at hl 0 rfl) ?_
                refine w_get3 F hK hG k1 0 rfl 0 (by decide) k0 rfl dX3_touchiest_82 ?_
                refine w_get2 F hK hG k3 7 rfl 0 (by decide) k5 rfl dX3_touchiest_85 ?_
                refine lv_iconst (v := nI 0) hx hb dX3_touchiest_88 rfl ?_
                refine w_ialdk F hK hG 8 rfl (Nat.le_of_ble_eq_true rfl) (Nat.le_of_ble_eq_true rfl) dX3_touchiest_89 ?_
                refine lv_icmp_ge (tgt := 97) hx hb dX3_touchiest_90 (by decide) (fun c29 => ?_) (fun c29 => ?_)
                · have hf := it_e c29 hf
                  refine lv_iconst (v := nI 0) hx hb dX3_touchiest_97 rfl ?_
                  exact hj31 (nI 0) _ _ ls hf hG (lv_sub hl [0, 1, 2, 3, 4, 5, 6] rfl)
                · have hf := if_e c29 hf
                  refine lv_iconst (v := nI 1) hx hb dX3_touchiest_93 rfl ?_
                  refine lv_goto (tgt := 98) hx hb dX3_touchiest_94 (by decide) ?_
                  exact hj31 (nI 1) _ _ ls hf hG (lv_sub hl [0, 1, 2, 3, 4, 5, 6] rfl)
        exact hL53 Fu (nI 0) (-1) (nI 0) t_settings t_letters t_heats t_starts t_families t_generations t_stories t_nextFamily t_splits t_boilings t_fizzles _ _ ls hf hG (lv_sub hl [4, 5, 6, 3, 2, 1, 0] rfl)
      · have hf := it_e c7 hf
        refine lv_bipush (v := -6) hx hb dX3_touchiest_33 rfl ?_
        have hf := so_e hf
        have e0 : (-6) = ro := congrArg (fun z => z.1) hf
        have e1 : t_settings = t_settings_o := congrArg (fun z => z.2.1) hf
        have e2 : t_letters = t_letters_o := congrArg (fun z => z.2.2.1) hf
        have e3 : t_heats = t_heats_o := congrArg (fun z => z.2.2.2.1) hf
        have e4 : t_starts = t_starts_o := congrArg (fun z => z.2.2.2.2.1) hf
        have e5 : t_families = t_families_o := congrArg (fun z => z.2.2.2.2.2.1) hf
        have e6 : t_generations = t_generations_o := congrArg (fun z => z.2.2.2.2.2.2.1) hf
        have e7 : t_stories = t_stories_o := congrArg (fun z => z.2.2.2.2.2.2.2.1) hf
        have e8 : t_nextFamily = t_nextFamily_o := congrArg (fun z => z.2.2.2.2.2.2.2.2.1) hf
        have e9 : t_splits = t_splits_o := congrArg (fun z => z.2.2.2.2.2.2.2.2.2.1) hf
        have e10 : t_boilings = t_boilings_o := congrArg (fun z => z.2.2.2.2.2.2.2.2.2.2.1) hf
        have e11 : t_fizzles = t_fizzles_o := congrArg (fun z => z.2.2.2.2.2.2.2.2.2.2.2) hf
        exact hret _ _ _ _ _ e0 (by rw [← e1, ← e2, ← e3, ← e4, ← e5, ← e6, ← e7, ← e8, ← e9, ← e10, ← e11]; exact hG) dX3_touchiest_35
    · have hf := it_e c6 hf
      refine lv_bipush (v := -2) hx hb dX3_touchiest_20 rfl ?_
      have hf := so_e hf
      have e0 : (-2) = ro := congrArg (fun z => z.1) hf
      have e1 : t_settings = t_settings_o := congrArg (fun z => z.2.1) hf
      have e2 : t_letters = t_letters_o := congrArg (fun z => z.2.2.1) hf
      have e3 : t_heats = t_heats_o := congrArg (fun z => z.2.2.2.1) hf
      have e4 : t_starts = t_starts_o := congrArg (fun z => z.2.2.2.2.1) hf
      have e5 : t_families = t_families_o := congrArg (fun z => z.2.2.2.2.2.1) hf
      have e6 : t_generations = t_generations_o := congrArg (fun z => z.2.2.2.2.2.2.1) hf
      have e7 : t_stories = t_stories_o := congrArg (fun z => z.2.2.2.2.2.2.2.1) hf
      have e8 : t_nextFamily = t_nextFamily_o := congrArg (fun z => z.2.2.2.2.2.2.2.2.1) hf
      have e9 : t_splits = t_splits_o := congrArg (fun z => z.2.2.2.2.2.2.2.2.2.1) hf
      have e10 : t_boilings = t_boilings_o := congrArg (fun z => z.2.2.2.2.2.2.2.2.2.2.1) hf
      have e11 : t_fizzles = t_fizzles_o := congrArg (fun z => z.2.2.2.2.2.2.2.2.2.2.2) hf
      exact hret _ _ _ _ _ e0 (by rw [← e1, ← e2, ← e3, ← e4, ← e5, ← e6, ← e7, ← e8, ← e9, ← e10, ← e11]; exact hG) dX3_touchiest_22
set_option maxHeartbeats 1000000 in
set_option maxRecDepth 100000 in
theorem c_X3_coolestPair (l : Launch) (D : va_G) (y : Nat → ClassId) (a pa na ta ha : Nat → Nat) (hsb : Nat → Nat → Nat) (sl : Nat) (ssb : Nat → Nat → Nat) (sz : Nat) (Fu : Nat) (q_saved : Ar) (q_runs : Ar) (q_themes : Ar) (q_storyHeats : Ar) (p_characters : Ar) (p_length : Int32) (n_settings : Ar) (n_letters : Ar) (n_heats : Ar) (n_starts : Ar) (n_families : Ar) (n_generations : Ar) (n_tally : Ar) (n_stories : Int32) (n_nextFamily : Int32) (n_splits : Int32) (n_boilings : Int32) (n_fizzles : Int32) (t_settings : Ar) (t_letters : Ar) (t_heats : Ar) (t_starts : Ar) (t_families : Ar) (t_generations : Ar) (t_tally : Ar) (t_stories : Int32) (t_nextFamily : Int32) (t_splits : Int32) (t_boilings : Int32) (t_fizzles : Int32) (h_v : (Nat → SV)) (h_oldest : Int32) (h_size : Int32) (s_v : (Nat → SV)) (p1 : Int32) (ro : Int32) (q_themes_o : Ar) (q_storyHeats_o : Ar) (n_tally_o : Ar) (hf : f_X3_coolestPair Fu q_themes q_storyHeats n_letters n_heats n_starts n_tally n_stories p1 = some (ro, q_themes_o, q_storyHeats_o, n_tally_o)) : MI l yX3_coolestPair wsX3_coolestPair 3 68 [.ref (a 0), .int p1] D y (w_X3 y a pa na ta ha sl q_saved q_runs q_themes q_storyHeats ++ (w_X1 y pa p_characters p_length ++ (w_X2 y na n_settings n_letters n_heats n_starts n_families n_generations n_tally n_stories n_nextFamily n_splits n_boilings n_fizzles ++ (w_X2 y ta t_settings t_letters t_heats t_starts t_families t_generations t_tally t_stories t_nextFamily t_splits t_boilings t_fizzles ++ (w_X0 y ha hsb h_v h_oldest h_size ++ w_SL y sl ssb s_v))))) sz ro (w_X3 y a pa na ta ha sl q_saved q_runs q_themes_o q_storyHeats_o ++ (w_X1 y pa p_characters p_length ++ (w_X2 y na n_settings n_letters n_heats n_starts n_families n_generations n_tally_o n_stories n_nextFamily n_splits n_boilings n_fizzles ++ (w_X2 y ta t_settings t_letters t_heats t_starts t_families t_generations t_tally t_stories t_nextFamily t_splits t_boilings t_fizzles ++ (w_X0 y ha hsb h_v h_oldest h_size ++ w_SL y sl ssb s_v))))) := by
  refine M_i (cc := cX3_coolestPair) (maxL := 8) (own := RX3) (by decide) rfl rfl (Nat.le_of_ble_eq_true rfl) ?_
  intro p e s m args below meth c A Q F hK hA H locs hG hret ls hl
  have hx := F.1
  have hb := F.2.1
  have hl : lv_has ls 8 [(0, .ref (a 0)), (1, .int p1)] := hl
  have k0 := F.2.2.2.2 (.fieldLink RX3 10 "HeatedStories" "now" "LHeatedStories$Shelf;") (List.mem_of_getElem? (i := 1) rfl)
  have k1 : ∀ w ∈ wsX30, w ∈ wsX3_coolestPair := (fun w h => List.mem_cons_of_mem _ (List.mem_append_left _ (List.mem_append_right _ (h))))
  have k2 := F.2.2.2.2 (.fieldLink RX3 72 "HeatedStories$Shelf" "stories" "I") (List.mem_of_getElem? (i := 2) rfl)
  have k3 : ∀ w ∈ wsX20, w ∈ wsX3_coolestPair := (fun w h => List.mem_cons_of_mem _ (List.mem_append_right _ (h)))
  have k4 := F.2.2.2.2 (.fieldLink RX3 45 "HeatedStories" "themes" "[I") (List.mem_of_getElem? (i := 3) rfl)
  have k5 := F.2.2.2.2 (.fieldLink RX3 48 "HeatedStories" "storyHeats" "[I") (List.mem_of_getElem? (i := 4) rfl)
  unfold f_X3_coolestPair at hf
  refine lv_iload_n hx hb dX3_coolestPair_0 rfl (lv_at hl 1 rfl) ?_
  refine lv_iconst (v := nI 0) hx hb dX3_coolestPair_1 rfl ?_
  refine lv_iconst (v := nI 1) hx hb dX3_coolestPair_2 rfl ?_
  obtain ⟨r1, h2, hf⟩ := bd1_e hf
  refine k_Si F hK hA hG (c_X3_isWithin l D y  H.size Fu  p1 (nI 0) (nI 1) r1 h2) (va_cwS 3 F.2.2.2.2 gX3_coolestPair_X3_isWithin rfl rfl rfl (by decide +kernel) ⟨Nat.le_of_ble_eq_true rfl, Nat.le_of_ble_eq_true rfl⟩) rfl rfl hl.1 (Nat.le_of_ble_eq_true rfl) dX3_coolestPair_3 ⟨Nat.le_refl 0, Nat.le_refl 0⟩ (fun H locs hG => ?_)
  refine lv_if_ne (tgt := 12) hx hb dX3_coolestPair_6 (by decide) (fun c3 => ?_) (fun c3 => ?_)
  · have hf := if_e c3 hf
    refine lv_iconst (v := nI 0) hx hb dX3_coolestPair_12 rfl ?_
    refine lv_istore_n (lv' := [(2, .int (nI 0)), (0, .ref (a 0)), (1, .int p1)]) hx hb dX3_coolestPair_13 rfl hl (by decide) rfl (fun ls hl => ?_)
    obtain ⟨k_14, ek_14, hf⟩ := jn_e hf
    have hk_14 : ∀ (q_themes_16 : Ar) (q_storyHeats_17 : Ar) (n_tally_18 : Ar) (H : Heap) (locs : List Loc) (ls : Array Slot), k_14 q_themes_16 q_storyHeats_17 n_tally_18 = some (ro, q_themes_o, q_storyHeats_o, n_tally_o) → GG D A s.heap (w_X3 y a pa na ta ha sl q_saved q_runs q_themes_16 q_storyHeats_17 ++ (w_X1 y pa p_characters p_length ++ (w_X2 y na n_settings n_letters n_heats n_starts n_families n_generations n_tally_18 n_stories n_nextFamily n_splits n_boilings n_fizzles ++ (w_X2 y ta t_settings t_letters t_heats t_starts t_families t_generations t_tally t_stories t_nextFamily t_splits t_boilings t_fizzles ++ (w_X0 y ha hsb h_v h_oldest h_size ++ w_SL y sl ssb s_v))))) H locs → lv_has ls 8 [(0, .ref (a 0)), (1, .int p1)] → W p l e (RM 3 68) s m args below meth c H locs 0 0 Q (F0 m 59 ls []) := by
      intro q_themes_16 q_storyHeats_17 n_tally_18 H locs ls hf hG hl
      rw [ek_14] at hf
      refine lv_bipush (v := -6) hx hb dX3_coolestPair_59 rfl ?_
      refine lv_istore_n (lv' := [(2, .int (-6)), (0, .ref (a 0)), (1, .int p1)]) hx hb dX3_coolestPair_61 rfl hl (by decide) rfl (fun ls hl => ?_)
      refine lv_bipush (v := -6) hx hb dX3_coolestPair_62 rfl ?_
      refine lv_istore_n (lv' := [(3, .int (-6)), (2, .int (-6)), (0, .ref (a 0)), (1, .int p1)]) hx hb dX3_coolestPair_64 rfl hl (by decide) rfl (fun ls hl => ?_)
      refine lv_iconst (v := nI 0) hx hb dX3_coolestPair_65 rfl ?_
      refine lv_istore (lv' := [(4, .int (nI 0)), (3, .int (-6)), (2, .int (-6)), (0, .ref (a 0)), (1, .int p1)]) hx hb dX3_coolestPair_66 hl (by decide) rfl (fun ls hl => ?_)
      refine lv_iconst (v := nI 0) hx hb dX3_coolestPair_68 rfl ?_
      refine lv_istore (lv' := [(5, .int (nI 0)), (4, .int (nI 0)), (3, .int (-6)), (2, .int (-6)), (0, .ref (a 0)), (1, .int p1)]) hx hb dX3_coolestPair_69 hl (by decide) rfl (fun ls hl => ?_)
      obtain ⟨k_71, ek_71, hf⟩ := jn_e hf
      have hk_71 : ∀ (v43 : Int32) (v44 : Int32) (H : Heap) (locs : List Loc) (ls : Array Slot), k_71 v43 v44 = some (ro, q_themes_o, q_storyHeats_o, n_tally_o) → GG D A s.heap (w_X3 y a pa na ta ha sl q_saved q_runs q_themes_16 q_storyHeats_17 ++ (w_X1 y pa p_characters p_length ++ (w_X2 y na n_settings n_letters n_heats n_starts n_families n_generations n_tally_18 n_stories n_nextFamily n_splits n_boilings n_fizzles ++ (w_X2 y ta t_settings t_letters t_heats t_starts t_families t_generations t_tally t_stories t_nextFamily t_splits t_boilings t_fizzles ++ (w_X0 y ha hsb h_v h_oldest h_size ++ w_SL y sl ssb s_v))))) H locs → lv_has ls 8 [(1, .int p1), (2, .int v43), (3, .int v44)] → W p l e (RM 3 68) s m args below meth c H locs 0 0 Q (F0 m 170 ls []) := by
        intro v43 v44 H locs ls hf hG hl
        rw [ek_71] at hf
        refine lv_iload_n hx hb dX3_coolestPair_170 rfl (lv_at hl 0 rfl) ?_
        obtain ⟨v46, ev46, hf⟩ := nm_o hf
        have hJ : ∀ (ls : Array Slot), lv_has ls 8 [] → W p l e (RM 3 68) s m args below meth c H locs 0 0 Q (F0 m 179 ls [.int v46]) := by
          intro ls hl
          have hf := so_e hf
          have e0 : v46 = ro := congrArg (fun z => z.1) hf
          have e1 : q_themes_16 = q_themes_o := congrArg (fun z => z.2.1) hf
          have e2 : q_storyHeats_17 = q_storyHeats_o := congrArg (fun z => z.2.2.1) hf
          have e3 : n_tally_18 = n_tally_o := congrArg (fun z => z.2.2.2) hf
          exact hret _ _ _ _ _ e0 (by rw [← e1, ← e2, ← e3]; exact hG) dX3_coolestPair_179
        refine lv_if_ne (tgt := 178) hx hb dX3_coolestPair_171 (by decide) (fun c45 => ?_) (fun c45 => ?_)
        · refine lv_iload_n hx hb dX3_coolestPair_178 rfl (lv_at hl 2 rfl) ?_
          have qv46 := (ev46.trans (if_neg c45))
          subst qv46
          exact hJ ls (lv_sub hl [] rfl)
        · refine lv_iload_n hx hb dX3_coolestPair_174 rfl (lv_at hl 1 rfl) ?_
          refine lv_goto (tgt := 179) hx hb dX3_coolestPair_175 (by decide) ?_
          have qv46 := (ev46.trans (if_pos c45))
          subst qv46
          exact hJ ls (lv_sub hl [] rfl)
      have hL71 : ∀ (fu : Nat) (x19 : Int32) (x20 : Int32) (x21 : Int32) (x22 : Int32) (H : Heap) (locs : List Loc) (ls : Array Slot), f_X3_coolestPair_L71 Fu k_71 n_stories q_themes_16 q_storyHeats_17 fu x19 x20 x21 x22 = some (ro, q_themes_o, q_storyHeats_o, n_tally_o) → GG D A s.heap (w_X3 y a pa na ta ha sl q_saved q_runs q_themes_16 q_storyHeats_17 ++ (w_X1 y pa p_characters p_length ++ (w_X2 y na n_settings n_letters n_heats n_starts n_families n_generations n_tally_18 n_stories n_nextFamily n_splits n_boilings n_fizzles ++ (w_X2 y ta t_settings t_letters t_heats t_starts t_families t_generations t_tally t_stories t_nextFamily t_splits t_boilings t_fizzles ++ (w_X0 y ha hsb h_v h_oldest h_size ++ w_SL y sl ssb s_v))))) H locs → lv_has ls 8 [(0, .ref (a 0)), (1, .int p1), (2, .int x19), (3, .int x20), (4, .int x21), (5, .int x22)] → W p l e (RM 3 68) s m args below meth c H locs 0 0 Q (F0 m 71 ls []) := by
        intro fu
        induction fu with
        | zero => intro x19 x20 x21 x22 H locs ls hf hG hl; exact no_e hf
        | succ fu ih =>
          intro x19 x20 x21 x22 H locs ls hf hG hl
          rw [f_X3_coolestPair_L71_s] at hf
          refine lv_iload hx hb dX3_coolestPair_71 (lv_at hl 5 rfl) ?_
          refine lv_aload_n hx hb dX3_coolestPair_73 rfl (lv_at hl 0 rfl) ?_
          refine w_get3 F hK hG k1 0 rfl 0 (by decide) k0 rfl dX3_coolestPair_74 ?_
          refine w_get2 F hK hG k3 7 rfl 7 (by decide) k2 rfl dX3_coolestPair_77 ?_
          refine lv_icmp_ge (tgt := 170) hx hb dX3_coolestPair_80 (by decide) (fun c23 => ?_) (fun c23 => ?_)
          · have hf := it_e c23 hf
            exact hk_71 x19 x20 _ _ ls hf hG (lv_sub hl [1, 2, 3] rfl)
          · have hf := if_e c23 hf
            refine lv_iload hx hb dX3_coolestPair_83 (lv_at hl 5 rfl) ?_
            refine lv_iconst (v := nI 1) hx hb dX3_coolestPair_85 rfl ?_
            refine lv_iadd hx hb dX3_coolestPair_86 ?_
            refine lv_istore (lv' := [(6, .int (x22 + (nI 1))), (0, .ref (a 0)), (1, .int p1), (2, .int x19), (3, .int x20), (4, .int x21), (5, .int x22)]) hx hb dX3_coolestPair_87 hl (by decide) rfl (fun ls hl => ?_)
            obtain ⟨k_89, ek_89, hf⟩ := jn_e hf
            have hk_89 : ∀ (v40 : Int32) (v41 : Int32) (v42 : Int32) (H : Heap) (locs : List Loc) (ls : Array Slot), k_89 v40 v41 v42 = some (ro, q_themes_o, q_storyHeats_o, n_tally_o) → GG D A s.heap (w_X3 y a pa na ta ha sl q_saved q_runs q_themes_16 q_storyHeats_17 ++ (w_X1 y pa p_characters p_length ++ (w_X2 y na n_settings n_letters n_heats n_starts n_families n_generations n_tally_18 n_stories n_nextFamily n_splits n_boilings n_fizzles ++ (w_X2 y ta t_settings t_letters t_heats t_starts t_families t_generations t_tally t_stories t_nextFamily t_splits t_boilings t_fizzles ++ (w_X0 y ha hsb h_v h_oldest h_size ++ w_SL y sl ssb s_v))))) H locs → lv_has ls 8 [(0, .ref (a 0)), (1, .int p1), (2, .int v40), (3, .int v41), (4, .int v42), (5, .int x22)] → W p l e (RM 3 68) s m args below meth c H locs 0 0 Q (F0 m 164 ls []) := by
              intro v40 v41 v42 H locs ls hf hG hl
              rw [ek_89] at hf
              refine lv_iinc (v := x22 + (nI 1)) (lv' := [(5, .int (x22 + (nI 1))), (0, .ref (a 0)), (1, .int p1), (2, .int v40), (3, .int v41), (4, .int v42)]) hx hb dX3_coolestPair_164 hl (k := 5) rfl rfl (by decide) rfl (fun ls hl => ?_)
              refine lv_goto (tgt := 71) hx hb dX3_coolestPair_167 (by decide) ?_
              exact ih v40 v41 v42 (x22 + (nI 1)) _ _ ls hf hG (lv_sub hl [1, 2, 3, 4, 5, 0] rfl)
            have hL89 : ∀ (fu : Nat) (x24 : Int32) (x25 : Int32) (x26 : Int32) (x27 : Int32) (H : Heap) (locs : List Loc) (ls : Array Slot), f_X3_coolestPair_L89 Fu k_89 n_stories q_themes_16 q_storyHeats_17 x22 fu x24 x25 x26 x27 = some (ro, q_themes_o, q_storyHeats_o, n_tally_o) → GG D A s.heap (w_X3 y a pa na ta ha sl q_saved q_runs q_themes_16 q_storyHeats_17 ++ (w_X1 y pa p_characters p_length ++ (w_X2 y na n_settings n_letters n_heats n_starts n_families n_generations n_tally_18 n_stories n_nextFamily n_splits n_boilings n_fizzles ++ (w_X2 y ta t_settings t_letters t_heats t_starts t_families t_generations t_tally t_stories t_nextFamily t_splits t_boilings t_fizzles ++ (w_X0 y ha hsb h_v h_oldest h_size ++ w_SL y sl ssb s_v))))) H locs → lv_has ls 8 [(0, .ref (a 0)), (1, .int p1), (2, .int x24), (3, .int x25), (4, .int x26), (5, .int x22), (6, .int x27)] → W p l e (RM 3 68) s m args below meth c H locs 0 0 Q (F0 m 89 ls []) := by
              intro fu
              induction fu with
              | zero => intro x24 x25 x26 x27 H locs ls hf hG hl; exact no_e hf
              | succ fu ih =>
                intro x24 x25 x26 x27 H locs ls hf hG hl
                rw [f_X3_coolestPair_L89_s] at hf
                refine lv_iload hx hb dX3_coolestPair_89 (lv_at hl 6 rfl) ?_
                refine lv_aload_n hx hb dX3_coolestPair_91 rfl (lv_at hl 0 rfl) ?_
                refine w_get3 F hK hG k1 0 rfl 0 (by decide) k0 rfl dX3_coolestPair_92 ?_
                refine w_get2 F hK hG k3 7 rfl 7 (by decide) k2 rfl dX3_coolestPair_95 ?_
                refine lv_icmp_ge (tgt := 164) hx hb dX3_coolestPair_98 (by decide) (fun c28 => ?_) (fun c28 => ?_)
                · have hf := it_e c28 hf
                  exact hk_89 x24 x25 x26 _ _ ls hf hG (lv_sub hl [0, 1, 2, 3, 4, 5] rfl)
                · have hf := if_e c28 hf
                  refine lv_aload_n hx hb dX3_coolestPair_101 rfl (lv_at hl 0 rfl) ?_
                  refine w_get3 F hK hG k1 0 rfl 8 (by decide) k5 rfl dX3_coolestPair_102 ?_
                  refine lv_iload hx hb dX3_coolestPair_105 (lv_at hl 5 rfl) ?_
                  obtain ⟨g29, hf⟩ := gd_e hf
                  refine w_iald F hK hG 4 rfl g29 dX3_coolestPair_107 ?_
                  refine lv_aload_n hx hb dX3_coolestPair_108 rfl (lv_at hl 0 rfl) ?_
                  refine w_get3 F hK hG k1 0 rfl 8 (by decide) k5 rfl dX3_coolestPair_109 ?_
                  refine lv_iload hx hb dX3_coolestPair_112 (lv_at hl 6 rfl) ?_
                  obtain ⟨g30, hf⟩ := gd_e hf
                  refine w_iald F hK hG 4 rfl g30 dX3_coolestPair_114 ?_
                  refine lv_iadd hx hb dX3_coolestPair_115 ?_
                  obtain ⟨v31, ev31, hf⟩ := nm_o hf
                  refine w_nm ev31 ?_
                  refine lv_istore (lv' := [(7, .int v31), (0, .ref (a 0)), (1, .int p1), (2, .int x24), (3, .int x25), (4, .int x26), (5, .int x22), (6, .int x27)]) hx hb dX3_coolestPair_116 hl (by decide) rfl (fun ls hl => ?_)
                  refine lv_aload_n hx hb dX3_coolestPair_118 rfl (lv_at hl 1 rfl) ?_
                  refine w_get3 F hK hG k1 0 rfl 7 (by decide) k4 rfl dX3_coolestPair_119 ?_
                  refine lv_iload hx hb dX3_coolestPair_122 (lv_at hl 6 rfl) ?_
                  obtain ⟨g32, hf⟩ := gd_e hf
                  refine w_iald F hK hG 3 rfl g32 dX3_coolestPair_124 ?_
                  refine lv_aload_n hx hb dX3_coolestPair_125 rfl (lv_at hl 1 rfl) ?_
                  refine w_get3 F hK hG k1 0 rfl 7 (by decide) k4 rfl dX3_coolestPair_126 ?_
                  refine lv_iload hx hb dX3_coolestPair_129 (lv_at hl 7 rfl) ?_
                  obtain ⟨g33, hf⟩ := gd_e hf
                  refine w_iald F hK hG 3 rfl g33 dX3_coolestPair_131 ?_
                  obtain ⟨v37, ev37, hf⟩ := nm_o hf
                  obtain ⟨v38, ev38, hf⟩ := nm_o hf
                  obtain ⟨v39, ev39, hf⟩ := nm_o hf
                  have hJ : ∀ (ls : Array Slot), lv_has ls 8 [(0, .ref (a 0)), (1, .int p1), (2, .int v37), (3, .int v38), (4, .int v39), (5, .int x22), (6, .int x27)] → W p l e (RM 3 68) s m args below meth c H locs 0 0 Q (F0 m 158 ls []) := by
                    intro ls hl
                    refine lv_iinc (v := x27 + (nI 1)) (lv' := [(6, .int (x27 + (nI 1))), (0, .ref (a 0)), (1, .int p1), (2, .int v37), (3, .int v38), (4, .int v39), (5, .int x22)]) hx hb dX3_coolestPair_158 hl (k := 6) rfl rfl (by decide) rfl (fun ls hl => ?_)
                    refine lv_goto (tgt := 89) hx hb dX3_coolestPair_161 (by decide) ?_
                    exact ih v37 v38 v39 (x27 + (nI 1)) _ _ ls hf hG (lv_sub hl [1, 2, 3, 4, 5, 6, 0] rfl)
                  refine lv_icmp_ne (tgt := 158) hx hb dX3_coolestPair_132 (by decide) (fun c34 => ?_) (fun c34 => ?_)
                  · have qv37 := (ev37.trans (if_neg c34))
                    subst qv37
                    have qv38 := (ev38.trans (if_neg c34))
                    subst qv38
                    have qv39 := (ev39.trans (if_neg c34))
                    subst qv39
                    exact hJ ls (lv_sub hl [1, 2, 3, 4, 5, 6, 7] rfl)
                  · refine lv_iload_n hx hb dX3_coolestPair_135 rfl (lv_at hl 3 rfl) ?_
                    refine lv_bipush (v := -6) hx hb dX3_coolestPair_136 rfl ?_
                    refine lv_icmp_eq (tgt := 148) hx hb dX3_coolestPair_138 (by decide) (fun c35 => ?_) (fun c35 => ?_)
                    · refine lv_iload hx hb dX3_coolestPair_148 (lv_at hl 0 rfl) ?_
                      refine lv_istore (lv' := [(4, .int v31), (7, .int v31), (0, .ref (a 0)), (1, .int p1), (2, .int x24), (3, .int x25), (5, .int x22), (6, .int x27)]) hx hb dX3_coolestPair_150 hl (by decide) rfl (fun ls hl => ?_)
                      refine lv_iload hx hb dX3_coolestPair_152 (lv_at hl 6 rfl) ?_
                      refine lv_istore_n (lv' := [(2, .int x22), (4, .int v31), (7, .int v31), (0, .ref (a 0)), (1, .int p1), (3, .int x25), (5, .int x22), (6, .int x27)]) hx hb dX3_coolestPair_154 rfl hl (by decide) rfl (fun ls hl => ?_)
                      refine lv_iload hx hb dX3_coolestPair_155 (lv_at hl 7 rfl) ?_
                      refine lv_istore_n (lv' := [(3, .int x27), (2, .int x22), (4, .int v31), (7, .int v31), (0, .ref (a 0)), (1, .int p1), (5, .int x22), (6, .int x27)]) hx hb dX3_coolestPair_157 rfl hl (by decide) rfl (fun ls hl => ?_)
                      have qv37 := ((ev37.trans (if_pos c34)).trans (if_pos c35))
                      subst qv37
                      have qv38 := ((ev38.trans (if_pos c34)).trans (if_pos c35))
                      subst qv38
                      have qv39 := ((ev39.trans (if_pos c34)).trans (if_pos c35))
                      subst qv39
                      exact hJ ls (lv_sub hl [4, 5, 1, 0, 2, 6, 7] rfl)
                    · refine lv_iload hx hb dX3_coolestPair_141 (lv_at hl 0 rfl) ?_
                      refine lv_iload hx hb dX3_coolestPair_143 (lv_at hl 5 rfl) ?_
                      refine lv_icmp_ge (tgt := 158) hx hb dX3_coolestPair_145 (by decide) (fun c36 => ?_) (fun c36 => ?_)
                      · have qv37 := (((ev37.trans (if_pos c34)).trans (if_neg c35)).trans (if_pos c36))
                        subst qv37
                        have qv38 := (((ev38.trans (if_pos c34)).trans (if_neg c35)).trans (if_pos c36))
                        subst qv38
                        have qv39 := (((ev39.trans (if_pos c34)).trans (if_neg c35)).trans (if_pos c36))
                        subst qv39
                        exact hJ ls (lv_sub hl [1, 2, 3, 4, 5, 6, 7] rfl)
                      · refine lv_iload hx hb dX3_coolestPair_148 (lv_at hl 0 rfl) ?_
                        refine lv_istore (lv' := [(4, .int v31), (7, .int v31), (0, .ref (a 0)), (1, .int p1), (2, .int x24), (3, .int x25), (5, .int x22), (6, .int x27)]) hx hb dX3_coolestPair_150 hl (by decide) rfl (fun ls hl => ?_)
                        refine lv_iload hx hb dX3_coolestPair_152 (lv_at hl 6 rfl) ?_
                        refine lv_istore_n (lv' := [(2, .int x22), (4, .int v31), (7, .int v31), (0, .ref (a 0)), (1, .int p1), (3, .int x25), (5, .int x22), (6, .int x27)]) hx hb dX3_coolestPair_154 rfl hl (by decide) rfl (fun ls hl => ?_)
                        refine lv_iload hx hb dX3_coolestPair_155 (lv_at hl 7 rfl) ?_
                        refine lv_istore_n (lv' := [(3, .int x27), (2, .int x22), (4, .int v31), (7, .int v31), (0, .ref (a 0)), (1, .int p1), (5, .int x22), (6, .int x27)]) hx hb dX3_coolestPair_157 rfl hl (by decide) rfl (fun ls hl => ?_)
                        have qv37 := (((ev37.trans (if_pos c34)).trans (if_neg c35)).trans (if_neg c36))
                        subst qv37
                        have qv38 := (((ev38.trans (if_pos c34)).trans (if_neg c35)).trans (if_neg c36))
                        subst qv38
                        have qv39 := (((ev39.trans (if_pos c34)).trans (if_neg c35)).trans (if_neg c36))
                        subst qv39
                        exact hJ ls (lv_sub hl [4, 5, 1, 0, 2, 6, 7] rfl)
            exact hL89 Fu x19 x20 x21 (x22 + (nI 1)) _ _ ls hf hG (lv_sub hl [1, 2, 3, 4, 5, 6, 0] rfl)
      exact hL71 Fu (-6) (-6) (nI 0) (nI 0) _ _ ls hf hG (lv_sub hl [4, 5, 3, 2, 1, 0] rfl)
    have hL14 : ∀ (fu : Nat) (x4 : Int32) (q_themes_5 : Ar) (q_storyHeats_6 : Ar) (n_tally_7 : Ar) (H : Heap) (locs : List Loc) (ls : Array Slot), f_X3_coolestPair_L14 Fu k_14 n_letters n_heats n_starts n_stories fu x4 q_themes_5 q_storyHeats_6 n_tally_7 = some (ro, q_themes_o, q_storyHeats_o, n_tally_o) → GG D A s.heap (w_X3 y a pa na ta ha sl q_saved q_runs q_themes_5 q_storyHeats_6 ++ (w_X1 y pa p_characters p_length ++ (w_X2 y na n_settings n_letters n_heats n_starts n_families n_generations n_tally_7 n_stories n_nextFamily n_splits n_boilings n_fizzles ++ (w_X2 y ta t_settings t_letters t_heats t_starts t_families t_generations t_tally t_stories t_nextFamily t_splits t_boilings t_fizzles ++ (w_X0 y ha hsb h_v h_oldest h_size ++ w_SL y sl ssb s_v))))) H locs → lv_has ls 8 [(0, .ref (a 0)), (1, .int p1), (2, .int x4)] → W p l e (RM 3 68) s m args below meth c H locs 0 0 Q (F0 m 14 ls []) := by
      intro fu
      induction fu with
      | zero => intro x4 q_themes_5 q_storyHeats_6 n_tally_7 H locs ls hf hG hl; exact no_e hf
      | succ fu ih =>
        intro x4 q_themes_5 q_storyHeats_6 n_tally_7 H locs ls hf hG hl
        rw [f_X3_coolestPair_L14_s] at hf
        refine lv_iload_n hx hb dX3_coolestPair_14 rfl (lv_at hl 2 rfl) ?_
        refine lv_aload_n hx hb dX3_coolestPair_15 rfl (lv_at hl 0 rfl) ?_
        refine w_get3 F hK hG k1 0 rfl 0 (by decide) k0 rfl dX3_coolestPair_16 ?_
        refine w_get2 F hK hG k3 7 rfl 7 (by decide) k2 rfl dX3_coolestPair_19 ?_
        refine lv_icmp_ge (tgt := 59) hx hb dX3_coolestPair_22 (by decide) (fun c8 => ?_) (fun c8 => ?_)
        · have hf := it_e c8 hf
          exact hk_14 q_themes_5 q_storyHeats_6 n_tally_7 _ _ ls hf hG (lv_sub hl [0, 1] rfl)
        · have hf := if_e c8 hf
          refine lv_aload_n hx hb dX3_coolestPair_25 rfl (lv_at hl 0 rfl) ?_
          refine w_get3 F hK hG k1 0 rfl 7 (by decide) k4 rfl dX3_coolestPair_26 ?_
          refine lv_iload_n hx hb dX3_coolestPair_29 rfl (lv_at hl 2 rfl) ?_
          refine lv_aload_n hx hb dX3_coolestPair_30 rfl (lv_at hl 0 rfl) ?_
          refine w_get3 F hK hG k1 0 rfl 0 (by decide) k0 rfl dX3_coolestPair_31 ?_
          refine lv_iload_n hx hb dX3_coolestPair_34 rfl (lv_at hl 2 rfl) ?_
          obtain ⟨r9, n_tally_10, h11, hf⟩ := bd2_e hf
          have hG : GG D A s.heap ((w_X2 y na n_settings n_letters n_heats n_starts n_families n_generations n_tally_7 n_stories n_nextFamily n_splits n_boilings n_fizzles) ++ (w_X3 y a pa na ta ha sl q_saved q_runs q_themes_5 q_storyHeats_6 ++ (w_X1 y pa p_characters p_length ++ (w_X2 y ta t_settings t_letters t_heats t_starts t_families t_generations t_tally t_stories t_nextFamily t_splits t_boilings t_fizzles ++ (w_X0 y ha hsb h_v h_oldest h_size ++ (w_SL y sl ssb s_v)))))) H locs := GG.blk (fun k => match k with | 0 => w_X3 y a pa na ta ha sl q_saved q_runs q_themes_5 q_storyHeats_6 | 1 => w_X1 y pa p_characters p_length | 2 => w_X2 y na n_settings n_letters n_heats n_starts n_families n_generations n_tally_7 n_stories n_nextFamily n_splits n_boilings n_fizzles | 3 => w_X2 y ta t_settings t_letters t_heats t_starts t_families t_generations t_tally t_stories t_nextFamily t_splits t_boilings t_fizzles | 4 => w_X0 y ha hsb h_v h_oldest h_size | _ => w_SL y sl ssb s_v) [0, 1, 2, 3, 4, 5] [2, 0, 1, 3, 4, 5] (blkp _ _ rfl) _ _ rfl rfl hG
          refine k_Pi F hK hA hG (c_X2_themeOf l D y na H.size Fu n_settings n_letters n_heats n_starts n_families n_generations n_tally_7 n_stories n_nextFamily n_splits n_boilings n_fizzles x4 r9 n_tally_10 h11) (cwV 1 F.2.2.2.2 gX3_coolestPair_X2_themeOf rfl rfl rfl (by decide +kernel) ⟨Nat.le_of_ble_eq_true rfl, Nat.le_of_ble_eq_true rfl⟩) 0 rfl rfl rfl rfl rfl hl.1 (Nat.le_of_ble_eq_true rfl) dX3_coolestPair_35 ⟨Nat.le_refl 0, Nat.le_refl 0⟩ (fun H locs hG => ?_)
          have hG : GG D A s.heap (w_X3 y a pa na ta ha sl q_saved q_runs q_themes_5 q_storyHeats_6 ++ (w_X1 y pa p_characters p_length ++ (w_X2 y na n_settings n_letters n_heats n_starts n_families n_generations n_tally_10 n_stories n_nextFamily n_splits n_boilings n_fizzles ++ (w_X2 y ta t_settings t_letters t_heats t_starts t_families t_generations t_tally t_stories t_nextFamily t_splits t_boilings t_fizzles ++ (w_X0 y ha hsb h_v h_oldest h_size ++ w_SL y sl ssb s_v))))) H locs := GG.blk (fun k => match k with | 0 => w_X3 y a pa na ta ha sl q_saved q_runs q_themes_5 q_storyHeats_6 | 1 => w_X1 y pa p_characters p_length | 2 => w_X2 y na n_settings n_letters n_heats n_starts n_families n_generations n_tally_10 n_stories n_nextFamily n_splits n_boilings n_fizzles | 3 => w_X2 y ta t_settings t_letters t_heats t_starts t_families t_generations t_tally t_stories t_nextFamily t_splits t_boilings t_fizzles | 4 => w_X0 y ha hsb h_v h_oldest h_size | _ => w_SL y sl ssb s_v) [2, 0, 1, 3, 4, 5] [0, 1, 2, 3, 4, 5] (blkp _ _ rfl) _ _ rfl rfl hG
          obtain ⟨g12, hf⟩ := gd_e hf
          refine w_iast F hK hG 3 rfl g12 (w_X3 y a pa na ta ha sl q_saved q_runs (upd q_themes_5 (x4).toNatClampNeg r9) q_storyHeats_6 ++ (w_X1 y pa p_characters p_length ++ (w_X2 y na n_settings n_letters n_heats n_starts n_families n_generations n_tally_10 n_stories n_nextFamily n_splits n_boilings n_fizzles ++ (w_X2 y ta t_settings t_letters t_heats t_starts t_families t_generations t_tally t_stories t_nextFamily t_splits t_boilings t_fizzles ++ (w_X0 y ha hsb h_v h_oldest h_size ++ w_SL y sl ssb s_v))))) rfl dX3_coolestPair_38 (fun H locs hG => ?_)
          refine lv_aload_n hx hb dX3_coolestPair_39 rfl (lv_at hl 0 rfl) ?_
          refine w_get3 F hK hG k1 0 rfl 8 (by decide) k5 rfl dX3_coolestPair_40 ?_
          refine lv_iload_n hx hb dX3_coolestPair_43 rfl (lv_at hl 2 rfl) ?_
          refine lv_aload_n hx hb dX3_coolestPair_44 rfl (lv_at hl 0 rfl) ?_
          refine w_get3 F hK hG k1 0 rfl 0 (by decide) k0 rfl dX3_coolestPair_45 ?_
          refine lv_iload_n hx hb dX3_coolestPair_48 rfl (lv_at hl 2 rfl) ?_
          obtain ⟨r13, h14, hf⟩ := bd1_e hf
          have hG : GG D A s.heap ((w_X2 y na n_settings n_letters n_heats n_starts n_families n_generations n_tally_10 n_stories n_nextFamily n_splits n_boilings n_fizzles) ++ (w_X3 y a pa na ta ha sl q_saved q_runs (upd q_themes_5 (x4).toNatClampNeg r9) q_storyHeats_6 ++ (w_X1 y pa p_characters p_length ++ (w_X2 y ta t_settings t_letters t_heats t_starts t_families t_generations t_tally t_stories t_nextFamily t_splits t_boilings t_fizzles ++ (w_X0 y ha hsb h_v h_oldest h_size ++ (w_SL y sl ssb s_v)))))) H locs := GG.blk (fun k => match k with | 0 => w_X3 y a pa na ta ha sl q_saved q_runs (upd q_themes_5 (x4).toNatClampNeg r9) q_storyHeats_6 | 1 => w_X1 y pa p_characters p_length | 2 => w_X2 y na n_settings n_letters n_heats n_starts n_families n_generations n_tally_10 n_stories n_nextFamily n_splits n_boilings n_fizzles | 3 => w_X2 y ta t_settings t_letters t_heats t_starts t_families t_generations t_tally t_stories t_nextFamily t_splits t_boilings t_fizzles | 4 => w_X0 y ha hsb h_v h_oldest h_size | _ => w_SL y sl ssb s_v) [0, 1, 2, 3, 4, 5] [2, 0, 1, 3, 4, 5] (blkp _ _ rfl) _ _ rfl rfl hG
          refine k_Pi F hK hA hG (c_X2_heatOf l D y na H.size Fu n_settings n_letters n_heats n_starts n_families n_generations n_tally_10 n_stories n_nextFamily n_splits n_boilings n_fizzles x4 r13 h14) (cwV 1 F.2.2.2.2 gX3_coolestPair_X2_heatOf rfl rfl rfl (by decide +kernel) ⟨Nat.le_of_ble_eq_true rfl, Nat.le_of_ble_eq_true rfl⟩) 0 rfl rfl rfl rfl rfl hl.1 (Nat.le_of_ble_eq_true rfl) dX3_coolestPair_49 ⟨Nat.le_refl 0, Nat.le_refl 0⟩ (fun H locs hG => ?_)
          have hG : GG D A s.heap (w_X3 y a pa na ta ha sl q_saved q_runs (upd q_themes_5 (x4).toNatClampNeg r9) q_storyHeats_6 ++ (w_X1 y pa p_characters p_length ++ (w_X2 y na n_settings n_letters n_heats n_starts n_families n_generations n_tally_10 n_stories n_nextFamily n_splits n_boilings n_fizzles ++ (w_X2 y ta t_settings t_letters t_heats t_starts t_families t_generations t_tally t_stories t_nextFamily t_splits t_boilings t_fizzles ++ (w_X0 y ha hsb h_v h_oldest h_size ++ w_SL y sl ssb s_v))))) H locs := GG.blk (fun k => match k with | 0 => w_X3 y a pa na ta ha sl q_saved q_runs (upd q_themes_5 (x4).toNatClampNeg r9) q_storyHeats_6 | 1 => w_X1 y pa p_characters p_length | 2 => w_X2 y na n_settings n_letters n_heats n_starts n_families n_generations n_tally_10 n_stories n_nextFamily n_splits n_boilings n_fizzles | 3 => w_X2 y ta t_settings t_letters t_heats t_starts t_families t_generations t_tally t_stories t_nextFamily t_splits t_boilings t_fizzles | 4 => w_X0 y ha hsb h_v h_oldest h_size | _ => w_SL y sl ssb s_v) [2, 0, 1, 3, 4, 5] [0, 1, 2, 3, 4, 5] (blkp _ _ rfl) _ _ rfl rfl hG
          obtain ⟨g15, hf⟩ := gd_e hf
          refine w_iast F hK hG 4 rfl g15 (w_X3 y a pa na ta ha sl q_saved q_runs (upd q_themes_5 (x4).toNatClampNeg r9) (upd q_storyHeats_6 (x4).toNatClampNeg r13) ++ (w_X1 y pa p_characters p_length ++ (w_X2 y na n_settings n_letters n_heats n_starts n_families n_generations n_tally_10 n_stories n_nextFamily n_splits n_boilings n_fizzles ++ (w_X2 y ta t_settings t_letters t_heats t_starts t_families t_generations t_tally t_stories t_nextFamily t_splits t_boilings t_fizzles ++ (w_X0 y ha hsb h_v h_oldest h_size ++ w_SL y sl ssb s_v))))) rfl dX3_coolestPair_52 (fun H locs hG => ?_)
          refine lv_iinc (v := x4 + (nI 1)) (lv' := [(2, .int (x4 + (nI 1))), (0, .ref (a 0)), (1, .int p1)]) hx hb dX3_coolestPair_53 hl (k := 2) rfl rfl (by decide) rfl (fun ls hl => ?_)
          refine lv_goto (tgt := 14) hx hb dX3_coolestPair_56 (by decide) ?_
          exact ih (x4 + (nI 1)) (upd q_themes_5 (x4).toNatClampNeg r9) (upd q_storyHeats_6 (x4).toNatClampNeg r13) n_tally_10 _ _ ls hf hG (lv_sub hl [1, 2, 0] rfl)
    exact hL14 Fu (nI 0) q_themes q_storyHeats n_tally _ _ ls hf hG (lv_sub hl [1, 2, 0] rfl)
  · have hf := it_e c3 hf
    refine lv_bipush (v := -2) hx hb dX3_coolestPair_9 rfl ?_
    have hf := so_e hf
    have e0 : (-2) = ro := congrArg (fun z => z.1) hf
    have e1 : q_themes = q_themes_o := congrArg (fun z => z.2.1) hf
    have e2 : q_storyHeats = q_storyHeats_o := congrArg (fun z => z.2.2.1) hf
    have e3 : n_tally = n_tally_o := congrArg (fun z => z.2.2.2) hf
    exact hret _ _ _ _ _ e0 (by rw [← e1, ← e2, ← e3]; exact hG) dX3_coolestPair_11
set_option maxHeartbeats 1000000 in
set_option maxRecDepth 100000 in
theorem c_X3_put (l : Launch) (D : va_G) (y : Nat → ClassId) (a pa na ta ha : Nat → Nat) (hsb : Nat → Nat → Nat) (sl : Nat) (ssb : Nat → Nat → Nat) (sz : Nat) (Fu : Nat) (q_saved : Ar) (q_runs : Ar) (q_themes : Ar) (q_storyHeats : Ar) (p_characters : Ar) (p_length : Int32) (n_settings : Ar) (n_letters : Ar) (n_heats : Ar) (n_starts : Ar) (n_families : Ar) (n_generations : Ar) (n_tally : Ar) (n_stories : Int32) (n_nextFamily : Int32) (n_splits : Int32) (n_boilings : Int32) (n_fizzles : Int32) (t_settings : Ar) (t_letters : Ar) (t_heats : Ar) (t_starts : Ar) (t_families : Ar) (t_generations : Ar) (t_tally : Ar) (t_stories : Int32) (t_nextFamily : Int32) (t_splits : Int32) (t_boilings : Int32) (t_fizzles : Int32) (h_v : (Nat → SV)) (h_oldest : Int32) (h_size : Int32) (s_v : (Nat → SV)) (p1 : Int64) (ro : Int32) (p_characters_o : Ar) (p_length_o : Int32) (hf : f_X3_put Fu p_characters p_length p1 = some (ro, p_characters_o, p_length_o)) : MI l yX3_put wsX3_put 2 46 [.ref (a 0), .long p1] D y (w_X3 y a pa na ta ha sl q_saved q_runs q_themes q_storyHeats ++ (w_X1 y pa p_characters p_length ++ (w_X2 y na n_settings n_letters n_heats n_starts n_families n_generations n_tally n_stories n_nextFamily n_splits n_boilings n_fizzles ++ (w_X2 y ta t_settings t_letters t_heats t_starts t_families t_generations t_tally t_stories t_nextFamily t_splits t_boilings t_fizzles ++ (w_X0 y ha hsb h_v h_oldest h_size ++ w_SL y sl ssb s_v))))) sz ro (w_X3 y a pa na ta ha sl q_saved q_runs q_themes q_storyHeats ++ (w_X1 y pa p_characters_o p_length_o ++ (w_X2 y na n_settings n_letters n_heats n_starts n_families n_generations n_tally n_stories n_nextFamily n_splits n_boilings n_fizzles ++ (w_X2 y ta t_settings t_letters t_heats t_starts t_families t_generations t_tally t_stories t_nextFamily t_splits t_boilings t_fizzles ++ (w_X0 y ha hsb h_v h_oldest h_size ++ w_SL y sl ssb s_v))))) := by
  refine M_i (cc := cX3_put) (maxL := 4) (own := RX3) (by decide) rfl rfl (Nat.le_of_ble_eq_true rfl) ?_
  intro p e s m args below meth c A Q F hK hA H locs hG hret ls hl
  have hx := F.1
  have hb := F.2.1
  have hl : lv_has ls 4 [(0, .ref (a 0)), (1, .long p1)] := hl
  have k0 := F.2.2.2.2 (.fieldLink RX3 37 "HeatedStories" "pad" "LHeatedStories$Pad;") (List.mem_of_getElem? (i := 1) rfl)
  have k1 : ∀ w ∈ wsX30, w ∈ wsX3_put := (fun w h => List.mem_cons_of_mem _ (List.mem_append_left _ (List.mem_append_right _ (h))))
  have k2 := F.2.2.2.2 (.fieldLink RX3 88 "HeatedStories$Pad" "length" "I") (List.mem_of_getElem? (i := 2) rfl)
  have k3 : ∀ w ∈ wsX10, w ∈ wsX3_put := (fun w h => List.mem_cons_of_mem _ (List.mem_append_right _ (h)))
  unfold f_X3_put at hf
  refine lv_lload_n hx hb dX3_put_0 rfl (lv_at hl 1 rfl) ?_
  obtain ⟨r1, h2, hf⟩ := bd1_e hf
  refine k_Si F hK hA hG (c_X1_charactersIn l D y  H.size Fu  p1 r1 h2) (va_cwS 1 F.2.2.2.2 gX3_put_X1_charactersIn rfl rfl rfl (by decide +kernel) ⟨Nat.le_of_ble_eq_true rfl, Nat.le_of_ble_eq_true rfl⟩) rfl rfl hl.1 (Nat.le_of_ble_eq_true rfl) dX3_put_1 ⟨Nat.le_refl 0, Nat.le_refl 0⟩ (fun H locs hG => ?_)
  refine lv_istore_n (lv' := [(3, .int r1), (0, .ref (a 0)), (1, .long p1)]) hx hb dX3_put_4 rfl hl (by decide) rfl (fun ls hl => ?_)
  refine lv_iload_n hx hb dX3_put_5 rfl (lv_at hl 0 rfl) ?_
  refine lv_if_ne (tgt := 12) hx hb dX3_put_6 (by decide) (fun c3 => ?_) (fun c3 => ?_)
  · have hf := if_e c3 hf
    refine lv_aload_n hx hb dX3_put_12 rfl (lv_at hl 1 rfl) ?_
    refine w_get3 F hK hG k1 0 rfl 5 (by decide) k0 rfl dX3_put_13 ?_
    refine w_get1 F hK hG k3 5 rfl 1 (by decide) k2 rfl dX3_put_16 ?_
    refine lv_iload_n hx hb dX3_put_19 rfl (lv_at hl 0 rfl) ?_
    refine lv_iadd hx hb dX3_put_20 ?_
    refine lv_bipush (v := nI 60) hx hb dX3_put_21 rfl ?_
    refine lv_icmp_le (tgt := 29) hx hb dX3_put_23 (by decide) (fun c4 => ?_) (fun c4 => ?_)
    · have hf := it_e c4 hf
      refine lv_aload_n hx hb dX3_put_29 rfl (lv_at hl 1 rfl) ?_
      refine w_get3 F hK hG k1 0 rfl 5 (by decide) k0 rfl dX3_put_30 ?_
      refine lv_lload_n hx hb dX3_put_33 rfl (lv_at hl 2 rfl) ?_
      refine lv_iload_n hx hb dX3_put_34 rfl (lv_at hl 0 rfl) ?_
      obtain ⟨p_characters_5, p_length_6, h7, hf⟩ := bd2_e hf
      have hG : GG D A s.heap ((w_X1 y pa p_characters p_length) ++ (w_X3 y a pa na ta ha sl q_saved q_runs q_themes q_storyHeats ++ (w_X2 y na n_settings n_letters n_heats n_starts n_families n_generations n_tally n_stories n_nextFamily n_splits n_boilings n_fizzles ++ (w_X2 y ta t_settings t_letters t_heats t_starts t_families t_generations t_tally t_stories t_nextFamily t_splits t_boilings t_fizzles ++ (w_X0 y ha hsb h_v h_oldest h_size ++ (w_SL y sl ssb s_v)))))) H locs := GG.blk (fun k => match k with | 0 => w_X3 y a pa na ta ha sl q_saved q_runs q_themes q_storyHeats | 1 => w_X1 y pa p_characters p_length | 2 => w_X2 y na n_settings n_letters n_heats n_starts n_families n_generations n_tally n_stories n_nextFamily n_splits n_boilings n_fizzles | 3 => w_X2 y ta t_settings t_letters t_heats t_starts t_families t_generations t_tally t_stories t_nextFamily t_splits t_boilings t_fizzles | 4 => w_X0 y ha hsb h_v h_oldest h_size | _ => w_SL y sl ssb s_v) [0, 1, 2, 3, 4, 5] [1, 0, 2, 3, 4, 5] (blkp _ _ rfl) _ _ rfl rfl hG
      refine k_Pv F hK hA hG (c_X1_add l D y pa H.size Fu p_characters p_length p1 r1 p_characters_5 p_length_6 h7) (cwV 2 F.2.2.2.2 gX3_put_X1_add rfl rfl rfl (by decide +kernel) ⟨Nat.le_of_ble_eq_true rfl, Nat.le_of_ble_eq_true rfl⟩) 0 rfl rfl rfl rfl rfl hl.1 (Nat.le_of_ble_eq_true rfl) dX3_put_35 ⟨Nat.le_refl 0, Nat.le_refl 0⟩ (fun H locs hG => ?_)
      have hG : GG D A s.heap (w_X3 y a pa na ta ha sl q_saved q_runs q_themes q_storyHeats ++ (w_X1 y pa p_characters_5 p_length_6 ++ (w_X2 y na n_settings n_letters n_heats n_starts n_families n_generations n_tally n_stories n_nextFamily n_splits n_boilings n_fizzles ++ (w_X2 y ta t_settings t_letters t_heats t_starts t_families t_generations t_tally t_stories t_nextFamily t_splits t_boilings t_fizzles ++ (w_X0 y ha hsb h_v h_oldest h_size ++ w_SL y sl ssb s_v))))) H locs := GG.blk (fun k => match k with | 0 => w_X3 y a pa na ta ha sl q_saved q_runs q_themes q_storyHeats | 1 => w_X1 y pa p_characters_5 p_length_6 | 2 => w_X2 y na n_settings n_letters n_heats n_starts n_families n_generations n_tally n_stories n_nextFamily n_splits n_boilings n_fizzles | 3 => w_X2 y ta t_settings t_letters t_heats t_starts t_families t_generations t_tally t_stories t_nextFamily t_splits t_boilings t_fizzles | 4 => w_X0 y ha hsb h_v h_oldest h_size | _ => w_SL y sl ssb s_v) [1, 0, 2, 3, 4, 5] [0, 1, 2, 3, 4, 5] (blkp _ _ rfl) _ _ rfl rfl hG
      refine lv_aload_n hx hb dX3_put_38 rfl (lv_at hl 1 rfl) ?_
      refine w_get3 F hK hG k1 0 rfl 5 (by decide) k0 rfl dX3_put_39 ?_
      refine w_get1 F hK hG k3 5 rfl 1 (by decide) k2 rfl dX3_put_42 ?_
      have hf := so_e hf
      have e0 : p_length_6 = ro := congrArg (fun z => z.1) hf
      have e1 : p_characters_5 = p_characters_o := congrArg (fun z => z.2.1) hf
      have e2 : p_length_6 = p_length_o := congrArg (fun z => z.2.2) hf
      exact hret _ _ _ _ _ e0 (by rw [← e1, ← e2]; exact hG) dX3_put_45
    · have hf := if_e c4 hf
      refine lv_bipush (v := -4) hx hb dX3_put_26 rfl ?_
      have hf := so_e hf
      have e0 : (-4) = ro := congrArg (fun z => z.1) hf
      have e1 : p_characters = p_characters_o := congrArg (fun z => z.2.1) hf
      have e2 : p_length = p_length_o := congrArg (fun z => z.2.2) hf
      exact hret _ _ _ _ _ e0 (by rw [← e1, ← e2]; exact hG) dX3_put_28
  · have hf := it_e c3 hf
    refine lv_bipush (v := -2) hx hb dX3_put_9 rfl ?_
    have hf := so_e hf
    have e0 : (-2) = ro := congrArg (fun z => z.1) hf
    have e1 : p_characters = p_characters_o := congrArg (fun z => z.2.1) hf
    have e2 : p_length = p_length_o := congrArg (fun z => z.2.2) hf
    exact hret _ _ _ _ _ e0 (by rw [← e1, ← e2]; exact hG) dX3_put_11
set_option maxHeartbeats 1000000 in
set_option maxRecDepth 100000 in
theorem c_X3_wipe (l : Launch) (D : va_G) (y : Nat → ClassId) (a pa na ta ha : Nat → Nat) (hsb : Nat → Nat → Nat) (sl : Nat) (ssb : Nat → Nat → Nat) (sz : Nat) (Fu : Nat) (q_saved : Ar) (q_runs : Ar) (q_themes : Ar) (q_storyHeats : Ar) (p_characters : Ar) (p_length : Int32) (n_settings : Ar) (n_letters : Ar) (n_heats : Ar) (n_starts : Ar) (n_families : Ar) (n_generations : Ar) (n_tally : Ar) (n_stories : Int32) (n_nextFamily : Int32) (n_splits : Int32) (n_boilings : Int32) (n_fizzles : Int32) (t_settings : Ar) (t_letters : Ar) (t_heats : Ar) (t_starts : Ar) (t_families : Ar) (t_generations : Ar) (t_tally : Ar) (t_stories : Int32) (t_nextFamily : Int32) (t_splits : Int32) (t_boilings : Int32) (t_fizzles : Int32) (h_v : (Nat → SV)) (h_oldest : Int32) (h_size : Int32) (s_v : (Nat → SV)) (ro : Int32) (p_length_o : Int32) (hf : f_X3_wipe Fu p_length = some (ro, p_length_o)) : MI l yX3_wipe wsX3_wipe 0 0 [.ref (a 0)] D y (w_X3 y a pa na ta ha sl q_saved q_runs q_themes q_storyHeats ++ (w_X1 y pa p_characters p_length ++ (w_X2 y na n_settings n_letters n_heats n_starts n_families n_generations n_tally n_stories n_nextFamily n_splits n_boilings n_fizzles ++ (w_X2 y ta t_settings t_letters t_heats t_starts t_families t_generations t_tally t_stories t_nextFamily t_splits t_boilings t_fizzles ++ (w_X0 y ha hsb h_v h_oldest h_size ++ w_SL y sl ssb s_v))))) sz ro (w_X3 y a pa na ta ha sl q_saved q_runs q_themes q_storyHeats ++ (w_X1 y pa p_characters p_length_o ++ (w_X2 y na n_settings n_letters n_heats n_starts n_families n_generations n_tally n_stories n_nextFamily n_splits n_boilings n_fizzles ++ (w_X2 y ta t_settings t_letters t_heats t_starts t_families t_generations t_tally t_stories t_nextFamily t_splits t_boilings t_fizzles ++ (w_X0 y ha hsb h_v h_oldest h_size ++ w_SL y sl ssb s_v))))) := by
  refine M_i (cc := cX3_wipe) (maxL := 2) (own := RX3) (by decide) rfl rfl (Nat.le_of_ble_eq_true rfl) ?_
  intro p e s m args below meth c A Q F hK hA H locs hG hret ls hl
  have hx := F.1
  have hb := F.2.1
  have hl : lv_has ls 2 [(0, .ref (a 0))] := hl
  have k0 := F.2.2.2.2 (.fieldLink RX3 37 "HeatedStories" "pad" "LHeatedStories$Pad;") (List.mem_of_getElem? (i := 1) rfl)
  have k1 : ∀ w ∈ wsX30, w ∈ wsX3_wipe := (fun w h => List.mem_cons_of_mem _ (List.mem_append_left _ (List.mem_append_right _ (h))))
  have k2 := F.2.2.2.2 (.fieldLink RX3 88 "HeatedStories$Pad" "length" "I") (List.mem_of_getElem? (i := 2) rfl)
  have k3 : ∀ w ∈ wsX10, w ∈ wsX3_wipe := (fun w h => List.mem_cons_of_mem _ (List.mem_append_right _ (h)))
  unfold f_X3_wipe at hf
  refine lv_aload_n hx hb dX3_wipe_0 rfl (lv_at hl 0 rfl) ?_
  refine w_get3 F hK hG k1 0 rfl 5 (by decide) k0 rfl dX3_wipe_1 ?_
  refine w_get1 F hK hG k3 5 rfl 1 (by decide) k2 rfl dX3_wipe_4 ?_
  refine lv_istore_n (lv' := [(1, .int p_length), (0, .ref (a 0))]) hx hb dX3_wipe_7 rfl hl (by decide) rfl (fun ls hl => ?_)
  refine lv_aload_n hx hb dX3_wipe_8 rfl (lv_at hl 1 rfl) ?_
  refine w_get3 F hK hG k1 0 rfl 5 (by decide) k0 rfl dX3_wipe_9 ?_
  refine lv_iconst (v := nI 0) hx hb dX3_wipe_12 rfl ?_
  refine w_put1 F hK hG k3 5 rfl 1 (by decide) k2 rfl rfl rfl (Nat.le_of_ble_eq_true rfl) (w_X3 y a pa na ta ha sl q_saved q_runs q_themes q_storyHeats ++ (w_X1 y pa p_characters (nI 0) ++ (w_X2 y na n_settings n_letters n_heats n_starts n_families n_generations n_tally n_stories n_nextFamily n_splits n_boilings n_fizzles ++ (w_X2 y ta t_settings t_letters t_heats t_starts t_families t_generations t_tally t_stories t_nextFamily t_splits t_boilings t_fizzles ++ (w_X0 y ha hsb h_v h_oldest h_size ++ w_SL y sl ssb s_v))))) rfl dX3_wipe_13 (fun H locs hG => ?_)
  refine lv_iload_n hx hb dX3_wipe_16 rfl (lv_at hl 0 rfl) ?_
  have hf := so_e hf
  have e0 : p_length = ro := congrArg (fun z => z.1) hf
  have e1 : (nI 0) = p_length_o := congrArg (fun z => z.2) hf
  exact hret _ _ _ _ _ e0 (by rw [← e1]; exact hG) dX3_wipe_17
set_option maxHeartbeats 1000000 in
set_option maxRecDepth 100000 in
theorem c_X3_fault (l : Launch) (D : va_G) (y : Nat → ClassId) (a pa na ta ha : Nat → Nat) (hsb : Nat → Nat → Nat) (sl : Nat) (ssb : Nat → Nat → Nat) (sz : Nat) (Fu : Nat) (q_saved : Ar) (q_runs : Ar) (q_themes : Ar) (q_storyHeats : Ar) (p_characters : Ar) (p_length : Int32) (n_settings : Ar) (n_letters : Ar) (n_heats : Ar) (n_starts : Ar) (n_families : Ar) (n_generations : Ar) (n_tally : Ar) (n_stories : Int32) (n_nextFamily : Int32) (n_splits : Int32) (n_boilings : Int32) (n_fizzles : Int32) (t_settings : Ar) (t_letters : Ar) (t_heats : Ar) (t_starts : Ar) (t_families : Ar) (t_generations : Ar) (t_tally : Ar) (t_stories : Int32) (t_nextFamily : Int32) (t_splits : Int32) (t_boilings : Int32) (t_fizzles : Int32) (h_v : (Nat → SV)) (h_oldest : Int32) (h_size : Int32) (s_v : (Nat → SV)) (ro : Int32) (hf : f_X3_fault Fu p_characters p_length = some (ro)) : MI l yX3_fault wsX3_fault 4 85 [.ref (a 0)] D y (w_X3 y a pa na ta ha sl q_saved q_runs q_themes q_storyHeats ++ (w_X1 y pa p_characters p_length ++ (w_X2 y na n_settings n_letters n_heats n_starts n_families n_generations n_tally n_stories n_nextFamily n_splits n_boilings n_fizzles ++ (w_X2 y ta t_settings t_letters t_heats t_starts t_families t_generations t_tally t_stories t_nextFamily t_splits t_boilings t_fizzles ++ (w_X0 y ha hsb h_v h_oldest h_size ++ w_SL y sl ssb s_v))))) sz ro (w_X3 y a pa na ta ha sl q_saved q_runs q_themes q_storyHeats ++ (w_X1 y pa p_characters p_length ++ (w_X2 y na n_settings n_letters n_heats n_starts n_families n_generations n_tally n_stories n_nextFamily n_splits n_boilings n_fizzles ++ (w_X2 y ta t_settings t_letters t_heats t_starts t_families t_generations t_tally t_stories t_nextFamily t_splits t_boilings t_fizzles ++ (w_X0 y ha hsb h_v h_oldest h_size ++ w_SL y sl ssb s_v))))) := by
  refine M_i (cc := cX3_fault) (maxL := 1) (own := RX3) (by decide) rfl rfl (Nat.le_of_ble_eq_true rfl) ?_
  intro p e s m args below meth c A Q F hK hA H locs hG hret ls hl
  have hx := F.1
  have hb := F.2.1
  have hl : lv_has ls 1 [(0, .ref (a 0))] := hl
  have k0 := F.2.2.2.2 (.fieldLink RX3 37 "HeatedStories" "pad" "LHeatedStories$Pad;") (List.mem_of_getElem? (i := 1) rfl)
  have k1 : ∀ w ∈ wsX30, w ∈ wsX3_fault := (fun w h => List.mem_cons_of_mem _ (List.mem_append_left _ (List.mem_append_right _ (h))))
  unfold f_X3_fault at hf
  refine lv_aload_n hx hb dX3_fault_0 rfl (lv_at hl 0 rfl) ?_
  refine w_get3 F hK hG k1 0 rfl 5 (by decide) k0 rfl dX3_fault_1 ?_
  obtain ⟨r1, h2, hf⟩ := bd1_e hf
  have hG : GG D A s.heap ((w_X1 y pa p_characters p_length) ++ (w_X3 y a pa na ta ha sl q_saved q_runs q_themes q_storyHeats ++ (w_X2 y na n_settings n_letters n_heats n_starts n_families n_generations n_tally n_stories n_nextFamily n_splits n_boilings n_fizzles ++ (w_X2 y ta t_settings t_letters t_heats t_starts t_families t_generations t_tally t_stories t_nextFamily t_splits t_boilings t_fizzles ++ (w_X0 y ha hsb h_v h_oldest h_size ++ (w_SL y sl ssb s_v)))))) H locs := GG.blk (fun k => match k with | 0 => w_X3 y a pa na ta ha sl q_saved q_runs q_themes q_storyHeats | 1 => w_X1 y pa p_characters p_length | 2 => w_X2 y na n_settings n_letters n_heats n_starts n_families n_generations n_tally n_stories n_nextFamily n_splits n_boilings n_fizzles | 3 => w_X2 y ta t_settings t_letters t_heats t_starts t_families t_generations t_tally t_stories t_nextFamily t_splits t_boilings t_fizzles | 4 => w_X0 y ha hsb h_v h_oldest h_size | _ => w_SL y sl ssb s_v) [0, 1, 2, 3, 4, 5] [1, 0, 2, 3, 4, 5] (blkp _ _ rfl) _ _ rfl rfl hG
  refine k_Pi F hK hA hG (c_X1_firstFault l D y pa H.size Fu p_characters p_length r1 h2) (cwV 0 F.2.2.2.2 gX3_fault_X1_firstFault rfl rfl rfl (by decide +kernel) ⟨Nat.le_of_ble_eq_true rfl, Nat.le_of_ble_eq_true rfl⟩) 0 rfl rfl rfl rfl rfl hl.1 (Nat.le_of_ble_eq_true rfl) dX3_fault_4 ⟨Nat.le_refl 0, Nat.le_refl 0⟩ (fun H locs hG => ?_)
  have hG : GG D A s.heap (w_X3 y a pa na ta ha sl q_saved q_runs q_themes q_storyHeats ++ (w_X1 y pa p_characters p_length ++ (w_X2 y na n_settings n_letters n_heats n_starts n_families n_generations n_tally n_stories n_nextFamily n_splits n_boilings n_fizzles ++ (w_X2 y ta t_settings t_letters t_heats t_starts t_families t_generations t_tally t_stories t_nextFamily t_splits t_boilings t_fizzles ++ (w_X0 y ha hsb h_v h_oldest h_size ++ w_SL y sl ssb s_v))))) H locs := GG.blk (fun k => match k with | 0 => w_X3 y a pa na ta ha sl q_saved q_runs q_themes q_storyHeats | 1 => w_X1 y pa p_characters p_length | 2 => w_X2 y na n_settings n_letters n_heats n_starts n_families n_generations n_tally n_stories n_nextFamily n_splits n_boilings n_fizzles | 3 => w_X2 y ta t_settings t_letters t_heats t_starts t_families t_generations t_tally t_stories t_nextFamily t_splits t_boilings t_fizzles | 4 => w_X0 y ha hsb h_v h_oldest h_size | _ => w_SL y sl ssb s_v) [1, 0, 2, 3, 4, 5] [0, 1, 2, 3, 4, 5] (blkp _ _ rfl) _ _ rfl rfl hG
  have hf := so_e hf
  have e0 : r1 = ro := hf
  exact hret _ _ _ _ _ e0 hG dX3_fault_7
set_option maxHeartbeats 1000000 in
set_option maxRecDepth 100000 in
theorem c_X3_undo (l : Launch) (D : va_G) (y : Nat → ClassId) (a pa na ta ha : Nat → Nat) (hsb : Nat → Nat → Nat) (sl : Nat) (ssb : Nat → Nat → Nat) (sz : Nat) (Fu : Nat) (q_saved : Ar) (q_runs : Ar) (q_themes : Ar) (q_storyHeats : Ar) (p_characters : Ar) (p_length : Int32) (n_settings : Ar) (n_letters : Ar) (n_heats : Ar) (n_starts : Ar) (n_families : Ar) (n_generations : Ar) (n_tally : Ar) (n_stories : Int32) (n_nextFamily : Int32) (n_splits : Int32) (n_boilings : Int32) (n_fizzles : Int32) (t_settings : Ar) (t_letters : Ar) (t_heats : Ar) (t_starts : Ar) (t_families : Ar) (t_generations : Ar) (t_tally : Ar) (t_stories : Int32) (t_nextFamily : Int32) (t_splits : Int32) (t_boilings : Int32) (t_fizzles : Int32) (h_v : (Nat → SV)) (h_oldest : Int32) (h_size : Int32) (s_v : (Nat → SV)) (ro : Int32) (n_settings_o : Ar) (n_letters_o : Ar) (n_heats_o : Ar) (n_starts_o : Ar) (n_families_o : Ar) (n_generations_o : Ar) (n_stories_o : Int32) (n_nextFamily_o : Int32) (n_splits_o : Int32) (n_boilings_o : Int32) (n_fizzles_o : Int32) (h_size_o : Int32) (hf : f_X3_undo Fu n_settings n_letters n_heats n_starts n_families n_generations n_stories n_nextFamily n_splits n_boilings n_fizzles h_v h_oldest h_size = some (ro, n_settings_o, n_letters_o, n_heats_o, n_starts_o, n_families_o, n_generations_o, n_stories_o, n_nextFamily_o, n_splits_o, n_boilings_o, n_fizzles_o, h_size_o)) : MI l yX3_undo wsX3_undo 3 83 [.ref (a 0)] D y (w_X3 y a pa na ta ha sl q_saved q_runs q_themes q_storyHeats ++ (w_X1 y pa p_characters p_length ++ (w_X2 y na n_settings n_letters n_heats n_starts n_families n_generations n_tally n_stories n_nextFamily n_splits n_boilings n_fizzles ++ (w_X2 y ta t_settings t_letters t_heats t_starts t_families t_generations t_tally t_stories t_nextFamily t_splits t_boilings t_fizzles ++ (w_X0 y ha hsb h_v h_oldest h_size ++ w_SL y sl ssb s_v))))) sz ro (w_X3 y a pa na ta ha sl q_saved q_runs q_themes q_storyHeats ++ (w_X1 y pa p_characters p_length ++ (w_X2 y na n_settings_o n_letters_o n_heats_o n_starts_o n_families_o n_generations_o n_tally n_stories_o n_nextFamily_o n_splits_o n_boilings_o n_fizzles_o ++ (w_X2 y ta t_settings t_letters t_heats t_starts t_families t_generations t_tally t_stories t_nextFamily t_splits t_boilings t_fizzles ++ (w_X0 y ha hsb h_v h_oldest h_size_o ++ w_SL y sl ssb s_v))))) := by
  refine M_i (cc := cX3_undo) (maxL := 1) (own := RX3) (by decide) rfl rfl (Nat.le_of_ble_eq_true rfl) ?_
  intro p e s m args below meth c A Q F hK hA H locs hG hret ls hl
  have hx := F.1
  have hb := F.2.1
  have hl : lv_has ls 1 [(0, .ref (a 0))] := hl
  have k0 := F.2.2.2.2 (.fieldLink RX3 22 "HeatedStories" "history" "LHeatedStories$History;") (List.mem_of_getElem? (i := 1) rfl)
  have k1 : ∀ w ∈ wsX30, w ∈ wsX3_undo := (fun w h => List.mem_cons_of_mem _ (List.mem_append_left _ (List.mem_append_left _ (List.mem_append_right _ (h)))))
  have k2 := F.2.2.2.2 (.fieldLink RX3 178 "HeatedStories$History" "size" "I") (List.mem_of_getElem? (i := 2) rfl)
  have k3 : ∀ w ∈ wsX00, w ∈ wsX3_undo := (fun w h => List.mem_cons_of_mem _ (List.mem_append_left _ (List.mem_append_right _ (h))))
  have k4 := F.2.2.2.2 (.fieldLink RX3 10 "HeatedStories" "now" "LHeatedStories$Shelf;") (List.mem_of_getElem? (i := 3) rfl)
  unfold f_X3_undo at hf
  refine lv_aload_n hx hb dX3_undo_0 rfl (lv_at hl 0 rfl) ?_
  refine w_get3 F hK hG k1 0 rfl 2 (by decide) k0 rfl dX3_undo_1 ?_
  refine w_get0 F hK hG k3 23 rfl 2 (by decide) k2 rfl dX3_undo_4 ?_
  refine lv_if_ne (tgt := 13) hx hb dX3_undo_7 (by decide) (fun c1 => ?_) (fun c1 => ?_)
  · have hf := if_e c1 hf
    refine lv_aload_n hx hb dX3_undo_13 rfl (lv_at hl 0 rfl) ?_
    refine w_get3 F hK hG k1 0 rfl 2 (by decide) k0 rfl dX3_undo_14 ?_
    refine lv_aload_n hx hb dX3_undo_17 rfl (lv_at hl 0 rfl) ?_
    refine w_get3 F hK hG k1 0 rfl 0 (by decide) k4 rfl dX3_undo_18 ?_
    obtain ⟨h_size_2, n_settings_3, n_letters_4, n_heats_5, n_starts_6, n_families_7, n_generations_8, n_stories_9, n_nextFamily_10, n_splits_11, n_boilings_12, n_fizzles_13, h14, hf⟩ := bd12_e hf
    have hG : GG D A s.heap ((w_X0 y ha hsb h_v h_oldest h_size ++ (w_X2 y na n_settings n_letters n_heats n_starts n_families n_generations n_tally n_stories n_nextFamily n_splits n_boilings n_fizzles)) ++ (w_X3 y a pa na ta ha sl q_saved q_runs q_themes q_storyHeats ++ (w_X1 y pa p_characters p_length ++ (w_X2 y ta t_settings t_letters t_heats t_starts t_families t_generations t_tally t_stories t_nextFamily t_splits t_boilings t_fizzles ++ (w_SL y sl ssb s_v))))) H locs := GG.blk (fun k => match k with | 0 => w_X3 y a pa na ta ha sl q_saved q_runs q_themes q_storyHeats | 1 => w_X1 y pa p_characters p_length | 2 => w_X2 y na n_settings n_letters n_heats n_starts n_families n_generations n_tally n_stories n_nextFamily n_splits n_boilings n_fizzles | 3 => w_X2 y ta t_settings t_letters t_heats t_starts t_families t_generations t_tally t_stories t_nextFamily t_splits t_boilings t_fizzles | 4 => w_X0 y ha hsb h_v h_oldest h_size | _ => w_SL y sl ssb s_v) [0, 1, 2, 3, 4, 5] [4, 2, 0, 1, 3, 5] (blkp _ _ rfl) _ _ rfl (List.append_assoc (w_X0 y ha hsb h_v h_oldest h_size) (w_X2 y na n_settings n_letters n_heats n_starts n_families n_generations n_tally n_stories n_nextFamily n_splits n_boilings n_fizzles) (w_X3 y a pa na ta ha sl q_saved q_runs q_themes q_storyHeats ++ (w_X1 y pa p_characters p_length ++ (w_X2 y ta t_settings t_letters t_heats t_starts t_families t_generations t_tally t_stories t_nextFamily t_splits t_boilings t_fizzles ++ (w_SL y sl ssb s_v))))).symm hG
    refine k_Pv F hK hA hG (c_X0_takeBack l D y ha na hsb H.size Fu h_v h_oldest h_size n_settings n_letters n_heats n_starts n_families n_generations n_tally n_stories n_nextFamily n_splits n_boilings n_fizzles h_size_2 n_settings_3 n_letters_4 n_heats_5 n_starts_6 n_families_7 n_generations_8 n_stories_9 n_nextFamily_10 n_splits_11 n_boilings_12 n_fizzles_13 h14) (cwV 1 F.2.2.2.2 gX3_undo_X0_takeBack rfl rfl rfl (by decide +kernel) ⟨Nat.le_of_ble_eq_true rfl, Nat.le_of_ble_eq_true rfl⟩) 0 rfl rfl (adr_app (adr_X0 ..) rfl) rfl rfl hl.1 (Nat.le_of_ble_eq_true rfl) dX3_undo_21 ⟨Nat.le_refl 0, Nat.le_refl 0⟩ (fun H locs hG => ?_)
    have hG : GG D A s.heap (w_X3 y a pa na ta ha sl q_saved q_runs q_themes q_storyHeats ++ (w_X1 y pa p_characters p_length ++ (w_X2 y na n_settings_3 n_letters_4 n_heats_5 n_starts_6 n_families_7 n_generations_8 n_tally n_stories_9 n_nextFamily_10 n_splits_11 n_boilings_12 n_fizzles_13 ++ (w_X2 y ta t_settings t_letters t_heats t_starts t_families t_generations t_tally t_stories t_nextFamily t_splits t_boilings t_fizzles ++ (w_X0 y ha hsb h_v h_oldest h_size_2 ++ w_SL y sl ssb s_v))))) H locs := GG.blk (fun k => match k with | 0 => w_X3 y a pa na ta ha sl q_saved q_runs q_themes q_storyHeats | 1 => w_X1 y pa p_characters p_length | 2 => w_X2 y na n_settings_3 n_letters_4 n_heats_5 n_starts_6 n_families_7 n_generations_8 n_tally n_stories_9 n_nextFamily_10 n_splits_11 n_boilings_12 n_fizzles_13 | 3 => w_X2 y ta t_settings t_letters t_heats t_starts t_families t_generations t_tally t_stories t_nextFamily t_splits t_boilings t_fizzles | 4 => w_X0 y ha hsb h_v h_oldest h_size_2 | _ => w_SL y sl ssb s_v) [4, 2, 0, 1, 3, 5] [0, 1, 2, 3, 4, 5] (blkp _ _ rfl) _ _ (List.append_assoc (w_X0 y ha hsb h_v h_oldest h_size_2) (w_X2 y na n_settings_3 n_letters_4 n_heats_5 n_starts_6 n_families_7 n_generations_8 n_tally n_stories_9 n_nextFamily_10 n_splits_11 n_boilings_12 n_fizzles_13) (w_X3 y a pa na ta ha sl q_saved q_runs q_themes q_storyHeats ++ (w_X1 y pa p_characters p_length ++ (w_X2 y ta t_settings t_letters t_heats t_starts t_families t_generations t_tally t_stories t_nextFamily t_splits t_boilings t_fizzles ++ (w_SL y sl ssb s_v))))) rfl hG
    refine lv_aload_n hx hb dX3_undo_24 rfl (lv_at hl 0 rfl) ?_
    refine w_get3 F hK hG k1 0 rfl 2 (by decide) k0 rfl dX3_undo_25 ?_
    refine w_get0 F hK hG k3 23 rfl 2 (by decide) k2 rfl dX3_undo_28 ?_
    have hf := so_e hf
    have e0 : h_size_2 = ro := congrArg (fun z => z.1) hf
    have e1 : n_settings_3 = n_settings_o := congrArg (fun z => z.2.1) hf
    have e2 : n_letters_4 = n_letters_o := congrArg (fun z => z.2.2.1) hf
    have e3 : n_heats_5 = n_heats_o := congrArg (fun z => z.2.2.2.1) hf
    have e4 : n_starts_6 = n_starts_o := congrArg (fun z => z.2.2.2.2.1) hf
    have e5 : n_families_7 = n_families_o := congrArg (fun z => z.2.2.2.2.2.1) hf
    have e6 : n_generations_8 = n_generations_o := congrArg (fun z => z.2.2.2.2.2.2.1) hf
    have e7 : n_stories_9 = n_stories_o := congrArg (fun z => z.2.2.2.2.2.2.2.1) hf
    have e8 : n_nextFamily_10 = n_nextFamily_o := congrArg (fun z => z.2.2.2.2.2.2.2.2.1) hf
    have e9 : n_splits_11 = n_splits_o := congrArg (fun z => z.2.2.2.2.2.2.2.2.2.1) hf
    have e10 : n_boilings_12 = n_boilings_o := congrArg (fun z => z.2.2.2.2.2.2.2.2.2.2.1) hf
    have e11 : n_fizzles_13 = n_fizzles_o := congrArg (fun z => z.2.2.2.2.2.2.2.2.2.2.2.1) hf
    have e12 : h_size_2 = h_size_o := congrArg (fun z => z.2.2.2.2.2.2.2.2.2.2.2.2) hf
    exact hret _ _ _ _ _ e0 (by rw [← e1, ← e2, ← e3, ← e4, ← e5, ← e6, ← e7, ← e8, ← e9, ← e10, ← e11, ← e12]; exact hG) dX3_undo_31
  · have hf := it_e c1 hf
    refine lv_bipush (v := -5) hx hb dX3_undo_10 rfl ?_
    have hf := so_e hf
    have e0 : (-5) = ro := congrArg (fun z => z.1) hf
    have e1 : n_settings = n_settings_o := congrArg (fun z => z.2.1) hf
    have e2 : n_letters = n_letters_o := congrArg (fun z => z.2.2.1) hf
    have e3 : n_heats = n_heats_o := congrArg (fun z => z.2.2.2.1) hf
    have e4 : n_starts = n_starts_o := congrArg (fun z => z.2.2.2.2.1) hf
    have e5 : n_families = n_families_o := congrArg (fun z => z.2.2.2.2.2.1) hf
    have e6 : n_generations = n_generations_o := congrArg (fun z => z.2.2.2.2.2.2.1) hf
    have e7 : n_stories = n_stories_o := congrArg (fun z => z.2.2.2.2.2.2.2.1) hf
    have e8 : n_nextFamily = n_nextFamily_o := congrArg (fun z => z.2.2.2.2.2.2.2.2.1) hf
    have e9 : n_splits = n_splits_o := congrArg (fun z => z.2.2.2.2.2.2.2.2.2.1) hf
    have e10 : n_boilings = n_boilings_o := congrArg (fun z => z.2.2.2.2.2.2.2.2.2.2.1) hf
    have e11 : n_fizzles = n_fizzles_o := congrArg (fun z => z.2.2.2.2.2.2.2.2.2.2.2.1) hf
    have e12 : h_size = h_size_o := congrArg (fun z => z.2.2.2.2.2.2.2.2.2.2.2.2) hf
    exact hret _ _ _ _ _ e0 (by rw [← e1, ← e2, ← e3, ← e4, ← e5, ← e6, ← e7, ← e8, ← e9, ← e10, ← e11, ← e12]; exact hG) dX3_undo_12
set_option maxHeartbeats 1000000 in
set_option maxRecDepth 100000 in
theorem c_X3_save (l : Launch) (D : va_G) (y : Nat → ClassId) (a pa na ta ha : Nat → Nat) (hsb : Nat → Nat → Nat) (sl : Nat) (ssb : Nat → Nat → Nat) (sz : Nat) (Fu : Nat) (q_saved : Ar) (q_runs : Ar) (q_themes : Ar) (q_storyHeats : Ar) (p_characters : Ar) (p_length : Int32) (n_settings : Ar) (n_letters : Ar) (n_heats : Ar) (n_starts : Ar) (n_families : Ar) (n_generations : Ar) (n_tally : Ar) (n_stories : Int32) (n_nextFamily : Int32) (n_splits : Int32) (n_boilings : Int32) (n_fizzles : Int32) (t_settings : Ar) (t_letters : Ar) (t_heats : Ar) (t_starts : Ar) (t_families : Ar) (t_generations : Ar) (t_tally : Ar) (t_stories : Int32) (t_nextFamily : Int32) (t_splits : Int32) (t_boilings : Int32) (t_fizzles : Int32) (h_v : (Nat → SV)) (h_oldest : Int32) (h_size : Int32) (s_v : (Nat → SV)) (p1 : Int32) (ro : Int32) (q_saved_o : Ar) (s_v_o : (Nat → SV)) (hf : f_X3_save Fu q_saved n_settings n_letters n_heats n_starts n_families n_generations n_stories n_nextFamily n_splits n_boilings n_fizzles s_v p1 = some (ro, q_saved_o, s_v_o)) : MI l yX3_save wsX3_save 2 62 [.ref (a 0), .int p1] D y (w_X3 y a pa na ta ha sl q_saved q_runs q_themes q_storyHeats ++ (w_X1 y pa p_characters p_length ++ (w_X2 y na n_settings n_letters n_heats n_starts n_families n_generations n_tally n_stories n_nextFamily n_splits n_boilings n_fizzles ++ (w_X2 y ta t_settings t_letters t_heats t_starts t_families t_generations t_tally t_stories t_nextFamily t_splits t_boilings t_fizzles ++ (w_X0 y ha hsb h_v h_oldest h_size ++ w_SL y sl ssb s_v))))) sz ro (w_X3 y a pa na ta ha sl q_saved_o q_runs q_themes q_storyHeats ++ (w_X1 y pa p_characters p_length ++ (w_X2 y na n_settings n_letters n_heats n_starts n_families n_generations n_tally n_stories n_nextFamily n_splits n_boilings n_fizzles ++ (w_X2 y ta t_settings t_letters t_heats t_starts t_families t_generations t_tally t_stories t_nextFamily t_splits t_boilings t_fizzles ++ (w_X0 y ha hsb h_v h_oldest h_size ++ w_SL y sl ssb s_v_o))))) := by
  refine M_i (cc := cX3_save) (maxL := 2) (own := RX3) (by decide) rfl rfl (Nat.le_of_ble_eq_true rfl) ?_
  intro p e s m args below meth c A Q F hK hA H locs hG hret ls hl
  have hx := F.1
  have hb := F.2.1
  have hl : lv_has ls 2 [(0, .ref (a 0)), (1, .int p1)] := hl
  have k0 := F.2.2.2.2 (.fieldLink RX3 26 "HeatedStories" "slots" "[LHeatedStories$Shelf;") (List.mem_of_getElem? (i := 1) rfl)
  have k1 : ∀ w ∈ wsX30, w ∈ wsX3_save := (fun w h => List.mem_cons_of_mem _ (List.mem_append_left _ (List.mem_append_right _ (h))))
  have k2 := F.2.2.2.2 (.fieldLink RX3 10 "HeatedStories" "now" "LHeatedStories$Shelf;") (List.mem_of_getElem? (i := 2) rfl)
  have k3 := F.2.2.2.2 (.fieldLink RX3 30 "HeatedStories" "saved" "[Z") (List.mem_of_getElem? (i := 3) rfl)
  have k4 := F.2.2.2.2 (.fieldLink RX3 72 "HeatedStories$Shelf" "stories" "I") (List.mem_of_getElem? (i := 4) rfl)
  have k5 : ∀ w ∈ wsX20, w ∈ wsX3_save := (fun w h => List.mem_cons_of_mem _ (List.mem_append_right _ (h)))
  unfold f_X3_save at hf
  refine lv_iload_n hx hb dX3_save_0 rfl (lv_at hl 1 rfl) ?_
  refine lv_iconst (v := nI 0) hx hb dX3_save_1 rfl ?_
  refine lv_iconst (v := nI 1) hx hb dX3_save_2 rfl ?_
  obtain ⟨r1, h2, hf⟩ := bd1_e hf
  refine k_Si F hK hA hG (c_X3_isWithin l D y  H.size Fu  p1 (nI 0) (nI 1) r1 h2) (va_cwS 3 F.2.2.2.2 gX3_save_X3_isWithin rfl rfl rfl (by decide +kernel) ⟨Nat.le_of_ble_eq_true rfl, Nat.le_of_ble_eq_true rfl⟩) rfl rfl hl.1 (Nat.le_of_ble_eq_true rfl) dX3_save_3 ⟨Nat.le_refl 0, Nat.le_refl 0⟩ (fun H locs hG => ?_)
  refine lv_if_ne (tgt := 12) hx hb dX3_save_6 (by decide) (fun c3 => ?_) (fun c3 => ?_)
  · have hf := if_e c3 hf
    refine lv_aload_n hx hb dX3_save_12 rfl (lv_at hl 0 rfl) ?_
    refine w_get3 F hK hG k1 0 rfl 3 (by decide) k0 rfl dX3_save_13 ?_
    refine lv_iload_n hx hb dX3_save_16 rfl (lv_at hl 1 rfl) ?_
    obtain ⟨g4, hf⟩ := gd_e hf
    obtain ⟨i5, ei5, hf⟩ := nm_o hf
    have hi5 : i5 < 2 := by rw [ei5]; exact ix_lt g4
    refine w_aald F hK hG 73 (f := fun k => some (ssb k 0)) rfl g4 ei5 rfl dX3_save_17 ?_
    refine lv_aload_n hx hb dX3_save_18 rfl (lv_at hl 0 rfl) ?_
    refine w_get3 F hK hG k1 0 rfl 0 (by decide) k2 rfl dX3_save_19 ?_
    obtain ⟨z_settings_6, z_letters_7, z_heats_8, z_starts_9, z_families_10, z_generations_11, z_stories_12, z_nextFamily_13, z_splits_14, z_boilings_15, z_fizzles_16, h17, hf⟩ := bd11_e hf
    have hG := GG.popen hi5 (w_X3 y a pa na ta ha sl q_saved q_runs q_themes q_storyHeats ++ (w_X1 y pa p_characters p_length ++ (w_X2 y na n_settings n_letters n_heats n_starts n_families n_generations n_tally n_stories n_nextFamily n_splits n_boilings n_fizzles ++ (w_X2 y ta t_settings t_letters t_heats t_starts t_families t_generations t_tally t_stories t_nextFamily t_splits t_boilings t_fizzles ++ (w_X0 y ha hsb h_v h_oldest h_size ++ (h_SL y sl ssb)))))) ([]) ssb s_v hG
    refine k_Vv F hK hA hG (c_X2_copyFrom l D y (ssb i5) na H.size Fu (sv_settings (s_v i5)) (sv_letters (s_v i5)) (sv_heats (s_v i5)) (sv_starts (s_v i5)) (sv_families (s_v i5)) (sv_generations (s_v i5)) (sv_tally (s_v i5)) (sv_stories (s_v i5)) (sv_nextFamily (s_v i5)) (sv_splits (s_v i5)) (sv_boilings (s_v i5)) (sv_fizzles (s_v i5)) n_settings n_letters n_heats n_starts n_families n_generations n_tally n_stories n_nextFamily n_splits n_boilings n_fizzles z_settings_6 z_letters_7 z_heats_8 z_starts_9 z_families_10 z_generations_11 z_stories_12 z_nextFamily_13 z_splits_14 z_boilings_15 z_fizzles_16 h17) (cwV 1 F.2.2.2.2 gX3_save_X2_copyFrom rfl rfl rfl (by decide +kernel) ⟨Nat.le_of_ble_eq_true rfl, Nat.le_of_ble_eq_true rfl⟩) 0 rfl rfl [0, 1, 2, 3, 4, 5, 6, 7, 15, 16, 17, 18, 19, 20, 21, 22] rfl rfl rfl (w_sv y (ssb i5) (mkSV z_settings_6 z_letters_7 z_heats_8 z_starts_9 z_families_10 z_generations_11 (sv_tally (s_v i5)) z_stories_12 z_nextFamily_13 z_splits_14 z_boilings_15 z_fizzles_16) ++ ((w_X3 y a pa na ta ha sl q_saved q_runs q_themes q_storyHeats ++ (w_X1 y pa p_characters p_length ++ (w_X2 y na n_settings n_letters n_heats n_starts n_families n_generations n_tally n_stories n_nextFamily n_splits n_boilings n_fizzles ++ (w_X2 y ta t_settings t_letters t_heats t_starts t_families t_generations t_tally t_stories t_nextFamily t_splits t_boilings t_fizzles ++ (w_X0 y ha hsb h_v h_oldest h_size ++ (h_SL y sl ssb)))))) ++ (([]) ++ poolX y ssb s_v 2 i5))) rfl rfl rfl hl.1 (Nat.le_of_ble_eq_true rfl) dX3_save_22 ⟨Nat.le_refl 0, Nat.le_refl 0⟩ (fun H locs hG => ?_)
    have hG := GG.pclose hi5 (w_X3 y a pa na ta ha sl q_saved q_runs q_themes q_storyHeats ++ (w_X1 y pa p_characters p_length ++ (w_X2 y na n_settings n_letters n_heats n_starts n_families n_generations n_tally n_stories n_nextFamily n_splits n_boilings n_fizzles ++ (w_X2 y ta t_settings t_letters t_heats t_starts t_families t_generations t_tally t_stories t_nextFamily t_splits t_boilings t_fizzles ++ (w_X0 y ha hsb h_v h_oldest h_size ++ (h_SL y sl ssb)))))) ([]) ssb s_v (mkSV z_settings_6 z_letters_7 z_heats_8 z_starts_9 z_families_10 z_generations_11 (sv_tally (s_v i5)) z_stories_12 z_nextFamily_13 z_splits_14 z_boilings_15 z_fizzles_16) hG
    have hG : GG D A s.heap (w_X3 y a pa na ta ha sl q_saved q_runs q_themes q_storyHeats ++ (w_X1 y pa p_characters p_length ++ (w_X2 y na n_settings n_letters n_heats n_starts n_families n_generations n_tally n_stories n_nextFamily n_splits n_boilings n_fizzles ++ (w_X2 y ta t_settings t_letters t_heats t_starts t_families t_generations t_tally t_stories t_nextFamily t_splits t_boilings t_fizzles ++ (w_X0 y ha hsb h_v h_oldest h_size ++ w_SL y sl ssb (va_up s_v i5 (mkSV z_settings_6 z_letters_7 z_heats_8 z_starts_9 z_families_10 z_generations_11 (sv_tally (s_v i5)) z_stories_12 z_nextFamily_13 z_splits_14 z_boilings_15 z_fizzles_16))))))) H locs := hG
    obtain ⟨s_v_18, es_v_18, hf⟩ := nm_o hf
    rw [← es_v_18] at hG
    refine lv_aload_n hx hb dX3_save_25 rfl (lv_at hl 0 rfl) ?_
    refine w_get3 F hK hG k1 0 rfl 4 (by decide) k3 rfl dX3_save_26 ?_
    refine lv_iload_n hx hb dX3_save_29 rfl (lv_at hl 1 rfl) ?_
    refine lv_iconst (v := nI 1) hx hb dX3_save_30 rfl ?_
    obtain ⟨g19, hf⟩ := gd_e hf
    refine w_zast F hK hG 1 rfl rfl g19 (w_X3 y a pa na ta ha sl (upd q_saved (p1).toNatClampNeg (nI 1)) q_runs q_themes q_storyHeats ++ (w_X1 y pa p_characters p_length ++ (w_X2 y na n_settings n_letters n_heats n_starts n_families n_generations n_tally n_stories n_nextFamily n_splits n_boilings n_fizzles ++ (w_X2 y ta t_settings t_letters t_heats t_starts t_families t_generations t_tally t_stories t_nextFamily t_splits t_boilings t_fizzles ++ (w_X0 y ha hsb h_v h_oldest h_size ++ w_SL y sl ssb s_v_18))))) rfl dX3_save_31 (fun H locs hG => ?_)
    refine lv_aload_n hx hb dX3_save_32 rfl (lv_at hl 0 rfl) ?_
    refine w_get3 F hK hG k1 0 rfl 0 (by decide) k2 rfl dX3_save_33 ?_
    refine w_get2 F hK hG k5 7 rfl 7 (by decide) k4 rfl dX3_save_36 ?_
    have hf := so_e hf
    have e0 : n_stories = ro := congrArg (fun z => z.1) hf
    have e1 : (upd q_saved (p1).toNatClampNeg (nI 1)) = q_saved_o := congrArg (fun z => z.2.1) hf
    have e2 : s_v_18 = s_v_o := congrArg (fun z => z.2.2) hf
    exact hret _ _ _ _ _ e0 (by rw [← e1, ← e2]; exact hG) dX3_save_39
  · have hf := it_e c3 hf
    refine lv_bipush (v := -2) hx hb dX3_save_9 rfl ?_
    have hf := so_e hf
    have e0 : (-2) = ro := congrArg (fun z => z.1) hf
    have e1 : q_saved = q_saved_o := congrArg (fun z => z.2.1) hf
    have e2 : s_v = s_v_o := congrArg (fun z => z.2.2) hf
    exact hret _ _ _ _ _ e0 (by rw [← e1, ← e2]; exact hG) dX3_save_11
set_option maxHeartbeats 1000000 in
set_option maxRecDepth 100000 in
theorem c_X3_restore (l : Launch) (D : va_G) (y : Nat → ClassId) (a pa na ta ha : Nat → Nat) (hsb : Nat → Nat → Nat) (sl : Nat) (ssb : Nat → Nat → Nat) (sz : Nat) (Fu : Nat) (q_saved : Ar) (q_runs : Ar) (q_themes : Ar) (q_storyHeats : Ar) (p_characters : Ar) (p_length : Int32) (n_settings : Ar) (n_letters : Ar) (n_heats : Ar) (n_starts : Ar) (n_families : Ar) (n_generations : Ar) (n_tally : Ar) (n_stories : Int32) (n_nextFamily : Int32) (n_splits : Int32) (n_boilings : Int32) (n_fizzles : Int32) (t_settings : Ar) (t_letters : Ar) (t_heats : Ar) (t_starts : Ar) (t_families : Ar) (t_generations : Ar) (t_tally : Ar) (t_stories : Int32) (t_nextFamily : Int32) (t_splits : Int32) (t_boilings : Int32) (t_fizzles : Int32) (h_v : (Nat → SV)) (h_oldest : Int32) (h_size : Int32) (s_v : (Nat → SV)) (p1 : Int32) (ro : Int32) (n_settings_o : Ar) (n_letters_o : Ar) (n_heats_o : Ar) (n_starts_o : Ar) (n_families_o : Ar) (n_generations_o : Ar) (n_stories_o : Int32) (n_nextFamily_o : Int32) (n_splits_o : Int32) (n_boilings_o : Int32) (n_fizzles_o : Int32) (h_v_o : (Nat → SV)) (h_oldest_o : Int32) (h_size_o : Int32) (hf : f_X3_restore Fu q_saved n_settings n_letters n_heats n_starts n_families n_generations n_stories n_nextFamily n_splits n_boilings n_fizzles h_v h_oldest h_size s_v p1 = some (ro, n_settings_o, n_letters_o, n_heats_o, n_starts_o, n_families_o, n_generations_o, n_stories_o, n_nextFamily_o, n_splits_o, n_boilings_o, n_fizzles_o, h_v_o, h_oldest_o, h_size_o)) : MI l yX3_restore wsX3_restore 3 83 [.ref (a 0), .int p1] D y (w_X3 y a pa na ta ha sl q_saved q_runs q_themes q_storyHeats ++ (w_X1 y pa p_characters p_length ++ (w_X2 y na n_settings n_letters n_heats n_starts n_families n_generations n_tally n_stories n_nextFamily n_splits n_boilings n_fizzles ++ (w_X2 y ta t_settings t_letters t_heats t_starts t_families t_generations t_tally t_stories t_nextFamily t_splits t_boilings t_fizzles ++ (w_X0 y ha hsb h_v h_oldest h_size ++ w_SL y sl ssb s_v))))) sz ro (w_X3 y a pa na ta ha sl q_saved q_runs q_themes q_storyHeats ++ (w_X1 y pa p_characters p_length ++ (w_X2 y na n_settings_o n_letters_o n_heats_o n_starts_o n_families_o n_generations_o n_tally n_stories_o n_nextFamily_o n_splits_o n_boilings_o n_fizzles_o ++ (w_X2 y ta t_settings t_letters t_heats t_starts t_families t_generations t_tally t_stories t_nextFamily t_splits t_boilings t_fizzles ++ (w_X0 y ha hsb h_v_o h_oldest_o h_size_o ++ w_SL y sl ssb s_v))))) := by
  refine M_i (cc := cX3_restore) (maxL := 2) (own := RX3) (by decide) rfl rfl (Nat.le_of_ble_eq_true rfl) ?_
  intro p e s m args below meth c A Q F hK hA H locs hG hret ls hl
  have hx := F.1
  have hb := F.2.1
  have hl : lv_has ls 2 [(0, .ref (a 0)), (1, .int p1)] := hl
  have k0 := F.2.2.2.2 (.fieldLink RX3 30 "HeatedStories" "saved" "[Z") (List.mem_of_getElem? (i := 1) rfl)
  have k1 : ∀ w ∈ wsX30, w ∈ wsX3_restore := (fun w h => List.mem_cons_of_mem _ (List.mem_append_left _ (List.mem_append_left _ (List.mem_append_right _ (h)))))
  have k2 := F.2.2.2.2 (.fieldLink RX3 22 "HeatedStories" "history" "LHeatedStories$History;") (List.mem_of_getElem? (i := 2) rfl)
  have k3 := F.2.2.2.2 (.fieldLink RX3 10 "HeatedStories" "now" "LHeatedStories$Shelf;") (List.mem_of_getElem? (i := 3) rfl)
  have k4 := F.2.2.2.2 (.fieldLink RX3 26 "HeatedStories" "slots" "[LHeatedStories$Shelf;") (List.mem_of_getElem? (i := 4) rfl)
  have k5 := F.2.2.2.2 (.fieldLink RX3 72 "HeatedStories$Shelf" "stories" "I") (List.mem_of_getElem? (i := 5) rfl)
  have k6 : ∀ w ∈ wsX20, w ∈ wsX3_restore := (fun w h => List.mem_cons_of_mem _ (List.mem_append_left _ (List.mem_append_right _ (h))))
  unfold f_X3_restore at hf
  refine lv_iload_n hx hb dX3_restore_0 rfl (lv_at hl 1 rfl) ?_
  refine lv_iconst (v := nI 0) hx hb dX3_restore_1 rfl ?_
  refine lv_iconst (v := nI 1) hx hb dX3_restore_2 rfl ?_
  obtain ⟨r1, h2, hf⟩ := bd1_e hf
  refine k_Si F hK hA hG (c_X3_isWithin l D y  H.size Fu  p1 (nI 0) (nI 1) r1 h2) (va_cwS 3 F.2.2.2.2 gX3_restore_X3_isWithin rfl rfl rfl (by decide +kernel) ⟨Nat.le_of_ble_eq_true rfl, Nat.le_of_ble_eq_true rfl⟩) rfl rfl hl.1 (Nat.le_of_ble_eq_true rfl) dX3_restore_3 ⟨Nat.le_refl 0, Nat.le_refl 0⟩ (fun H locs hG => ?_)
  refine lv_if_ne (tgt := 12) hx hb dX3_restore_6 (by decide) (fun c3 => ?_) (fun c3 => ?_)
  · have hf := if_e c3 hf
    refine lv_aload_n hx hb dX3_restore_12 rfl (lv_at hl 0 rfl) ?_
    refine w_get3 F hK hG k1 0 rfl 4 (by decide) k0 rfl dX3_restore_13 ?_
    refine lv_iload_n hx hb dX3_restore_16 rfl (lv_at hl 1 rfl) ?_
    obtain ⟨g4, hf⟩ := gd_e hf
    refine w_zald F hK hG 1 rfl g4 dX3_restore_17 ?_
    refine lv_if_ne (tgt := 24) hx hb dX3_restore_18 (by decide) (fun c5 => ?_) (fun c5 => ?_)
    · have hf := if_e c5 hf
      refine lv_aload_n hx hb dX3_restore_24 rfl (lv_at hl 0 rfl) ?_
      refine w_get3 F hK hG k1 0 rfl 2 (by decide) k2 rfl dX3_restore_25 ?_
      refine lv_aload_n hx hb dX3_restore_28 rfl (lv_at hl 0 rfl) ?_
      refine w_get3 F hK hG k1 0 rfl 0 (by decide) k3 rfl dX3_restore_29 ?_
      obtain ⟨h_v_6, h_oldest_7, h_size_8, h9, hf⟩ := bd3_e hf
      have hG : GG D A s.heap ((w_X0 y ha hsb h_v h_oldest h_size ++ (w_X2 y na n_settings n_letters n_heats n_starts n_families n_generations n_tally n_stories n_nextFamily n_splits n_boilings n_fizzles)) ++ (w_X3 y a pa na ta ha sl q_saved q_runs q_themes q_storyHeats ++ (w_X1 y pa p_characters p_length ++ (w_X2 y ta t_settings t_letters t_heats t_starts t_families t_generations t_tally t_stories t_nextFamily t_splits t_boilings t_fizzles ++ (w_SL y sl ssb s_v))))) H locs := GG.blk (fun k => match k with | 0 => w_X3 y a pa na ta ha sl q_saved q_runs q_themes q_storyHeats | 1 => w_X1 y pa p_characters p_length | 2 => w_X2 y na n_settings n_letters n_heats n_starts n_families n_generations n_tally n_stories n_nextFamily n_splits n_boilings n_fizzles | 3 => w_X2 y ta t_settings t_letters t_heats t_starts t_families t_generations t_tally t_stories t_nextFamily t_splits t_boilings t_fizzles | 4 => w_X0 y ha hsb h_v h_oldest h_size | _ => w_SL y sl ssb s_v) [0, 1, 2, 3, 4, 5] [4, 2, 0, 1, 3, 5] (blkp _ _ rfl) _ _ rfl (List.append_assoc (w_X0 y ha hsb h_v h_oldest h_size) (w_X2 y na n_settings n_letters n_heats n_starts n_families n_generations n_tally n_stories n_nextFamily n_splits n_boilings n_fizzles) (w_X3 y a pa na ta ha sl q_saved q_runs q_themes q_storyHeats ++ (w_X1 y pa p_characters p_length ++ (w_X2 y ta t_settings t_letters t_heats t_starts t_families t_generations t_tally t_stories t_nextFamily t_splits t_boilings t_fizzles ++ (w_SL y sl ssb s_v))))).symm hG
      refine k_Pv F hK hA hG (c_X0_record l D y ha na hsb H.size Fu h_v h_oldest h_size n_settings n_letters n_heats n_starts n_families n_generations n_tally n_stories n_nextFamily n_splits n_boilings n_fizzles h_v_6 h_oldest_7 h_size_8 h9) (cwV 1 F.2.2.2.2 gX3_restore_X0_record rfl rfl rfl (by decide +kernel) ⟨Nat.le_of_ble_eq_true rfl, Nat.le_of_ble_eq_true rfl⟩) 0 rfl rfl (adr_app (adr_X0 ..) rfl) rfl rfl hl.1 (Nat.le_of_ble_eq_true rfl) dX3_restore_32 ⟨Nat.le_refl 0, Nat.le_refl 0⟩ (fun H locs hG => ?_)
      have hG : GG D A s.heap (w_X3 y a pa na ta ha sl q_saved q_runs q_themes q_storyHeats ++ (w_X1 y pa p_characters p_length ++ (w_X2 y na n_settings n_letters n_heats n_starts n_families n_generations n_tally n_stories n_nextFamily n_splits n_boilings n_fizzles ++ (w_X2 y ta t_settings t_letters t_heats t_starts t_families t_generations t_tally t_stories t_nextFamily t_splits t_boilings t_fizzles ++ (w_X0 y ha hsb h_v_6 h_oldest_7 h_size_8 ++ w_SL y sl ssb s_v))))) H locs := GG.blk (fun k => match k with | 0 => w_X3 y a pa na ta ha sl q_saved q_runs q_themes q_storyHeats | 1 => w_X1 y pa p_characters p_length | 2 => w_X2 y na n_settings n_letters n_heats n_starts n_families n_generations n_tally n_stories n_nextFamily n_splits n_boilings n_fizzles | 3 => w_X2 y ta t_settings t_letters t_heats t_starts t_families t_generations t_tally t_stories t_nextFamily t_splits t_boilings t_fizzles | 4 => w_X0 y ha hsb h_v_6 h_oldest_7 h_size_8 | _ => w_SL y sl ssb s_v) [4, 2, 0, 1, 3, 5] [0, 1, 2, 3, 4, 5] (blkp _ _ rfl) _ _ (List.append_assoc (w_X0 y ha hsb h_v_6 h_oldest_7 h_size_8) (w_X2 y na n_settings n_letters n_heats n_starts n_families n_generations n_tally n_stories n_nextFamily n_splits n_boilings n_fizzles) (w_X3 y a pa na ta ha sl q_saved q_runs q_themes q_storyHeats ++ (w_X1 y pa p_characters p_length ++ (w_X2 y ta t_settings t_letters t_heats t_starts t_families t_generations t_tally t_stories t_nextFamily t_splits t_boilings t_fizzles ++ (w_SL y sl ssb s_v))))) rfl hG
      refine lv_aload_n hx hb dX3_restore_35 rfl (lv_at hl 0 rfl) ?_
      refine w_get3 F hK hG k1 0 rfl 0 (by decide) k3 rfl dX3_restore_36 ?_
      refine lv_aload_n hx hb dX3_restore_39 rfl (lv_at hl 0 rfl) ?_
      refine w_get3 F hK hG k1 0 rfl 3 (by decide) k4 rfl dX3_restore_40 ?_
      refine lv_iload_n hx hb dX3_restore_43 rfl (lv_at hl 1 rfl) ?_
      obtain ⟨g10, hf⟩ := gd_e hf
      obtain ⟨i11, ei11, hf⟩ := nm_o hf
      have hi11 : i11 < 2 := by rw [ei11]; exact ix_lt g10
      refine w_aald F hK hG 73 (f := fun k => some (ssb k 0)) rfl g10 ei11 rfl dX3_restore_44 ?_
      obtain ⟨n_settings_12, n_letters_13, n_heats_14, n_starts_15, n_families_16, n_generations_17, n_stories_18, n_nextFamily_19, n_splits_20, n_boilings_21, n_fizzles_22, h23, hf⟩ := bd11_e hf
      have hG := GG.popen hi11 (w_X3 y a pa na ta ha sl q_saved q_runs q_themes q_storyHeats ++ (w_X1 y pa p_characters p_length ++ (w_X2 y na n_settings n_letters n_heats n_starts n_families n_generations n_tally n_stories n_nextFamily n_splits n_boilings n_fizzles ++ (w_X2 y ta t_settings t_letters t_heats t_starts t_families t_generations t_tally t_stories t_nextFamily t_splits t_boilings t_fizzles ++ (w_X0 y ha hsb h_v_6 h_oldest_7 h_size_8 ++ (h_SL y sl ssb)))))) ([]) ssb s_v hG
      refine k_Vv F hK hA hG (c_X2_copyFrom l D y na (ssb i11) H.size Fu n_settings n_letters n_heats n_starts n_families n_generations n_tally n_stories n_nextFamily n_splits n_boilings n_fizzles (sv_settings (s_v i11)) (sv_letters (s_v i11)) (sv_heats (s_v i11)) (sv_starts (s_v i11)) (sv_families (s_v i11)) (sv_generations (s_v i11)) (sv_tally (s_v i11)) (sv_stories (s_v i11)) (sv_nextFamily (s_v i11)) (sv_splits (s_v i11)) (sv_boilings (s_v i11)) (sv_fizzles (s_v i11)) n_settings_12 n_letters_13 n_heats_14 n_starts_15 n_families_16 n_generations_17 n_stories_18 n_nextFamily_19 n_splits_20 n_boilings_21 n_fizzles_22 h23) (cwV 1 F.2.2.2.2 gX3_restore_X2_copyFrom rfl rfl rfl (by decide +kernel) ⟨Nat.le_of_ble_eq_true rfl, Nat.le_of_ble_eq_true rfl⟩) 0 rfl rfl [15, 16, 17, 18, 19, 20, 21, 22, 0, 1, 2, 3, 4, 5, 6, 7] rfl rfl rfl (w_sv y (ssb i11) (s_v i11) ++ ((w_X3 y a pa na ta ha sl q_saved q_runs q_themes q_storyHeats ++ (w_X1 y pa p_characters p_length ++ (w_X2 y na n_settings_12 n_letters_13 n_heats_14 n_starts_15 n_families_16 n_generations_17 n_tally n_stories_18 n_nextFamily_19 n_splits_20 n_boilings_21 n_fizzles_22 ++ (w_X2 y ta t_settings t_letters t_heats t_starts t_families t_generations t_tally t_stories t_nextFamily t_splits t_boilings t_fizzles ++ (w_X0 y ha hsb h_v_6 h_oldest_7 h_size_8 ++ (h_SL y sl ssb)))))) ++ (([]) ++ poolX y ssb s_v 2 i11))) rfl rfl rfl hl.1 (Nat.le_of_ble_eq_true rfl) dX3_restore_45 ⟨Nat.le_refl 0, Nat.le_refl 0⟩ (fun H locs hG => ?_)
      have hG := GG.pclose0 hi11 (w_X3 y a pa na ta ha sl q_saved q_runs q_themes q_storyHeats ++ (w_X1 y pa p_characters p_length ++ (w_X2 y na n_settings_12 n_letters_13 n_heats_14 n_starts_15 n_families_16 n_generations_17 n_tally n_stories_18 n_nextFamily_19 n_splits_20 n_boilings_21 n_fizzles_22 ++ (w_X2 y ta t_settings t_letters t_heats t_starts t_families t_generations t_tally t_stories t_nextFamily t_splits t_boilings t_fizzles ++ (w_X0 y ha hsb h_v_6 h_oldest_7 h_size_8 ++ (h_SL y sl ssb)))))) ([]) ssb s_v hG
      have hG : GG D A s.heap (w_X3 y a pa na ta ha sl q_saved q_runs q_themes q_storyHeats ++ (w_X1 y pa p_characters p_length ++ (w_X2 y na n_settings_12 n_letters_13 n_heats_14 n_starts_15 n_families_16 n_generations_17 n_tally n_stories_18 n_nextFamily_19 n_splits_20 n_boilings_21 n_fizzles_22 ++ (w_X2 y ta t_settings t_letters t_heats t_starts t_families t_generations t_tally t_stories t_nextFamily t_splits t_boilings t_fizzles ++ (w_X0 y ha hsb h_v_6 h_oldest_7 h_size_8 ++ w_SL y sl ssb s_v))))) H locs := hG
      refine lv_aload_n hx hb dX3_restore_48 rfl (lv_at hl 0 rfl) ?_
      refine w_get3 F hK hG k1 0 rfl 0 (by decide) k3 rfl dX3_restore_49 ?_
      refine w_get2 F hK hG k6 7 rfl 7 (by decide) k5 rfl dX3_restore_52 ?_
      have hf := so_e hf
      have e0 : n_stories_18 = ro := congrArg (fun z => z.1) hf
      have e1 : n_settings_12 = n_settings_o := congrArg (fun z => z.2.1) hf
      have e2 : n_letters_13 = n_letters_o := congrArg (fun z => z.2.2.1) hf
      have e3 : n_heats_14 = n_heats_o := congrArg (fun z => z.2.2.2.1) hf
      have e4 : n_starts_15 = n_starts_o := congrArg (fun z => z.2.2.2.2.1) hf
      have e5 : n_families_16 = n_families_o := congrArg (fun z => z.2.2.2.2.2.1) hf
      have e6 : n_generations_17 = n_generations_o := congrArg (fun z => z.2.2.2.2.2.2.1) hf
      have e7 : n_stories_18 = n_stories_o := congrArg (fun z => z.2.2.2.2.2.2.2.1) hf
      have e8 : n_nextFamily_19 = n_nextFamily_o := congrArg (fun z => z.2.2.2.2.2.2.2.2.1) hf
      have e9 : n_splits_20 = n_splits_o := congrArg (fun z => z.2.2.2.2.2.2.2.2.2.1) hf
      have e10 : n_boilings_21 = n_boilings_o := congrArg (fun z => z.2.2.2.2.2.2.2.2.2.2.1) hf
      have e11 : n_fizzles_22 = n_fizzles_o := congrArg (fun z => z.2.2.2.2.2.2.2.2.2.2.2.1) hf
      have e12 : h_v_6 = h_v_o := congrArg (fun z => z.2.2.2.2.2.2.2.2.2.2.2.2.1) hf
      have e13 : h_oldest_7 = h_oldest_o := congrArg (fun z => z.2.2.2.2.2.2.2.2.2.2.2.2.2.1) hf
      have e14 : h_size_8 = h_size_o := congrArg (fun z => z.2.2.2.2.2.2.2.2.2.2.2.2.2.2) hf
      exact hret _ _ _ _ _ e0 (by rw [← e1, ← e2, ← e3, ← e4, ← e5, ← e6, ← e7, ← e8, ← e9, ← e10, ← e11, ← e12, ← e13, ← e14]; exact hG) dX3_restore_55
    · have hf := it_e c5 hf
      refine lv_bipush (v := -5) hx hb dX3_restore_21 rfl ?_
      have hf := so_e hf
      have e0 : (-5) = ro := congrArg (fun z => z.1) hf
      have e1 : n_settings = n_settings_o := congrArg (fun z => z.2.1) hf
      have e2 : n_letters = n_letters_o := congrArg (fun z => z.2.2.1) hf
      have e3 : n_heats = n_heats_o := congrArg (fun z => z.2.2.2.1) hf
      have e4 : n_starts = n_starts_o := congrArg (fun z => z.2.2.2.2.1) hf
      have e5 : n_families = n_families_o := congrArg (fun z => z.2.2.2.2.2.1) hf
      have e6 : n_generations = n_generations_o := congrArg (fun z => z.2.2.2.2.2.2.1) hf
      have e7 : n_stories = n_stories_o := congrArg (fun z => z.2.2.2.2.2.2.2.1) hf
      have e8 : n_nextFamily = n_nextFamily_o := congrArg (fun z => z.2.2.2.2.2.2.2.2.1) hf
      have e9 : n_splits = n_splits_o := congrArg (fun z => z.2.2.2.2.2.2.2.2.2.1) hf
      have e10 : n_boilings = n_boilings_o := congrArg (fun z => z.2.2.2.2.2.2.2.2.2.2.1) hf
      have e11 : n_fizzles = n_fizzles_o := congrArg (fun z => z.2.2.2.2.2.2.2.2.2.2.2.1) hf
      have e12 : h_v = h_v_o := congrArg (fun z => z.2.2.2.2.2.2.2.2.2.2.2.2.1) hf
      have e13 : h_oldest = h_oldest_o := congrArg (fun z => z.2.2.2.2.2.2.2.2.2.2.2.2.2.1) hf
      have e14 : h_size = h_size_o := congrArg (fun z => z.2.2.2.2.2.2.2.2.2.2.2.2.2.2) hf
      exact hret _ _ _ _ _ e0 (by rw [← e1, ← e2, ← e3, ← e4, ← e5, ← e6, ← e7, ← e8, ← e9, ← e10, ← e11, ← e12, ← e13, ← e14]; exact hG) dX3_restore_23
  · have hf := it_e c3 hf
    refine lv_bipush (v := -2) hx hb dX3_restore_9 rfl ?_
    have hf := so_e hf
    have e0 : (-2) = ro := congrArg (fun z => z.1) hf
    have e1 : n_settings = n_settings_o := congrArg (fun z => z.2.1) hf
    have e2 : n_letters = n_letters_o := congrArg (fun z => z.2.2.1) hf
    have e3 : n_heats = n_heats_o := congrArg (fun z => z.2.2.2.1) hf
    have e4 : n_starts = n_starts_o := congrArg (fun z => z.2.2.2.2.1) hf
    have e5 : n_families = n_families_o := congrArg (fun z => z.2.2.2.2.2.1) hf
    have e6 : n_generations = n_generations_o := congrArg (fun z => z.2.2.2.2.2.2.1) hf
    have e7 : n_stories = n_stories_o := congrArg (fun z => z.2.2.2.2.2.2.2.1) hf
    have e8 : n_nextFamily = n_nextFamily_o := congrArg (fun z => z.2.2.2.2.2.2.2.2.1) hf
    have e9 : n_splits = n_splits_o := congrArg (fun z => z.2.2.2.2.2.2.2.2.2.1) hf
    have e10 : n_boilings = n_boilings_o := congrArg (fun z => z.2.2.2.2.2.2.2.2.2.2.1) hf
    have e11 : n_fizzles = n_fizzles_o := congrArg (fun z => z.2.2.2.2.2.2.2.2.2.2.2.1) hf
    have e12 : h_v = h_v_o := congrArg (fun z => z.2.2.2.2.2.2.2.2.2.2.2.2.1) hf
    have e13 : h_oldest = h_oldest_o := congrArg (fun z => z.2.2.2.2.2.2.2.2.2.2.2.2.2.1) hf
    have e14 : h_size = h_size_o := congrArg (fun z => z.2.2.2.2.2.2.2.2.2.2.2.2.2.2) hf
    exact hret _ _ _ _ _ e0 (by rw [← e1, ← e2, ← e3, ← e4, ← e5, ← e6, ← e7, ← e8, ← e9, ← e10, ← e11, ← e12, ← e13, ← e14]; exact hG) dX3_restore_11
set_option maxHeartbeats 1000000 in
set_option maxRecDepth 100000 in
theorem c_X4_in (l : Launch) (D : va_G) (y : Nat → ClassId)  (sz : Nat) (Fu : Nat) (p0 : Int32) (p1 : Int32) (p2 : Int32) (ro : Int32) (hf : f_X4_in Fu p0 p1 p2 = some (ro)) : MI l yX4_in wsX4_in 0 0 [.int p0, .int p1, .int p2] D y [] sz ro [] := by
  refine M_z (cc := cX4_in) (maxL := 3) (own := RX4) (by decide) rfl rfl (Nat.le_of_ble_eq_true rfl) ?_
  intro p e s m args below meth c A Q F hK hA H locs hG hret ls hl
  have hx := F.1
  have hb := F.2.1
  have hl : lv_has ls 3 [(0, .int p0), (1, .int p1), (2, .int p2)] := hl
  unfold f_X4_in at hf
  refine lv_iload_n hx hb dX4_in_0 rfl (lv_at hl 0 rfl) ?_
  refine lv_iload_n hx hb dX4_in_1 rfl (lv_at hl 1 rfl) ?_
  obtain ⟨v3, ev3, hf⟩ := nm_o hf
  have hJ : ∀ (ls : Array Slot), lv_has ls 3 [] → W p l e (RM 0 0) s m args below meth c H locs 0 0 Q (F0 m 15 ls [.int v3]) := by
    intro ls hl
    obtain ⟨gz, hf⟩ := gd_e hf
    have hf := so_e hf
    have e0 : v3 = ro := hf
    exact hret _ _ _ _ _ (bz_n gz) e0 hG dX4_in_15
  refine lv_icmp_lt (tgt := 14) hx hb dX4_in_2 (by decide) (fun c1 => ?_) (fun c1 => ?_)
  · refine lv_iconst (v := nI 0) hx hb dX4_in_14 rfl ?_
    have qv3 := (ev3.trans (if_pos c1))
    subst qv3
    exact hJ ls (lv_sub hl [] rfl)
  · refine lv_iload_n hx hb dX4_in_5 rfl (lv_at hl 0 rfl) ?_
    refine lv_iload_n hx hb dX4_in_6 rfl (lv_at hl 2 rfl) ?_
    refine lv_icmp_gt (tgt := 14) hx hb dX4_in_7 (by decide) (fun c2 => ?_) (fun c2 => ?_)
    · refine lv_iconst (v := nI 0) hx hb dX4_in_14 rfl ?_
      have qv3 := ((ev3.trans (if_neg c1)).trans (if_pos c2))
      subst qv3
      exact hJ ls (lv_sub hl [] rfl)
    · refine lv_iconst (v := nI 1) hx hb dX4_in_10 rfl ?_
      refine lv_goto (tgt := 15) hx hb dX4_in_11 (by decide) ?_
      have qv3 := ((ev3.trans (if_neg c1)).trans (if_neg c2))
      subst qv3
      exact hJ ls (lv_sub hl [] rfl)
set_option maxHeartbeats 1000000 in
set_option maxRecDepth 100000 in
theorem c_X4_isStory (l : Launch) (D : va_G) (y : Nat → ClassId) (a : Nat → Nat) (sz : Nat) (Fu : Nat) (q_s : Ar) (q_aside : Ar) (q_before : Ar) (q_known : Int32) (q_slots : Ar) (q_isSaved : Ar) (q_pad : Ar) (q_length : Int32) (q_letters : Ar) (q_heats : Ar) (q_reactions : Int32) (q_newSplits : Int32) (q_storiesThen : Int32) (q_heatThen : Int32) (q_place : Int32) (q_isWrong : Int32) (q_toldLetter : Ar) (q_toldHeat : Ar) (q_toldStory : Ar) (q_toldWords : Int32) (q_toldStories : Int32) (p1 : Int32) (ro : Int32) (hf : f_X4_isStory Fu q_s p1 = some (ro)) : MI l yX4_isStory wsX4_isStory 1 22 [.ref (a 0), .int p1] D y (w_X4 y a q_s q_aside q_before q_known q_slots q_isSaved q_pad q_length q_letters q_heats q_reactions q_newSplits q_storiesThen q_heatThen q_place q_isWrong q_toldLetter q_toldHeat q_toldStory q_toldWords q_toldStories) sz ro (w_X4 y a q_s q_aside q_before q_known q_slots q_isSaved q_pad q_length q_letters q_heats q_reactions q_newSplits q_storiesThen q_heatThen q_place q_isWrong q_toldLetter q_toldHeat q_toldStory q_toldWords q_toldStories) := by
  refine M_z (cc := cX4_isStory) (maxL := 2) (own := RX4) (by decide) rfl rfl (Nat.le_of_ble_eq_true rfl) ?_
  intro p e s m args below meth c A Q F hK hA H locs hG hret ls hl
  have hx := F.1
  have hb := F.2.1
  have hl : lv_has ls 2 [(0, .ref (a 0)), (1, .int p1)] := hl
  have k0 := F.2.2.2.2 (.fieldLink RX4 7 "HeatedStoriesModel" "s" "[I") (List.mem_of_getElem? (i := 1) rfl)
  have k1 : ∀ w ∈ wsX40, w ∈ wsX4_isStory := (fun w h => List.mem_cons_of_mem _ (List.mem_append_right _ (h)))
  unfold f_X4_isStory at hf
  refine lv_iload_n hx hb dX4_isStory_0 rfl (lv_at hl 1 rfl) ?_
  refine lv_iconst (v := nI 0) hx hb dX4_isStory_1 rfl ?_
  refine lv_aload_n hx hb dX4_isStory_2 rfl (lv_at hl 0 rfl) ?_
  refine w_get4 F hK hG k1 0 rfl 0 (by decide) k0 rfl dX4_isStory_3 ?_
  refine lv_iconst (v := nI 3) hx hb dX4_isStory_6 rfl ?_
  refine w_ialdk F hK hG 1 rfl (Nat.le_of_ble_eq_true rfl) (Nat.le_of_ble_eq_true rfl) dX4_isStory_7 ?_
  refine lv_iconst (v := nI 1) hx hb dX4_isStory_8 rfl ?_
  refine lv_isub hx hb dX4_isStory_9 ?_
  obtain ⟨r1, h2, hf⟩ := bd1_e hf
  refine k_Si F hK hA hG (c_X4_in l D y  H.size Fu  p1 (nI 0) ((q_s 3) - (nI 1)) r1 h2) (va_cwS 3 F.2.2.2.2 gX4_isStory_X4_in rfl rfl rfl (by decide +kernel) ⟨Nat.le_of_ble_eq_true rfl, Nat.le_of_ble_eq_true rfl⟩) rfl rfl hl.1 (Nat.le_of_ble_eq_true rfl) dX4_isStory_10 ⟨Nat.le_refl 0, Nat.le_refl 0⟩ (fun H locs hG => ?_)
  obtain ⟨gz, hf⟩ := gd_e hf
  have hf := so_e hf
  have e0 : r1 = ro := hf
  exact hret _ _ _ _ _ (bz_n gz) e0 hG dX4_isStory_13
set_option maxHeartbeats 1000000 in
set_option maxRecDepth 100000 in
theorem c_X4_isWord (l : Launch) (D : va_G) (y : Nat → ClassId) (a : Nat → Nat) (sz : Nat) (Fu : Nat) (q_s : Ar) (q_aside : Ar) (q_before : Ar) (q_known : Int32) (q_slots : Ar) (q_isSaved : Ar) (q_pad : Ar) (q_length : Int32) (q_letters : Ar) (q_heats : Ar) (q_reactions : Int32) (q_newSplits : Int32) (q_storiesThen : Int32) (q_heatThen : Int32) (q_place : Int32) (q_isWrong : Int32) (q_toldLetter : Ar) (q_toldHeat : Ar) (q_toldStory : Ar) (q_toldWords : Int32) (q_toldStories : Int32) (p1 : Int32) (p2 : Int32) (ro : Int32) (hf : f_X4_isWord Fu q_s p1 p2 = some (ro)) : MI l yX4_isWord wsX4_isWord 2 43 [.ref (a 0), .int p1, .int p2] D y (w_X4 y a q_s q_aside q_before q_known q_slots q_isSaved q_pad q_length q_letters q_heats q_reactions q_newSplits q_storiesThen q_heatThen q_place q_isWrong q_toldLetter q_toldHeat q_toldStory q_toldWords q_toldStories) sz ro (w_X4 y a q_s q_aside q_before q_known q_slots q_isSaved q_pad q_length q_letters q_heats q_reactions q_newSplits q_storiesThen q_heatThen q_place q_isWrong q_toldLetter q_toldHeat q_toldStory q_toldWords q_toldStories) := by
  refine M_z (cc := cX4_isWord) (maxL := 3) (own := RX4) (by decide) rfl rfl (Nat.le_of_ble_eq_true rfl) ?_
  intro p e s m args below meth c A Q F hK hA H locs hG hret ls hl
  have hx := F.1
  have hb := F.2.1
  have hl : lv_has ls 3 [(0, .ref (a 0)), (1, .int p1), (2, .int p2)] := hl
  have k0 := F.2.2.2.2 (.fieldLink RX4 7 "HeatedStoriesModel" "s" "[I") (List.mem_of_getElem? (i := 1) rfl)
  have k1 : ∀ w ∈ wsX40, w ∈ wsX4_isWord := (fun w h => List.mem_cons_of_mem _ (List.mem_append_right _ (h)))
  unfold f_X4_isWord at hf
  refine lv_aload_n hx hb dX4_isWord_0 rfl (lv_at hl 0 rfl) ?_
  refine lv_iload_n hx hb dX4_isWord_1 rfl (lv_at hl 1 rfl) ?_
  obtain ⟨r1, h2, hf⟩ := bd1_e hf
  refine k_Wi F hK hA hG (c_X4_isStory l D y a H.size Fu q_s q_aside q_before q_known q_slots q_isSaved q_pad q_length q_letters q_heats q_reactions q_newSplits q_storiesThen q_heatThen q_place q_isWrong q_toldLetter q_toldHeat q_toldStory q_toldWords q_toldStories p1 r1 h2) (cwV 1 F.2.2.2.2 gX4_isWord_X4_isStory rfl rfl rfl (by decide +kernel) ⟨Nat.le_of_ble_eq_true rfl, Nat.le_of_ble_eq_true rfl⟩) 0 rfl rfl rfl rfl rfl hl.1 (Nat.le_of_ble_eq_true rfl) dX4_isWord_2 ⟨Nat.le_refl 0, Nat.le_refl 0⟩ (fun H locs hG => ?_)
  obtain ⟨j9, ej9, hf⟩ := jn_e hf
  have hj9 : ∀ (v8 : Int32) (H : Heap) (locs : List Loc) (ls : Array Slot), j9 v8 = some (ro) → GG D A s.heap (w_X4 y a q_s q_aside q_before q_known q_slots q_isSaved q_pad q_length q_letters q_heats q_reactions q_newSplits q_storiesThen q_heatThen q_place q_isWrong q_toldLetter q_toldHeat q_toldStory q_toldWords q_toldStories) H locs → lv_has ls 3 [] → W p l e (RM 2 43) s m args below meth c H locs 0 0 Q (F0 m 32 ls [.int v8]) := by
    intro v8 H locs ls hf hG hl
    rw [ej9] at hf
    obtain ⟨gz, hf⟩ := gd_e hf
    have hf := so_e hf
    have e0 : v8 = ro := hf
    exact hret _ _ _ _ _ (bz_n gz) e0 hG dX4_isWord_32
  refine lv_if_eq (tgt := 31) hx hb dX4_isWord_5 (by decide) (fun c3 => ?_) (fun c3 => ?_)
  · have hf := it_e c3 hf
    refine lv_iconst (v := nI 0) hx hb dX4_isWord_31 rfl ?_
    exact hj9 (nI 0) _ _ ls hf hG (lv_sub hl [] rfl)
  · have hf := if_e c3 hf
    refine lv_iload_n hx hb dX4_isWord_8 rfl (lv_at hl 2 rfl) ?_
    refine lv_iconst (v := nI 0) hx hb dX4_isWord_9 rfl ?_
    refine lv_aload_n hx hb dX4_isWord_10 rfl (lv_at hl 0 rfl) ?_
    refine w_get4 F hK hG k1 0 rfl 0 (by decide) k0 rfl dX4_isWord_11 ?_
    refine lv_bipush (v := nI 9) hx hb dX4_isWord_14 rfl ?_
    refine lv_iload_n hx hb dX4_isWord_16 rfl (lv_at hl 1 rfl) ?_
    refine lv_iadd hx hb dX4_isWord_17 ?_
    obtain ⟨g4, hf⟩ := gd_e hf
    refine w_iald F hK hG 1 rfl g4 dX4_isWord_18 ?_
    refine lv_iconst (v := nI 1) hx hb dX4_isWord_19 rfl ?_
    refine lv_isub hx hb dX4_isWord_20 ?_
    obtain ⟨r5, h6, hf⟩ := bd1_e hf
    refine k_Si F hK hA hG (c_X4_in l D y  H.size Fu  p2 (nI 0) ((q_s ((nI 9) + p1).toNatClampNeg) - (nI 1)) r5 h6) (va_cwS 3 F.2.2.2.2 gX4_isWord_X4_in rfl rfl rfl (by decide +kernel) ⟨Nat.le_of_ble_eq_true rfl, Nat.le_of_ble_eq_true rfl⟩) rfl rfl hl.1 (Nat.le_of_ble_eq_true rfl) dX4_isWord_21 ⟨Nat.le_refl 0, Nat.le_refl 0⟩ (fun H locs hG => ?_)
    refine lv_if_eq (tgt := 31) hx hb dX4_isWord_24 (by decide) (fun c7 => ?_) (fun c7 => ?_)
    · have hf := it_e c7 hf
      refine lv_iconst (v := nI 0) hx hb dX4_isWord_31 rfl ?_
      exact hj9 (nI 0) _ _ ls hf hG (lv_sub hl [] rfl)
    · have hf := if_e c7 hf
      refine lv_iconst (v := nI 1) hx hb dX4_isWord_27 rfl ?_
      refine lv_goto (tgt := 32) hx hb dX4_isWord_28 (by decide) ?_
      exact hj9 (nI 1) _ _ ls hf hG (lv_sub hl [] rfl)
set_option maxHeartbeats 1000000 in
set_option maxRecDepth 100000 in
theorem c_X4_first (l : Launch) (D : va_G) (y : Nat → ClassId) (a : Nat → Nat) (sz : Nat) (Fu : Nat) (q_s : Ar) (q_aside : Ar) (q_before : Ar) (q_known : Int32) (q_slots : Ar) (q_isSaved : Ar) (q_pad : Ar) (q_length : Int32) (q_letters : Ar) (q_heats : Ar) (q_reactions : Int32) (q_newSplits : Int32) (q_storiesThen : Int32) (q_heatThen : Int32) (q_place : Int32) (q_isWrong : Int32) (q_toldLetter : Ar) (q_toldHeat : Ar) (q_toldStory : Ar) (q_toldWords : Int32) (q_toldStories : Int32) (p1 : Int32) (ro : Int32) (hf : f_X4_first Fu q_s p1 = some (ro)) : MI l yX4_first wsX4_first 0 0 [.ref (a 0), .int p1] D y (w_X4 y a q_s q_aside q_before q_known q_slots q_isSaved q_pad q_length q_letters q_heats q_reactions q_newSplits q_storiesThen q_heatThen q_place q_isWrong q_toldLetter q_toldHeat q_toldStory q_toldWords q_toldStories) sz ro (w_X4 y a q_s q_aside q_before q_known q_slots q_isSaved q_pad q_length q_letters q_heats q_reactions q_newSplits q_storiesThen q_heatThen q_place q_isWrong q_toldLetter q_toldHeat q_toldStory q_toldWords q_toldStories) := by
  refine M_i (cc := cX4_first) (maxL := 4) (own := RX4) (by decide) rfl rfl (Nat.le_of_ble_eq_true rfl) ?_
  intro p e s m args below meth c A Q F hK hA H locs hG hret ls hl
  have hx := F.1
  have hb := F.2.1
  have hl : lv_has ls 4 [(0, .ref (a 0)), (1, .int p1)] := hl
  have k0 := F.2.2.2.2 (.fieldLink RX4 7 "HeatedStoriesModel" "s" "[I") (List.mem_of_getElem? (i := 1) rfl)
  have k1 : ∀ w ∈ wsX40, w ∈ wsX4_first := (fun w h => List.mem_cons_of_mem _ (List.mem_append_right _ (h)))
  unfold f_X4_first at hf
  refine lv_iconst (v := nI 0) hx hb dX4_first_0 rfl ?_
  refine lv_istore_n (lv' := [(2, .int (nI 0)), (0, .ref (a 0)), (1, .int p1)]) hx hb dX4_first_1 rfl hl (by decide) rfl (fun ls hl => ?_)
  refine lv_iconst (v := nI 0) hx hb dX4_first_2 rfl ?_
  refine lv_istore_n (lv' := [(3, .int (nI 0)), (2, .int (nI 0)), (0, .ref (a 0)), (1, .int p1)]) hx hb dX4_first_3 rfl hl (by decide) rfl (fun ls hl => ?_)
  obtain ⟨k_4, ek_4, hf⟩ := jn_e hf
  have hk_4 : ∀ (v6 : Int32) (H : Heap) (locs : List Loc) (ls : Array Slot), k_4 v6 = some (ro) → GG D A s.heap (w_X4 y a q_s q_aside q_before q_known q_slots q_isSaved q_pad q_length q_letters q_heats q_reactions q_newSplits q_storiesThen q_heatThen q_place q_isWrong q_toldLetter q_toldHeat q_toldStory q_toldWords q_toldStories) H locs → lv_has ls 4 [(2, .int v6)] → W p l e (RM 0 0) s m args below meth c H locs 0 0 Q (F0 m 27 ls []) := by
    intro v6 H locs ls hf hG hl
    rw [ek_4] at hf
    refine lv_iload_n hx hb dX4_first_27 rfl (lv_at hl 0 rfl) ?_
    have hf := so_e hf
    have e0 : v6 = ro := hf
    exact hret _ _ _ _ _ e0 hG dX4_first_28
  have hL4 : ∀ (fu : Nat) (x1 : Int32) (x2 : Int32) (H : Heap) (locs : List Loc) (ls : Array Slot), f_X4_first_L4 Fu k_4 q_s p1 fu x1 x2 = some (ro) → GG D A s.heap (w_X4 y a q_s q_aside q_before q_known q_slots q_isSaved q_pad q_length q_letters q_heats q_reactions q_newSplits q_storiesThen q_heatThen q_place q_isWrong q_toldLetter q_toldHeat q_toldStory q_toldWords q_toldStories) H locs → lv_has ls 4 [(0, .ref (a 0)), (1, .int p1), (2, .int x1), (3, .int x2)] → W p l e (RM 0 0) s m args below meth c H locs 0 0 Q (F0 m 4 ls []) := by
    intro fu
    induction fu with
    | zero => intro x1 x2 H locs ls hf hG hl; exact no_e hf
    | succ fu ih =>
      intro x1 x2 H locs ls hf hG hl
      rw [f_X4_first_L4_s] at hf
      refine lv_iload_n hx hb dX4_first_4 rfl (lv_at hl 3 rfl) ?_
      refine lv_iload_n hx hb dX4_first_5 rfl (lv_at hl 1 rfl) ?_
      refine lv_icmp_ge (tgt := 27) hx hb dX4_first_6 (by decide) (fun c3 => ?_) (fun c3 => ?_)
      · have hf := it_e c3 hf
        exact hk_4 x1 _ _ ls hf hG (lv_sub hl [2] rfl)
      · have hf := if_e c3 hf
        refine lv_iload_n hx hb dX4_first_9 rfl (lv_at hl 2 rfl) ?_
        refine lv_aload_n hx hb dX4_first_10 rfl (lv_at hl 0 rfl) ?_
        refine w_get4 F hK hG k1 0 rfl 0 (by decide) k0 rfl dX4_first_11 ?_
        refine lv_bipush (v := nI 9) hx hb dX4_first_14 rfl ?_
        refine lv_iload_n hx hb dX4_first_16 rfl (lv_at hl 3 rfl) ?_
        refine lv_iadd hx hb dX4_first_17 ?_
        obtain ⟨g4, hf⟩ := gd_e hf
        refine w_iald F hK hG 1 rfl g4 dX4_first_18 ?_
        refine lv_iadd hx hb dX4_first_19 ?_
        obtain ⟨v5, ev5, hf⟩ := nm_o hf
        refine w_nm ev5 ?_
        refine lv_istore_n (lv' := [(2, .int v5), (0, .ref (a 0)), (1, .int p1), (3, .int x2)]) hx hb dX4_first_20 rfl hl (by decide) rfl (fun ls hl => ?_)
        refine lv_iinc (v := x2 + (nI 1)) (lv' := [(3, .int (x2 + (nI 1))), (2, .int v5), (0, .ref (a 0)), (1, .int p1)]) hx hb dX4_first_21 hl (k := 3) rfl rfl (by decide) rfl (fun ls hl => ?_)
        refine lv_goto (tgt := 4) hx hb dX4_first_24 (by decide) ?_
        exact ih v5 (x2 + (nI 1)) _ _ ls hf hG (lv_sub hl [2, 3, 1, 0] rfl)
  exact hL4 Fu (nI 0) (nI 0) _ _ ls hf hG (lv_sub hl [2, 3, 1, 0] rfl)
set_option maxHeartbeats 1000000 in
set_option maxRecDepth 100000 in
theorem c_X4_know (l : Launch) (D : va_G) (y : Nat → ClassId) (a : Nat → Nat) (sz : Nat) (Fu : Nat) (q_s : Ar) (q_aside : Ar) (q_before : Ar) (q_known : Int32) (q_slots : Ar) (q_isSaved : Ar) (q_pad : Ar) (q_length : Int32) (q_letters : Ar) (q_heats : Ar) (q_reactions : Int32) (q_newSplits : Int32) (q_storiesThen : Int32) (q_heatThen : Int32) (q_place : Int32) (q_isWrong : Int32) (q_toldLetter : Ar) (q_toldHeat : Ar) (q_toldStory : Ar) (q_toldWords : Int32) (q_toldStories : Int32) (q_before_o : Ar) (q_known_o : Int32) (hf : f_X4_know Fu q_s q_before q_known = some (q_before_o, q_known_o)) : MV l yX4_know wsX4_know 0 0 [.ref (a 0)] D y (w_X4 y a q_s q_aside q_before q_known q_slots q_isSaved q_pad q_length q_letters q_heats q_reactions q_newSplits q_storiesThen q_heatThen q_place q_isWrong q_toldLetter q_toldHeat q_toldStory q_toldWords q_toldStories) sz (w_X4 y a q_s q_aside q_before_o q_known_o q_slots q_isSaved q_pad q_length q_letters q_heats q_reactions q_newSplits q_storiesThen q_heatThen q_place q_isWrong q_toldLetter q_toldHeat q_toldStory q_toldWords q_toldStories) := by
  refine M_v (cc := cX4_know) (maxL := 2) (own := RX4) (by decide) rfl rfl (Nat.le_of_ble_eq_true rfl) ?_
  intro p e s m args below meth c A Q F hK hA H locs hG hret ls hl
  have hx := F.1
  have hb := F.2.1
  have hl : lv_has ls 2 [(0, .ref (a 0))] := hl
  have k0 := F.2.2.2.2 (.fieldLink RX4 52 "HeatedStoriesModel" "known" "I") (List.mem_of_getElem? (i := 1) rfl)
  have k1 : ∀ w ∈ wsX40, w ∈ wsX4_know := (fun w h => List.mem_cons_of_mem _ (List.mem_append_right _ (h)))
  have k2 := F.2.2.2.2 (.fieldLink RX4 16 "HeatedStoriesModel" "before" "[I") (List.mem_of_getElem? (i := 2) rfl)
  have k3 := F.2.2.2.2 (.fieldLink RX4 7 "HeatedStoriesModel" "s" "[I") (List.mem_of_getElem? (i := 3) rfl)
  unfold f_X4_know at hf
  refine lv_aload_n hx hb dX4_know_0 rfl (lv_at hl 0 rfl) ?_
  refine w_get4 F hK hG k1 0 rfl 3 (by decide) k0 rfl dX4_know_1 ?_
  refine lv_bipush (v := nI 6) hx hb dX4_know_4 rfl ?_
  obtain ⟨j11, ej11, hf⟩ := jn_e hf
  have hj11 : ∀ (q_before_9 : Ar) (q_known_10 : Int32) (H : Heap) (locs : List Loc) (ls : Array Slot), j11 q_before_9 q_known_10 = some (q_before_o, q_known_o) → GG D A s.heap (w_X4 y a q_s q_aside q_before_9 q_known_10 q_slots q_isSaved q_pad q_length q_letters q_heats q_reactions q_newSplits q_storiesThen q_heatThen q_place q_isWrong q_toldLetter q_toldHeat q_toldStory q_toldWords q_toldStories) H locs → lv_has ls 2 [(0, .ref (a 0))] → W p l e (RM 0 0) s m args below meth c H locs 0 0 Q (F0 m 50 ls []) := by
    intro q_before_9 q_known_10 H locs ls hf hG hl
    rw [ej11] at hf
    refine lv_iconst (v := nI 0) hx hb dX4_know_50 rfl ?_
    refine lv_istore_n (lv' := [(1, .int (nI 0)), (0, .ref (a 0))]) hx hb dX4_know_51 rfl hl (by decide) rfl (fun ls hl => ?_)
    obtain ⟨k_52, ek_52, hf⟩ := jn_e hf
    have hk_52 : ∀ (q_before_18 : Ar) (H : Heap) (locs : List Loc) (ls : Array Slot), k_52 q_before_18 = some (q_before_o, q_known_o) → GG D A s.heap (w_X4 y a q_s q_aside q_before_18 q_known_10 q_slots q_isSaved q_pad q_length q_letters q_heats q_reactions q_newSplits q_storiesThen q_heatThen q_place q_isWrong q_toldLetter q_toldHeat q_toldStory q_toldWords q_toldStories) H locs → lv_has ls 2 [(0, .ref (a 0))] → W p l e (RM 0 0) s m args below meth c H locs 0 0 Q (F0 m 86 ls []) := by
      intro q_before_18 H locs ls hf hG hl
      rw [ek_52] at hf
      refine lv_aload_n hx hb dX4_know_86 rfl (lv_at hl 0 rfl) ?_
      refine lv_dup hx hb dX4_know_87 rfl ?_
      refine w_get4 F hK hG k1 0 rfl 3 (by decide) k0 rfl dX4_know_88 ?_
      refine lv_iconst (v := nI 1) hx hb dX4_know_91 rfl ?_
      refine lv_iadd hx hb dX4_know_92 ?_
      refine w_put4 F hK hG k1 0 rfl 3 (by decide) k0 rfl rfl rfl (Nat.le_of_ble_eq_true rfl) (w_X4 y a q_s q_aside q_before_18 (q_known_10 + (nI 1)) q_slots q_isSaved q_pad q_length q_letters q_heats q_reactions q_newSplits q_storiesThen q_heatThen q_place q_isWrong q_toldLetter q_toldHeat q_toldStory q_toldWords q_toldStories) rfl dX4_know_93 (fun H locs hG => ?_)
      have hf := so_e hf
      have e0 : q_before_18 = q_before_o := congrArg (fun z => z.1) hf
      have e1 : (q_known_10 + (nI 1)) = q_known_o := congrArg (fun z => z.2) hf
      exact hret _ _ _ _ (by rw [← e0, ← e1]; exact hG) dX4_know_96
    have hL52 : ∀ (fu : Nat) (x12 : Int32) (q_before_13 : Ar) (H : Heap) (locs : List Loc) (ls : Array Slot), f_X4_know_L52 Fu k_52 q_s q_known_10 fu x12 q_before_13 = some (q_before_o, q_known_o) → GG D A s.heap (w_X4 y a q_s q_aside q_before_13 q_known_10 q_slots q_isSaved q_pad q_length q_letters q_heats q_reactions q_newSplits q_storiesThen q_heatThen q_place q_isWrong q_toldLetter q_toldHeat q_toldStory q_toldWords q_toldStories) H locs → lv_has ls 2 [(0, .ref (a 0)), (1, .int x12)] → W p l e (RM 0 0) s m args below meth c H locs 0 0 Q (F0 m 52 ls []) := by
      intro fu
      induction fu with
      | zero => intro x12 q_before_13 H locs ls hf hG hl; exact no_e hf
      | succ fu ih =>
        intro x12 q_before_13 H locs ls hf hG hl
        rw [f_X4_know_L52_s] at hf
        refine lv_iload_n hx hb dX4_know_52 rfl (lv_at hl 1 rfl) ?_
        refine lv_sipush (v := nI 345) hx hb dX4_know_53 rfl ?_
        refine lv_icmp_ge (tgt := 86) hx hb dX4_know_56 (by decide) (fun c14 => ?_) (fun c14 => ?_)
        · have hf := it_e c14 hf
          exact hk_52 q_before_13 _ _ ls hf hG (lv_sub hl [0] rfl)
        · have hf := if_e c14 hf
          refine lv_aload_n hx hb dX4_know_59 rfl (lv_at hl 0 rfl) ?_
          refine w_get4 F hK hG k1 0 rfl 2 (by decide) k2 rfl dX4_know_60 ?_
          refine lv_sipush (v := nI 345) hx hb dX4_know_63 rfl ?_
          refine lv_aload_n hx hb dX4_know_66 rfl (lv_at hl 0 rfl) ?_
          refine w_get4 F hK hG k1 0 rfl 3 (by decide) k0 rfl dX4_know_67 ?_
          refine lv_imul hx hb dX4_know_70 ?_
          refine lv_iload_n hx hb dX4_know_71 rfl (lv_at hl 1 rfl) ?_
          refine lv_iadd hx hb dX4_know_72 ?_
          refine lv_aload_n hx hb dX4_know_73 rfl (lv_at hl 0 rfl) ?_
          refine w_get4 F hK hG k1 0 rfl 0 (by decide) k3 rfl dX4_know_74 ?_
          refine lv_iload_n hx hb dX4_know_77 rfl (lv_at hl 1 rfl) ?_
          obtain ⟨g15, hf⟩ := gd_e hf
          refine w_iald F hK hG 1 rfl g15 dX4_know_78 ?_
          obtain ⟨g16, hf⟩ := gd_e hf
          refine w_iast F hK hG 3 rfl g16 (w_X4 y a q_s q_aside (upd q_before_13 (((nI 345) * q_known_10) + x12).toNatClampNeg (q_s (x12).toNatClampNeg)) q_known_10 q_slots q_isSaved q_pad q_length q_letters q_heats q_reactions q_newSplits q_storiesThen q_heatThen q_place q_isWrong q_toldLetter q_toldHeat q_toldStory q_toldWords q_toldStories) rfl dX4_know_79 (fun H locs hG => ?_)
          obtain ⟨q_before_17, eq_before_17, hf⟩ := nm_o hf
          rw [← eq_before_17] at hG
          refine lv_iinc (v := x12 + (nI 1)) (lv' := [(1, .int (x12 + (nI 1))), (0, .ref (a 0))]) hx hb dX4_know_80 hl (k := 1) rfl rfl (by decide) rfl (fun ls hl => ?_)
          refine lv_goto (tgt := 52) hx hb dX4_know_83 (by decide) ?_
          exact ih (x12 + (nI 1)) q_before_17 _ _ ls hf hG (lv_sub hl [1, 0] rfl)
    exact hL52 Fu (nI 0) q_before_9 _ _ ls hf hG (lv_sub hl [1, 0] rfl)
  refine lv_icmp_ne (tgt := 50) hx hb dX4_know_6 (by decide) (fun c1 => ?_) (fun c1 => ?_)
  · have hf := if_e c1 hf
    exact hj11 q_before q_known _ _ ls hf hG (lv_sub hl [0] rfl)
  · have hf := it_e c1 hf
    refine lv_iconst (v := nI 0) hx hb dX4_know_9 rfl ?_
    refine lv_istore_n (lv' := [(1, .int (nI 0)), (0, .ref (a 0))]) hx hb dX4_know_10 rfl hl (by decide) rfl (fun ls hl => ?_)
    obtain ⟨k_11, ek_11, hf⟩ := jn_e hf
    have hk_11 : ∀ (q_before_8 : Ar) (H : Heap) (locs : List Loc) (ls : Array Slot), k_11 q_before_8 = some (q_before_o, q_known_o) → GG D A s.heap (w_X4 y a q_s q_aside q_before_8 q_known q_slots q_isSaved q_pad q_length q_letters q_heats q_reactions q_newSplits q_storiesThen q_heatThen q_place q_isWrong q_toldLetter q_toldHeat q_toldStory q_toldWords q_toldStories) H locs → lv_has ls 2 [(0, .ref (a 0))] → W p l e (RM 0 0) s m args below meth c H locs 0 0 Q (F0 m 40 ls []) := by
      intro q_before_8 H locs ls hf hG hl
      rw [ek_11] at hf
      refine lv_aload_n hx hb dX4_know_40 rfl (lv_at hl 0 rfl) ?_
      refine lv_dup hx hb dX4_know_41 rfl ?_
      refine w_get4 F hK hG k1 0 rfl 3 (by decide) k0 rfl dX4_know_42 ?_
      refine lv_iconst (v := nI 1) hx hb dX4_know_45 rfl ?_
      refine lv_isub hx hb dX4_know_46 ?_
      refine w_put4 F hK hG k1 0 rfl 3 (by decide) k0 rfl rfl rfl (Nat.le_of_ble_eq_true rfl) (w_X4 y a q_s q_aside q_before_8 (q_known - (nI 1)) q_slots q_isSaved q_pad q_length q_letters q_heats q_reactions q_newSplits q_storiesThen q_heatThen q_place q_isWrong q_toldLetter q_toldHeat q_toldStory q_toldWords q_toldStories) rfl dX4_know_47 (fun H locs hG => ?_)
      exact hj11 q_before_8 (q_known - (nI 1)) _ _ ls hf hG (lv_sub hl [0] rfl)
    have hL11 : ∀ (fu : Nat) (x2 : Int32) (q_before_3 : Ar) (H : Heap) (locs : List Loc) (ls : Array Slot), f_X4_know_L11 Fu k_11 fu x2 q_before_3 = some (q_before_o, q_known_o) → GG D A s.heap (w_X4 y a q_s q_aside q_before_3 q_known q_slots q_isSaved q_pad q_length q_letters q_heats q_reactions q_newSplits q_storiesThen q_heatThen q_place q_isWrong q_toldLetter q_toldHeat q_toldStory q_toldWords q_toldStories) H locs → lv_has ls 2 [(0, .ref (a 0)), (1, .int x2)] → W p l e (RM 0 0) s m args below meth c H locs 0 0 Q (F0 m 11 ls []) := by
      intro fu
      induction fu with
      | zero => intro x2 q_before_3 H locs ls hf hG hl; exact no_e hf
      | succ fu ih =>
        intro x2 q_before_3 H locs ls hf hG hl
        rw [f_X4_know_L11_s] at hf
        refine lv_iload_n hx hb dX4_know_11 rfl (lv_at hl 1 rfl) ?_
        refine lv_sipush (v := nI 1725) hx hb dX4_know_12 rfl ?_
        refine lv_icmp_ge (tgt := 40) hx hb dX4_know_15 (by decide) (fun c4 => ?_) (fun c4 => ?_)
        · have hf := it_e c4 hf
          exact hk_11 q_before_3 _ _ ls hf hG (lv_sub hl [0] rfl)
        · have hf := if_e c4 hf
          refine lv_aload_n hx hb dX4_know_18 rfl (lv_at hl 0 rfl) ?_
          refine w_get4 F hK hG k1 0 rfl 2 (by decide) k2 rfl dX4_know_19 ?_
          refine lv_iload_n hx hb dX4_know_22 rfl (lv_at hl 1 rfl) ?_
          refine lv_aload_n hx hb dX4_know_23 rfl (lv_at hl 0 rfl) ?_
          refine w_get4 F hK hG k1 0 rfl 2 (by decide) k2 rfl dX4_know_24 ?_
          refine lv_sipush (v := nI 345) hx hb dX4_know_27 rfl ?_
          refine lv_iload_n hx hb dX4_know_30 rfl (lv_at hl 1 rfl) ?_
          refine lv_iadd hx hb dX4_know_31 ?_
          obtain ⟨g5, hf⟩ := gd_e hf
          refine w_iald F hK hG 3 rfl g5 dX4_know_32 ?_
          obtain ⟨g6, hf⟩ := gd_e hf
          refine w_iast F hK hG 3 rfl g6 (w_X4 y a q_s q_aside (upd q_before_3 (x2).toNatClampNeg (q_before_3 ((nI 345) + x2).toNatClampNeg)) q_known q_slots q_isSaved q_pad q_length q_letters q_heats q_reactions q_newSplits q_storiesThen q_heatThen q_place q_isWrong q_toldLetter q_toldHeat q_toldStory q_toldWords q_toldStories) rfl dX4_know_33 (fun H locs hG => ?_)
          obtain ⟨q_before_7, eq_before_7, hf⟩ := nm_o hf
          rw [← eq_before_7] at hG
          refine lv_iinc (v := x2 + (nI 1)) (lv' := [(1, .int (x2 + (nI 1))), (0, .ref (a 0))]) hx hb dX4_know_34 hl (k := 1) rfl rfl (by decide) rfl (fun ls hl => ?_)
          refine lv_goto (tgt := 11) hx hb dX4_know_37 (by decide) ?_
          exact ih (x2 + (nI 1)) q_before_7 _ _ ls hf hG (lv_sub hl [1, 0] rfl)
    exact hL11 Fu (nI 0) q_before _ _ ls hf hG (lv_sub hl [1, 0] rfl)
set_option maxHeartbeats 1000000 in
set_option maxRecDepth 100000 in
theorem c_X4_putAside (l : Launch) (D : va_G) (y : Nat → ClassId) (a : Nat → Nat) (sz : Nat) (Fu : Nat) (q_s : Ar) (q_aside : Ar) (q_before : Ar) (q_known : Int32) (q_slots : Ar) (q_isSaved : Ar) (q_pad : Ar) (q_length : Int32) (q_letters : Ar) (q_heats : Ar) (q_reactions : Int32) (q_newSplits : Int32) (q_storiesThen : Int32) (q_heatThen : Int32) (q_place : Int32) (q_isWrong : Int32) (q_toldLetter : Ar) (q_toldHeat : Ar) (q_toldStory : Ar) (q_toldWords : Int32) (q_toldStories : Int32) (q_aside_o : Ar) (hf : f_X4_putAside Fu q_s q_aside = some (q_aside_o)) : MV l yX4_putAside wsX4_putAside 0 0 [.ref (a 0)] D y (w_X4 y a q_s q_aside q_before q_known q_slots q_isSaved q_pad q_length q_letters q_heats q_reactions q_newSplits q_storiesThen q_heatThen q_place q_isWrong q_toldLetter q_toldHeat q_toldStory q_toldWords q_toldStories) sz (w_X4 y a q_s q_aside_o q_before q_known q_slots q_isSaved q_pad q_length q_letters q_heats q_reactions q_newSplits q_storiesThen q_heatThen q_place q_isWrong q_toldLetter q_toldHeat q_toldStory q_toldWords q_toldStories) := by
  refine M_v (cc := cX4_putAside) (maxL := 2) (own := RX4) (by decide) rfl rfl (Nat.le_of_ble_eq_true rfl) ?_
  intro p e s m args below meth c A Q F hK hA H locs hG hret ls hl
  have hx := F.1
  have hb := F.2.1
  have hl : lv_has ls 2 [(0, .ref (a 0))] := hl
  have k0 := F.2.2.2.2 (.fieldLink RX4 13 "HeatedStoriesModel" "aside" "[I") (List.mem_of_getElem? (i := 1) rfl)
  have k1 : ∀ w ∈ wsX40, w ∈ wsX4_putAside := (fun w h => List.mem_cons_of_mem _ (List.mem_append_right _ (h)))
  have k2 := F.2.2.2.2 (.fieldLink RX4 7 "HeatedStoriesModel" "s" "[I") (List.mem_of_getElem? (i := 2) rfl)
  unfold f_X4_putAside at hf
  refine lv_iconst (v := nI 0) hx hb dX4_putAside_0 rfl ?_
  refine lv_istore_n (lv' := [(1, .int (nI 0)), (0, .ref (a 0))]) hx hb dX4_putAside_1 rfl hl (by decide) rfl (fun ls hl => ?_)
  obtain ⟨k_2, ek_2, hf⟩ := jn_e hf
  have hk_2 : ∀ (q_aside_6 : Ar) (H : Heap) (locs : List Loc) (ls : Array Slot), k_2 q_aside_6 = some (q_aside_o) → GG D A s.heap (w_X4 y a q_s q_aside_6 q_before q_known q_slots q_isSaved q_pad q_length q_letters q_heats q_reactions q_newSplits q_storiesThen q_heatThen q_place q_isWrong q_toldLetter q_toldHeat q_toldStory q_toldWords q_toldStories) H locs → lv_has ls 2 [] → W p l e (RM 0 0) s m args below meth c H locs 0 0 Q (F0 m 27 ls []) := by
    intro q_aside_6 H locs ls hf hG hl
    rw [ek_2] at hf
    have hf := so_e hf
    have e0 : q_aside_6 = q_aside_o := hf
    exact hret _ _ _ _ (by rw [← e0]; exact hG) dX4_putAside_27
  have hL2 : ∀ (fu : Nat) (x1 : Int32) (q_aside_2 : Ar) (H : Heap) (locs : List Loc) (ls : Array Slot), f_X4_putAside_L2 Fu k_2 q_s fu x1 q_aside_2 = some (q_aside_o) → GG D A s.heap (w_X4 y a q_s q_aside_2 q_before q_known q_slots q_isSaved q_pad q_length q_letters q_heats q_reactions q_newSplits q_storiesThen q_heatThen q_place q_isWrong q_toldLetter q_toldHeat q_toldStory q_toldWords q_toldStories) H locs → lv_has ls 2 [(0, .ref (a 0)), (1, .int x1)] → W p l e (RM 0 0) s m args below meth c H locs 0 0 Q (F0 m 2 ls []) := by
    intro fu
    induction fu with
    | zero => intro x1 q_aside_2 H locs ls hf hG hl; exact no_e hf
    | succ fu ih =>
      intro x1 q_aside_2 H locs ls hf hG hl
      rw [f_X4_putAside_L2_s] at hf
      refine lv_iload_n hx hb dX4_putAside_2 rfl (lv_at hl 1 rfl) ?_
      refine lv_sipush (v := nI 345) hx hb dX4_putAside_3 rfl ?_
      refine lv_icmp_ge (tgt := 27) hx hb dX4_putAside_6 (by decide) (fun c3 => ?_) (fun c3 => ?_)
      · have hf := it_e c3 hf
        exact hk_2 q_aside_2 _ _ ls hf hG (lv_sub hl [] rfl)
      · have hf := if_e c3 hf
        refine lv_aload_n hx hb dX4_putAside_9 rfl (lv_at hl 0 rfl) ?_
        refine w_get4 F hK hG k1 0 rfl 1 (by decide) k0 rfl dX4_putAside_10 ?_
        refine lv_iload_n hx hb dX4_putAside_13 rfl (lv_at hl 1 rfl) ?_
        refine lv_aload_n hx hb dX4_putAside_14 rfl (lv_at hl 0 rfl) ?_
        refine w_get4 F hK hG k1 0 rfl 0 (by decide) k2 rfl dX4_putAside_15 ?_
        refine lv_iload_n hx hb dX4_putAside_18 rfl (lv_at hl 1 rfl) ?_
        obtain ⟨g4, hf⟩ := gd_e hf
        refine w_iald F hK hG 1 rfl g4 dX4_putAside_19 ?_
        obtain ⟨g5, hf⟩ := gd_e hf
        refine w_iast F hK hG 2 rfl g5 (w_X4 y a q_s (upd q_aside_2 (x1).toNatClampNeg (q_s (x1).toNatClampNeg)) q_before q_known q_slots q_isSaved q_pad q_length q_letters q_heats q_reactions q_newSplits q_storiesThen q_heatThen q_place q_isWrong q_toldLetter q_toldHeat q_toldStory q_toldWords q_toldStories) rfl dX4_putAside_20 (fun H locs hG => ?_)
        refine lv_iinc (v := x1 + (nI 1)) (lv' := [(1, .int (x1 + (nI 1))), (0, .ref (a 0))]) hx hb dX4_putAside_21 hl (k := 1) rfl rfl (by decide) rfl (fun ls hl => ?_)
        refine lv_goto (tgt := 2) hx hb dX4_putAside_24 (by decide) ?_
        exact ih (x1 + (nI 1)) (upd q_aside_2 (x1).toNatClampNeg (q_s (x1).toNatClampNeg)) _ _ ls hf hG (lv_sub hl [1, 0] rfl)
  exact hL2 Fu (nI 0) q_aside _ _ ls hf hG (lv_sub hl [1, 0] rfl)
set_option maxHeartbeats 1000000 in
set_option maxRecDepth 100000 in
theorem c_X4_putBack (l : Launch) (D : va_G) (y : Nat → ClassId) (a : Nat → Nat) (sz : Nat) (Fu : Nat) (q_s : Ar) (q_aside : Ar) (q_before : Ar) (q_known : Int32) (q_slots : Ar) (q_isSaved : Ar) (q_pad : Ar) (q_length : Int32) (q_letters : Ar) (q_heats : Ar) (q_reactions : Int32) (q_newSplits : Int32) (q_storiesThen : Int32) (q_heatThen : Int32) (q_place : Int32) (q_isWrong : Int32) (q_toldLetter : Ar) (q_toldHeat : Ar) (q_toldStory : Ar) (q_toldWords : Int32) (q_toldStories : Int32) (q_s_o : Ar) (hf : f_X4_putBack Fu q_s q_aside = some (q_s_o)) : MV l yX4_putBack wsX4_putBack 0 0 [.ref (a 0)] D y (w_X4 y a q_s q_aside q_before q_known q_slots q_isSaved q_pad q_length q_letters q_heats q_reactions q_newSplits q_storiesThen q_heatThen q_place q_isWrong q_toldLetter q_toldHeat q_toldStory q_toldWords q_toldStories) sz (w_X4 y a q_s_o q_aside q_before q_known q_slots q_isSaved q_pad q_length q_letters q_heats q_reactions q_newSplits q_storiesThen q_heatThen q_place q_isWrong q_toldLetter q_toldHeat q_toldStory q_toldWords q_toldStories) := by
  refine M_v (cc := cX4_putBack) (maxL := 2) (own := RX4) (by decide) rfl rfl (Nat.le_of_ble_eq_true rfl) ?_
  intro p e s m args below meth c A Q F hK hA H locs hG hret ls hl
  have hx := F.1
  have hb := F.2.1
  have hl : lv_has ls 2 [(0, .ref (a 0))] := hl
  have k0 := F.2.2.2.2 (.fieldLink RX4 7 "HeatedStoriesModel" "s" "[I") (List.mem_of_getElem? (i := 1) rfl)
  have k1 : ∀ w ∈ wsX40, w ∈ wsX4_putBack := (fun w h => List.mem_cons_of_mem _ (List.mem_append_right _ (h)))
  have k2 := F.2.2.2.2 (.fieldLink RX4 13 "HeatedStoriesModel" "aside" "[I") (List.mem_of_getElem? (i := 2) rfl)
  unfold f_X4_putBack at hf
  refine lv_iconst (v := nI 0) hx hb dX4_putBack_0 rfl ?_
  refine lv_istore_n (lv' := [(1, .int (nI 0)), (0, .ref (a 0))]) hx hb dX4_putBack_1 rfl hl (by decide) rfl (fun ls hl => ?_)
  obtain ⟨k_2, ek_2, hf⟩ := jn_e hf
  have hk_2 : ∀ (q_s_6 : Ar) (H : Heap) (locs : List Loc) (ls : Array Slot), k_2 q_s_6 = some (q_s_o) → GG D A s.heap (w_X4 y a q_s_6 q_aside q_before q_known q_slots q_isSaved q_pad q_length q_letters q_heats q_reactions q_newSplits q_storiesThen q_heatThen q_place q_isWrong q_toldLetter q_toldHeat q_toldStory q_toldWords q_toldStories) H locs → lv_has ls 2 [] → W p l e (RM 0 0) s m args below meth c H locs 0 0 Q (F0 m 27 ls []) := by
    intro q_s_6 H locs ls hf hG hl
    rw [ek_2] at hf
    have hf := so_e hf
    have e0 : q_s_6 = q_s_o := hf
    exact hret _ _ _ _ (by rw [← e0]; exact hG) dX4_putBack_27
  have hL2 : ∀ (fu : Nat) (x1 : Int32) (q_s_2 : Ar) (H : Heap) (locs : List Loc) (ls : Array Slot), f_X4_putBack_L2 Fu k_2 q_aside fu x1 q_s_2 = some (q_s_o) → GG D A s.heap (w_X4 y a q_s_2 q_aside q_before q_known q_slots q_isSaved q_pad q_length q_letters q_heats q_reactions q_newSplits q_storiesThen q_heatThen q_place q_isWrong q_toldLetter q_toldHeat q_toldStory q_toldWords q_toldStories) H locs → lv_has ls 2 [(0, .ref (a 0)), (1, .int x1)] → W p l e (RM 0 0) s m args below meth c H locs 0 0 Q (F0 m 2 ls []) := by
    intro fu
    induction fu with
    | zero => intro x1 q_s_2 H locs ls hf hG hl; exact no_e hf
    | succ fu ih =>
      intro x1 q_s_2 H locs ls hf hG hl
      rw [f_X4_putBack_L2_s] at hf
      refine lv_iload_n hx hb dX4_putBack_2 rfl (lv_at hl 1 rfl) ?_
      refine lv_sipush (v := nI 345) hx hb dX4_putBack_3 rfl ?_
      refine lv_icmp_ge (tgt := 27) hx hb dX4_putBack_6 (by decide) (fun c3 => ?_) (fun c3 => ?_)
      · have hf := it_e c3 hf
        exact hk_2 q_s_2 _ _ ls hf hG (lv_sub hl [] rfl)
      · have hf := if_e c3 hf
        refine lv_aload_n hx hb dX4_putBack_9 rfl (lv_at hl 0 rfl) ?_
        refine w_get4 F hK hG k1 0 rfl 0 (by decide) k0 rfl dX4_putBack_10 ?_
        refine lv_iload_n hx hb dX4_putBack_13 rfl (lv_at hl 1 rfl) ?_
        refine lv_aload_n hx hb dX4_putBack_14 rfl (lv_at hl 0 rfl) ?_
        refine w_get4 F hK hG k1 0 rfl 1 (by decide) k2 rfl dX4_putBack_15 ?_
        refine lv_iload_n hx hb dX4_putBack_18 rfl (lv_at hl 1 rfl) ?_
        obtain ⟨g4, hf⟩ := gd_e hf
        refine w_iald F hK hG 2 rfl g4 dX4_putBack_19 ?_
        obtain ⟨g5, hf⟩ := gd_e hf
        refine w_iast F hK hG 1 rfl g5 (w_X4 y a (upd q_s_2 (x1).toNatClampNeg (q_aside (x1).toNatClampNeg)) q_aside q_before q_known q_slots q_isSaved q_pad q_length q_letters q_heats q_reactions q_newSplits q_storiesThen q_heatThen q_place q_isWrong q_toldLetter q_toldHeat q_toldStory q_toldWords q_toldStories) rfl dX4_putBack_20 (fun H locs hG => ?_)
        refine lv_iinc (v := x1 + (nI 1)) (lv' := [(1, .int (x1 + (nI 1))), (0, .ref (a 0))]) hx hb dX4_putBack_21 hl (k := 1) rfl rfl (by decide) rfl (fun ls hl => ?_)
        refine lv_goto (tgt := 2) hx hb dX4_putBack_24 (by decide) ?_
        exact ih (x1 + (nI 1)) (upd q_s_2 (x1).toNatClampNeg (q_aside (x1).toNatClampNeg)) _ _ ls hf hG (lv_sub hl [1, 0] rfl)
  exact hL2 Fu (nI 0) q_s _ _ ls hf hG (lv_sub hl [1, 0] rfl)
set_option maxHeartbeats 1000000 in
set_option maxRecDepth 100000 in
theorem c_X4_warm (l : Launch) (D : va_G) (y : Nat → ClassId) (a : Nat → Nat) (sz : Nat) (Fu : Nat) (q_s : Ar) (q_aside : Ar) (q_before : Ar) (q_known : Int32) (q_slots : Ar) (q_isSaved : Ar) (q_pad : Ar) (q_length : Int32) (q_letters : Ar) (q_heats : Ar) (q_reactions : Int32) (q_newSplits : Int32) (q_storiesThen : Int32) (q_heatThen : Int32) (q_place : Int32) (q_isWrong : Int32) (q_toldLetter : Ar) (q_toldHeat : Ar) (q_toldStory : Ar) (q_toldWords : Int32) (q_toldStories : Int32) (p1 : Int32) (p2 : Int32) (q_s_o : Ar) (hf : f_X4_warm Fu q_s p1 p2 = some (q_s_o)) : MV l yX4_warm wsX4_warm 0 0 [.ref (a 0), .int p1, .int p2] D y (w_X4 y a q_s q_aside q_before q_known q_slots q_isSaved q_pad q_length q_letters q_heats q_reactions q_newSplits q_storiesThen q_heatThen q_place q_isWrong q_toldLetter q_toldHeat q_toldStory q_toldWords q_toldStories) sz (w_X4 y a q_s_o q_aside q_before q_known q_slots q_isSaved q_pad q_length q_letters q_heats q_reactions q_newSplits q_storiesThen q_heatThen q_place q_isWrong q_toldLetter q_toldHeat q_toldStory q_toldWords q_toldStories) := by
  refine M_v (cc := cX4_warm) (maxL := 4) (own := RX4) (by decide) rfl rfl (Nat.le_of_ble_eq_true rfl) ?_
  intro p e s m args below meth c A Q F hK hA H locs hG hret ls hl
  have hx := F.1
  have hb := F.2.1
  have hl : lv_has ls 4 [(0, .ref (a 0)), (1, .int p1), (2, .int p2)] := hl
  have k0 := F.2.2.2.2 (.fieldLink RX4 7 "HeatedStoriesModel" "s" "[I") (List.mem_of_getElem? (i := 1) rfl)
  have k1 : ∀ w ∈ wsX40, w ∈ wsX4_warm := (fun w h => List.mem_cons_of_mem _ (List.mem_append_right _ (h)))
  unfold f_X4_warm at hf
  refine lv_aload_n hx hb dX4_warm_0 rfl (lv_at hl 0 rfl) ?_
  refine w_get4 F hK hG k1 0 rfl 0 (by decide) k0 rfl dX4_warm_1 ?_
  refine lv_sipush (v := nI 195) hx hb dX4_warm_4 rfl ?_
  refine lv_iload_n hx hb dX4_warm_7 rfl (lv_at hl 1 rfl) ?_
  refine lv_iadd hx hb dX4_warm_8 ?_
  obtain ⟨g1, hf⟩ := gd_e hf
  refine w_iald F hK hG 1 rfl g1 dX4_warm_9 ?_
  refine lv_iload_n hx hb dX4_warm_10 rfl (lv_at hl 2 rfl) ?_
  refine lv_iadd hx hb dX4_warm_11 ?_
  obtain ⟨v2, ev2, hf⟩ := nm_o hf
  refine w_nm ev2 ?_
  refine lv_istore_n (lv' := [(3, .int v2), (0, .ref (a 0)), (1, .int p1), (2, .int p2)]) hx hb dX4_warm_12 rfl hl (by decide) rfl (fun ls hl => ?_)
  refine lv_aload_n hx hb dX4_warm_13 rfl (lv_at hl 1 rfl) ?_
  refine w_get4 F hK hG k1 0 rfl 0 (by decide) k0 rfl dX4_warm_14 ?_
  refine lv_sipush (v := nI 195) hx hb dX4_warm_17 rfl ?_
  refine lv_iload_n hx hb dX4_warm_20 rfl (lv_at hl 2 rfl) ?_
  refine lv_iadd hx hb dX4_warm_21 ?_
  refine lv_iload_n hx hb dX4_warm_22 rfl (lv_at hl 0 rfl) ?_
  refine lv_sipush (v := nI 999) hx hb dX4_warm_23 rfl ?_
  obtain ⟨v4, ev4, hf⟩ := nm_o hf
  have hJ : ∀ (ls : Array Slot), lv_has ls 4 [] → W p l e (RM 0 0) s m args below meth c H locs 0 0 Q (F0 m 36 ls [.int v4, .int ((nI 195) + p1), .ref (a 1)]) := by
    intro ls hl
    obtain ⟨g5, hf⟩ := gd_e hf
    refine w_iast F hK hG 1 rfl g5 (w_X4 y a (upd q_s ((nI 195) + p1).toNatClampNeg v4) q_aside q_before q_known q_slots q_isSaved q_pad q_length q_letters q_heats q_reactions q_newSplits q_storiesThen q_heatThen q_place q_isWrong q_toldLetter q_toldHeat q_toldStory q_toldWords q_toldStories) rfl dX4_warm_36 (fun H locs hG => ?_)
    have hf := so_e hf
    have e0 : (upd q_s ((nI 195) + p1).toNatClampNeg v4) = q_s_o := hf
    exact hret _ _ _ _ (by rw [← e0]; exact hG) dX4_warm_37
  refine lv_icmp_le (tgt := 35) hx hb dX4_warm_26 (by decide) (fun c3 => ?_) (fun c3 => ?_)
  · refine lv_iload_n hx hb dX4_warm_35 rfl (lv_at hl 0 rfl) ?_
    have qv4 := (ev4.trans (if_pos c3))
    subst qv4
    exact hJ ls (lv_sub hl [] rfl)
  · refine lv_sipush (v := nI 999) hx hb dX4_warm_29 rfl ?_
    refine lv_goto (tgt := 36) hx hb dX4_warm_32 (by decide) ?_
    have qv4 := (ev4.trans (if_neg c3))
    subst qv4
    exact hJ ls (lv_sub hl [] rfl)
set_option maxHeartbeats 1000000 in
set_option maxRecDepth 100000 in
theorem c_X4_storyOf (l : Launch) (D : va_G) (y : Nat → ClassId) (a : Nat → Nat) (sz : Nat) (Fu : Nat) (q_s : Ar) (q_aside : Ar) (q_before : Ar) (q_known : Int32) (q_slots : Ar) (q_isSaved : Ar) (q_pad : Ar) (q_length : Int32) (q_letters : Ar) (q_heats : Ar) (q_reactions : Int32) (q_newSplits : Int32) (q_storiesThen : Int32) (q_heatThen : Int32) (q_place : Int32) (q_isWrong : Int32) (q_toldLetter : Ar) (q_toldHeat : Ar) (q_toldStory : Ar) (q_toldWords : Int32) (q_toldStories : Int32) (p1 : Int32) (ro : Int32) (hf : f_X4_storyOf Fu q_s p1 = some (ro)) : MI l yX4_storyOf wsX4_storyOf 0 0 [.ref (a 0), .int p1] D y (w_X4 y a q_s q_aside q_before q_known q_slots q_isSaved q_pad q_length q_letters q_heats q_reactions q_newSplits q_storiesThen q_heatThen q_place q_isWrong q_toldLetter q_toldHeat q_toldStory q_toldWords q_toldStories) sz ro (w_X4 y a q_s q_aside q_before q_known q_slots q_isSaved q_pad q_length q_letters q_heats q_reactions q_newSplits q_storiesThen q_heatThen q_place q_isWrong q_toldLetter q_toldHeat q_toldStory q_toldWords q_toldStories) := by
  refine M_i (cc := cX4_storyOf) (maxL := 4) (own := RX4) (by decide) rfl rfl (Nat.le_of_ble_eq_true rfl) ?_
  intro p e s m args below meth c A Q F hK hA H locs hG hret ls hl
  have hx := F.1
  have hb := F.2.1
  have hl : lv_has ls 4 [(0, .ref (a 0)), (1, .int p1)] := hl
  have k0 := F.2.2.2.2 (.fieldLink RX4 7 "HeatedStoriesModel" "s" "[I") (List.mem_of_getElem? (i := 1) rfl)
  have k1 : ∀ w ∈ wsX40, w ∈ wsX4_storyOf := (fun w h => List.mem_cons_of_mem _ (List.mem_append_right _ (h)))
  unfold f_X4_storyOf at hf
  refine lv_iconst (v := nI 0) hx hb dX4_storyOf_0 rfl ?_
  refine lv_istore_n (lv' := [(2, .int (nI 0)), (0, .ref (a 0)), (1, .int p1)]) hx hb dX4_storyOf_1 rfl hl (by decide) rfl (fun ls hl => ?_)
  refine lv_iload_n hx hb dX4_storyOf_2 rfl (lv_at hl 2 rfl) ?_
  refine lv_istore_n (lv' := [(3, .int p1), (2, .int (nI 0)), (0, .ref (a 0)), (1, .int p1)]) hx hb dX4_storyOf_3 rfl hl (by decide) rfl (fun ls hl => ?_)
  obtain ⟨k_4, ek_4, hf⟩ := jn_e hf
  have hk_4 : ∀ (v7 : Int32) (H : Heap) (locs : List Loc) (ls : Array Slot), k_4 v7 = some (ro) → GG D A s.heap (w_X4 y a q_s q_aside q_before q_known q_slots q_isSaved q_pad q_length q_letters q_heats q_reactions q_newSplits q_storiesThen q_heatThen q_place q_isWrong q_toldLetter q_toldHeat q_toldStory q_toldWords q_toldStories) H locs → lv_has ls 4 [(2, .int v7)] → W p l e (RM 0 0) s m args below meth c H locs 0 0 Q (F0 m 35 ls []) := by
    intro v7 H locs ls hf hG hl
    rw [ek_4] at hf
    refine lv_iload_n hx hb dX4_storyOf_35 rfl (lv_at hl 0 rfl) ?_
    have hf := so_e hf
    have e0 : v7 = ro := hf
    exact hret _ _ _ _ _ e0 hG dX4_storyOf_36
  have hL4 : ∀ (fu : Nat) (x1 : Int32) (x2 : Int32) (H : Heap) (locs : List Loc) (ls : Array Slot), f_X4_storyOf_L4 Fu k_4 q_s fu x1 x2 = some (ro) → GG D A s.heap (w_X4 y a q_s q_aside q_before q_known q_slots q_isSaved q_pad q_length q_letters q_heats q_reactions q_newSplits q_storiesThen q_heatThen q_place q_isWrong q_toldLetter q_toldHeat q_toldStory q_toldWords q_toldStories) H locs → lv_has ls 4 [(0, .ref (a 0)), (2, .int x1), (3, .int x2)] → W p l e (RM 0 0) s m args below meth c H locs 0 0 Q (F0 m 4 ls []) := by
    intro fu
    induction fu with
    | zero => intro x1 x2 H locs ls hf hG hl; exact no_e hf
    | succ fu ih =>
      intro x1 x2 H locs ls hf hG hl
      rw [f_X4_storyOf_L4_s] at hf
      refine lv_iload_n hx hb dX4_storyOf_4 rfl (lv_at hl 2 rfl) ?_
      refine lv_aload_n hx hb dX4_storyOf_5 rfl (lv_at hl 0 rfl) ?_
      refine w_get4 F hK hG k1 0 rfl 0 (by decide) k0 rfl dX4_storyOf_6 ?_
      refine lv_bipush (v := nI 9) hx hb dX4_storyOf_9 rfl ?_
      refine lv_iload_n hx hb dX4_storyOf_11 rfl (lv_at hl 1 rfl) ?_
      refine lv_iadd hx hb dX4_storyOf_12 ?_
      obtain ⟨g3, hf⟩ := gd_e hf
      refine w_iald F hK hG 1 rfl g3 dX4_storyOf_13 ?_
      refine lv_icmp_lt (tgt := 35) hx hb dX4_storyOf_14 (by decide) (fun c4 => ?_) (fun c4 => ?_)
      · have hf := it_e c4 hf
        exact hk_4 x1 _ _ ls hf hG (lv_sub hl [1] rfl)
      · have hf := if_e c4 hf
        refine lv_iload_n hx hb dX4_storyOf_17 rfl (lv_at hl 2 rfl) ?_
        refine lv_aload_n hx hb dX4_storyOf_18 rfl (lv_at hl 0 rfl) ?_
        refine w_get4 F hK hG k1 0 rfl 0 (by decide) k0 rfl dX4_storyOf_19 ?_
        refine lv_bipush (v := nI 9) hx hb dX4_storyOf_22 rfl ?_
        refine lv_iload_n hx hb dX4_storyOf_24 rfl (lv_at hl 1 rfl) ?_
        refine lv_iadd hx hb dX4_storyOf_25 ?_
        obtain ⟨g5, hf⟩ := gd_e hf
        refine w_iald F hK hG 1 rfl g5 dX4_storyOf_26 ?_
        refine lv_isub hx hb dX4_storyOf_27 ?_
        obtain ⟨v6, ev6, hf⟩ := nm_o hf
        refine w_nm ev6 ?_
        refine lv_istore_n (lv' := [(3, .int v6), (0, .ref (a 0)), (2, .int x1)]) hx hb dX4_storyOf_28 rfl hl (by decide) rfl (fun ls hl => ?_)
        refine lv_iinc (v := x1 + (nI 1)) (lv' := [(2, .int (x1 + (nI 1))), (3, .int v6), (0, .ref (a 0))]) hx hb dX4_storyOf_29 hl (k := 2) rfl rfl (by decide) rfl (fun ls hl => ?_)
        refine lv_goto (tgt := 4) hx hb dX4_storyOf_32 (by decide) ?_
        exact ih (x1 + (nI 1)) v6 _ _ ls hf hG (lv_sub hl [2, 0, 1] rfl)
  exact hL4 Fu (nI 0) p1 _ _ ls hf hG (lv_sub hl [2, 1, 0] rfl)
set_option maxHeartbeats 1000000 in
set_option maxRecDepth 100000 in
theorem c_X4_split (l : Launch) (D : va_G) (y : Nat → ClassId) (a : Nat → Nat) (sz : Nat) (Fu : Nat) (q_s : Ar) (q_aside : Ar) (q_before : Ar) (q_known : Int32) (q_slots : Ar) (q_isSaved : Ar) (q_pad : Ar) (q_length : Int32) (q_letters : Ar) (q_heats : Ar) (q_reactions : Int32) (q_newSplits : Int32) (q_storiesThen : Int32) (q_heatThen : Int32) (q_place : Int32) (q_isWrong : Int32) (q_toldLetter : Ar) (q_toldHeat : Ar) (q_toldStory : Ar) (q_toldWords : Int32) (q_toldStories : Int32) (p1 : Int32) (p2 : Int32) (q_s_o : Ar) (hf : f_X4_split Fu q_s p1 p2 = some (q_s_o)) : MV l yX4_split wsX4_split 0 0 [.ref (a 0), .int p1, .int p2] D y (w_X4 y a q_s q_aside q_before q_known q_slots q_isSaved q_pad q_length q_letters q_heats q_reactions q_newSplits q_storiesThen q_heatThen q_place q_isWrong q_toldLetter q_toldHeat q_toldStory q_toldWords q_toldStories) sz (w_X4 y a q_s_o q_aside q_before q_known q_slots q_isSaved q_pad q_length q_letters q_heats q_reactions q_newSplits q_storiesThen q_heatThen q_place q_isWrong q_toldLetter q_toldHeat q_toldStory q_toldWords q_toldStories) := by
  refine M_v (cc := cX4_split) (maxL := 4) (own := RX4) (by decide) rfl rfl (Nat.le_of_ble_eq_true rfl) ?_
  intro p e s m args below meth c A Q F hK hA H locs hG hret ls hl
  have hx := F.1
  have hb := F.2.1
  have hl : lv_has ls 4 [(0, .ref (a 0)), (1, .int p1), (2, .int p2)] := hl
  have k0 := F.2.2.2.2 (.fieldLink RX4 7 "HeatedStoriesModel" "s" "[I") (List.mem_of_getElem? (i := 1) rfl)
  have k1 : ∀ w ∈ wsX40, w ∈ wsX4_split := (fun w h => List.mem_cons_of_mem _ (List.mem_append_right _ (h)))
  unfold f_X4_split at hf
  refine lv_aload_n hx hb dX4_split_0 rfl (lv_at hl 0 rfl) ?_
  refine w_get4 F hK hG k1 0 rfl 0 (by decide) k0 rfl dX4_split_1 ?_
  refine lv_iconst (v := nI 3) hx hb dX4_split_4 rfl ?_
  refine w_ialdk F hK hG 1 rfl (Nat.le_of_ble_eq_true rfl) (Nat.le_of_ble_eq_true rfl) dX4_split_5 ?_
  refine lv_istore_n (lv' := [(3, .int (q_s 3)), (0, .ref (a 0)), (1, .int p1), (2, .int p2)]) hx hb dX4_split_6 rfl hl (by decide) rfl (fun ls hl => ?_)
  obtain ⟨k_7, ek_7, hf⟩ := jn_e hf
  have hk_7 : ∀ (q_s_13 : Ar) (H : Heap) (locs : List Loc) (ls : Array Slot), k_7 q_s_13 = some (q_s_o) → GG D A s.heap (w_X4 y a q_s_13 q_aside q_before q_known q_slots q_isSaved q_pad q_length q_letters q_heats q_reactions q_newSplits q_storiesThen q_heatThen q_place q_isWrong q_toldLetter q_toldHeat q_toldStory q_toldWords q_toldStories) H locs → lv_has ls 4 [(0, .ref (a 0)), (1, .int p1), (2, .int p2)] → W p l e (RM 0 0) s m args below meth c H locs 0 0 Q (F0 m 80 ls []) := by
    intro q_s_13 H locs ls hf hG hl
    rw [ek_7] at hf
    refine lv_aload_n hx hb dX4_split_80 rfl (lv_at hl 0 rfl) ?_
    refine w_get4 F hK hG k1 0 rfl 0 (by decide) k0 rfl dX4_split_81 ?_
    refine lv_bipush (v := nI 9) hx hb dX4_split_84 rfl ?_
    refine lv_iload_n hx hb dX4_split_86 rfl (lv_at hl 1 rfl) ?_
    refine lv_iadd hx hb dX4_split_87 ?_
    refine lv_iconst (v := nI 1) hx hb dX4_split_88 rfl ?_
    refine lv_iadd hx hb dX4_split_89 ?_
    refine lv_aload_n hx hb dX4_split_90 rfl (lv_at hl 0 rfl) ?_
    refine w_get4 F hK hG k1 0 rfl 0 (by decide) k0 rfl dX4_split_91 ?_
    refine lv_bipush (v := nI 9) hx hb dX4_split_94 rfl ?_
    refine lv_iload_n hx hb dX4_split_96 rfl (lv_at hl 1 rfl) ?_
    refine lv_iadd hx hb dX4_split_97 ?_
    obtain ⟨g14, hf⟩ := gd_e hf
    refine w_iald F hK hG 1 rfl g14 dX4_split_98 ?_
    refine lv_iload_n hx hb dX4_split_99 rfl (lv_at hl 2 rfl) ?_
    refine lv_isub hx hb dX4_split_100 ?_
    obtain ⟨g15, hf⟩ := gd_e hf
    refine w_iast F hK hG 1 rfl g15 (w_X4 y a (upd q_s_13 (((nI 9) + p1) + (nI 1)).toNatClampNeg ((q_s_13 ((nI 9) + p1).toNatClampNeg) - p2)) q_aside q_before q_known q_slots q_isSaved q_pad q_length q_letters q_heats q_reactions q_newSplits q_storiesThen q_heatThen q_place q_isWrong q_toldLetter q_toldHeat q_toldStory q_toldWords q_toldStories) rfl dX4_split_101 (fun H locs hG => ?_)
    obtain ⟨q_s_16, eq_s_16, hf⟩ := nm_o hf
    rw [← eq_s_16] at hG
    refine lv_aload_n hx hb dX4_split_102 rfl (lv_at hl 0 rfl) ?_
    refine w_get4 F hK hG k1 0 rfl 0 (by decide) k0 rfl dX4_split_103 ?_
    refine lv_bipush (v := nI 9) hx hb dX4_split_106 rfl ?_
    refine lv_iload_n hx hb dX4_split_108 rfl (lv_at hl 1 rfl) ?_
    refine lv_iadd hx hb dX4_split_109 ?_
    refine lv_iload_n hx hb dX4_split_110 rfl (lv_at hl 2 rfl) ?_
    obtain ⟨g17, hf⟩ := gd_e hf
    refine w_iast F hK hG 1 rfl g17 (w_X4 y a (upd q_s_16 ((nI 9) + p1).toNatClampNeg p2) q_aside q_before q_known q_slots q_isSaved q_pad q_length q_letters q_heats q_reactions q_newSplits q_storiesThen q_heatThen q_place q_isWrong q_toldLetter q_toldHeat q_toldStory q_toldWords q_toldStories) rfl dX4_split_111 (fun H locs hG => ?_)
    refine lv_aload_n hx hb dX4_split_112 rfl (lv_at hl 0 rfl) ?_
    refine w_get4 F hK hG k1 0 rfl 0 (by decide) k0 rfl dX4_split_113 ?_
    refine lv_bipush (v := nI 21) hx hb dX4_split_116 rfl ?_
    refine lv_iload_n hx hb dX4_split_118 rfl (lv_at hl 1 rfl) ?_
    refine lv_iadd hx hb dX4_split_119 ?_
    refine lv_iconst (v := nI 1) hx hb dX4_split_120 rfl ?_
    refine lv_iadd hx hb dX4_split_121 ?_
    refine lv_aload_n hx hb dX4_split_122 rfl (lv_at hl 0 rfl) ?_
    refine w_get4 F hK hG k1 0 rfl 0 (by decide) k0 rfl dX4_split_123 ?_
    refine lv_bipush (v := nI 21) hx hb dX4_split_126 rfl ?_
    refine lv_iload_n hx hb dX4_split_128 rfl (lv_at hl 1 rfl) ?_
    refine lv_iadd hx hb dX4_split_129 ?_
    obtain ⟨g18, hf⟩ := gd_e hf
    refine w_iald F hK hG 1 rfl g18 dX4_split_130 ?_
    obtain ⟨g19, hf⟩ := gd_e hf
    refine w_iast F hK hG 1 rfl g19 (w_X4 y a (upd (upd q_s_16 ((nI 9) + p1).toNatClampNeg p2) (((nI 21) + p1) + (nI 1)).toNatClampNeg ((upd q_s_16 ((nI 9) + p1).toNatClampNeg p2) ((nI 21) + p1).toNatClampNeg)) q_aside q_before q_known q_slots q_isSaved q_pad q_length q_letters q_heats q_reactions q_newSplits q_storiesThen q_heatThen q_place q_isWrong q_toldLetter q_toldHeat q_toldStory q_toldWords q_toldStories) rfl dX4_split_131 (fun H locs hG => ?_)
    obtain ⟨q_s_20, eq_s_20, hf⟩ := nm_o hf
    rw [← eq_s_20] at hG
    refine lv_aload_n hx hb dX4_split_132 rfl (lv_at hl 0 rfl) ?_
    refine w_get4 F hK hG k1 0 rfl 0 (by decide) k0 rfl dX4_split_133 ?_
    refine lv_bipush (v := nI 33) hx hb dX4_split_136 rfl ?_
    refine lv_iload_n hx hb dX4_split_138 rfl (lv_at hl 1 rfl) ?_
    refine lv_iadd hx hb dX4_split_139 ?_
    refine lv_iconst (v := nI 1) hx hb dX4_split_140 rfl ?_
    refine lv_iadd hx hb dX4_split_141 ?_
    refine lv_aload_n hx hb dX4_split_142 rfl (lv_at hl 0 rfl) ?_
    refine w_get4 F hK hG k1 0 rfl 0 (by decide) k0 rfl dX4_split_143 ?_
    refine lv_bipush (v := nI 33) hx hb dX4_split_146 rfl ?_
    refine lv_iload_n hx hb dX4_split_148 rfl (lv_at hl 1 rfl) ?_
    refine lv_iadd hx hb dX4_split_149 ?_
    obtain ⟨g21, hf⟩ := gd_e hf
    refine w_iald F hK hG 1 rfl g21 dX4_split_150 ?_
    refine lv_iconst (v := nI 1) hx hb dX4_split_151 rfl ?_
    refine lv_iadd hx hb dX4_split_152 ?_
    obtain ⟨g22, hf⟩ := gd_e hf
    refine w_iast F hK hG 1 rfl g22 (w_X4 y a (upd q_s_20 (((nI 33) + p1) + (nI 1)).toNatClampNeg ((q_s_20 ((nI 33) + p1).toNatClampNeg) + (nI 1))) q_aside q_before q_known q_slots q_isSaved q_pad q_length q_letters q_heats q_reactions q_newSplits q_storiesThen q_heatThen q_place q_isWrong q_toldLetter q_toldHeat q_toldStory q_toldWords q_toldStories) rfl dX4_split_153 (fun H locs hG => ?_)
    obtain ⟨q_s_23, eq_s_23, hf⟩ := nm_o hf
    rw [← eq_s_23] at hG
    refine lv_aload_n hx hb dX4_split_154 rfl (lv_at hl 0 rfl) ?_
    refine w_get4 F hK hG k1 0 rfl 0 (by decide) k0 rfl dX4_split_155 ?_
    refine lv_iconst (v := nI 3) hx hb dX4_split_158 rfl ?_
    refine lv_dup2_11 hx hb dX4_split_159 rfl rfl ?_
    refine w_ialdk F hK hG 1 rfl (Nat.le_of_ble_eq_true rfl) (Nat.le_of_ble_eq_true rfl) dX4_split_160 ?_
    refine lv_iconst (v := nI 1) hx hb dX4_split_161 rfl ?_
    refine lv_iadd hx hb dX4_split_162 ?_
    refine w_iastk F hK hG 1 rfl (Nat.le_of_ble_eq_true rfl) (Nat.le_of_ble_eq_true rfl) (w_X4 y a (upd q_s_23 3 ((q_s_23 3) + (nI 1))) q_aside q_before q_known q_slots q_isSaved q_pad q_length q_letters q_heats q_reactions q_newSplits q_storiesThen q_heatThen q_place q_isWrong q_toldLetter q_toldHeat q_toldStory q_toldWords q_toldStories) rfl dX4_split_163 (fun H locs hG => ?_)
    have hf := so_e hf
    have e0 : (upd q_s_23 3 ((q_s_23 3) + (nI 1))) = q_s_o := hf
    exact hret _ _ _ _ (by rw [← e0]; exact hG) dX4_split_164
  have hL7 : ∀ (fu : Nat) (x1 : Int32) (q_s_2 : Ar) (H : Heap) (locs : List Loc) (ls : Array Slot), f_X4_split_L7 Fu k_7 p1 fu x1 q_s_2 = some (q_s_o) → GG D A s.heap (w_X4 y a q_s_2 q_aside q_before q_known q_slots q_isSaved q_pad q_length q_letters q_heats q_reactions q_newSplits q_storiesThen q_heatThen q_place q_isWrong q_toldLetter q_toldHeat q_toldStory q_toldWords q_toldStories) H locs → lv_has ls 4 [(0, .ref (a 0)), (1, .int p1), (2, .int p2), (3, .int x1)] → W p l e (RM 0 0) s m args below meth c H locs 0 0 Q (F0 m 7 ls []) := by
    intro fu
    induction fu with
    | zero => intro x1 q_s_2 H locs ls hf hG hl; exact no_e hf
    | succ fu ih =>
      intro x1 q_s_2 H locs ls hf hG hl
      rw [f_X4_split_L7_s] at hf
      refine lv_iload_n hx hb dX4_split_7 rfl (lv_at hl 3 rfl) ?_
      refine lv_iload_n hx hb dX4_split_8 rfl (lv_at hl 1 rfl) ?_
      refine lv_iconst (v := nI 1) hx hb dX4_split_9 rfl ?_
      refine lv_iadd hx hb dX4_split_10 ?_
      refine lv_icmp_le (tgt := 80) hx hb dX4_split_11 (by decide) (fun c3 => ?_) (fun c3 => ?_)
      · have hf := it_e c3 hf
        exact hk_7 q_s_2 _ _ ls hf hG (lv_sub hl [0, 1, 2] rfl)
      · have hf := if_e c3 hf
        refine lv_aload_n hx hb dX4_split_14 rfl (lv_at hl 0 rfl) ?_
        refine w_get4 F hK hG k1 0 rfl 0 (by decide) k0 rfl dX4_split_15 ?_
        refine lv_bipush (v := nI 9) hx hb dX4_split_18 rfl ?_
        refine lv_iload_n hx hb dX4_split_20 rfl (lv_at hl 3 rfl) ?_
        refine lv_iadd hx hb dX4_split_21 ?_
        refine lv_aload_n hx hb dX4_split_22 rfl (lv_at hl 0 rfl) ?_
        refine w_get4 F hK hG k1 0 rfl 0 (by decide) k0 rfl dX4_split_23 ?_
        refine lv_bipush (v := nI 9) hx hb dX4_split_26 rfl ?_
        refine lv_iload_n hx hb dX4_split_28 rfl (lv_at hl 3 rfl) ?_
        refine lv_iadd hx hb dX4_split_29 ?_
        refine lv_iconst (v := nI 1) hx hb dX4_split_30 rfl ?_
        refine lv_isub hx hb dX4_split_31 ?_
        obtain ⟨g4, hf⟩ := gd_e hf
        refine w_iald F hK hG 1 rfl g4 dX4_split_32 ?_
        obtain ⟨g5, hf⟩ := gd_e hf
        refine w_iast F hK hG 1 rfl g5 (w_X4 y a (upd q_s_2 ((nI 9) + x1).toNatClampNeg (q_s_2 (((nI 9) + x1) - (nI 1)).toNatClampNeg)) q_aside q_before q_known q_slots q_isSaved q_pad q_length q_letters q_heats q_reactions q_newSplits q_storiesThen q_heatThen q_place q_isWrong q_toldLetter q_toldHeat q_toldStory q_toldWords q_toldStories) rfl dX4_split_33 (fun H locs hG => ?_)
        obtain ⟨q_s_6, eq_s_6, hf⟩ := nm_o hf
        rw [← eq_s_6] at hG
        refine lv_aload_n hx hb dX4_split_34 rfl (lv_at hl 0 rfl) ?_
        refine w_get4 F hK hG k1 0 rfl 0 (by decide) k0 rfl dX4_split_35 ?_
        refine lv_bipush (v := nI 21) hx hb dX4_split_38 rfl ?_
        refine lv_iload_n hx hb dX4_split_40 rfl (lv_at hl 3 rfl) ?_
        refine lv_iadd hx hb dX4_split_41 ?_
        refine lv_aload_n hx hb dX4_split_42 rfl (lv_at hl 0 rfl) ?_
        refine w_get4 F hK hG k1 0 rfl 0 (by decide) k0 rfl dX4_split_43 ?_
        refine lv_bipush (v := nI 21) hx hb dX4_split_46 rfl ?_
        refine lv_iload_n hx hb dX4_split_48 rfl (lv_at hl 3 rfl) ?_
        refine lv_iadd hx hb dX4_split_49 ?_
        refine lv_iconst (v := nI 1) hx hb dX4_split_50 rfl ?_
        refine lv_isub hx hb dX4_split_51 ?_
        obtain ⟨g7, hf⟩ := gd_e hf
        refine w_iald F hK hG 1 rfl g7 dX4_split_52 ?_
        obtain ⟨g8, hf⟩ := gd_e hf
        refine w_iast F hK hG 1 rfl g8 (w_X4 y a (upd q_s_6 ((nI 21) + x1).toNatClampNeg (q_s_6 (((nI 21) + x1) - (nI 1)).toNatClampNeg)) q_aside q_before q_known q_slots q_isSaved q_pad q_length q_letters q_heats q_reactions q_newSplits q_storiesThen q_heatThen q_place q_isWrong q_toldLetter q_toldHeat q_toldStory q_toldWords q_toldStories) rfl dX4_split_53 (fun H locs hG => ?_)
        obtain ⟨q_s_9, eq_s_9, hf⟩ := nm_o hf
        rw [← eq_s_9] at hG
        refine lv_aload_n hx hb dX4_split_54 rfl (lv_at hl 0 rfl) ?_
        refine w_get4 F hK hG k1 0 rfl 0 (by decide) k0 rfl dX4_split_55 ?_
        refine lv_bipush (v := nI 33) hx hb dX4_split_58 rfl ?_
        refine lv_iload_n hx hb dX4_split_60 rfl (lv_at hl 3 rfl) ?_
        refine lv_iadd hx hb dX4_split_61 ?_
        refine lv_aload_n hx hb dX4_split_62 rfl (lv_at hl 0 rfl) ?_
        refine w_get4 F hK hG k1 0 rfl 0 (by decide) k0 rfl dX4_split_63 ?_
        refine lv_bipush (v := nI 33) hx hb dX4_split_66 rfl ?_
        refine lv_iload_n hx hb dX4_split_68 rfl (lv_at hl 3 rfl) ?_
        refine lv_iadd hx hb dX4_split_69 ?_
        refine lv_iconst (v := nI 1) hx hb dX4_split_70 rfl ?_
        refine lv_isub hx hb dX4_split_71 ?_
        obtain ⟨g10, hf⟩ := gd_e hf
        refine w_iald F hK hG 1 rfl g10 dX4_split_72 ?_
        obtain ⟨g11, hf⟩ := gd_e hf
        refine w_iast F hK hG 1 rfl g11 (w_X4 y a (upd q_s_9 ((nI 33) + x1).toNatClampNeg (q_s_9 (((nI 33) + x1) - (nI 1)).toNatClampNeg)) q_aside q_before q_known q_slots q_isSaved q_pad q_length q_letters q_heats q_reactions q_newSplits q_storiesThen q_heatThen q_place q_isWrong q_toldLetter q_toldHeat q_toldStory q_toldWords q_toldStories) rfl dX4_split_73 (fun H locs hG => ?_)
        obtain ⟨q_s_12, eq_s_12, hf⟩ := nm_o hf
        rw [← eq_s_12] at hG
        refine lv_iinc (v := x1 + (-1)) (lv' := [(3, .int (x1 + (-1))), (0, .ref (a 0)), (1, .int p1), (2, .int p2)]) hx hb dX4_split_74 hl (k := 3) rfl rfl (by decide) rfl (fun ls hl => ?_)
        refine lv_goto (tgt := 7) hx hb dX4_split_77 (by decide) ?_
        exact ih (x1 + (-1)) q_s_12 _ _ ls hf hG (lv_sub hl [1, 2, 3, 0] rfl)
  exact hL7 Fu (q_s 3) q_s _ _ ls hf hG (lv_sub hl [1, 2, 3, 0] rfl)
