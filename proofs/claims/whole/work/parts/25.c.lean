set_option maxHeartbeats 1000000 in
set_option maxRecDepth 100000 in
theorem c_X4_write (l : Launch) (D : va_G) (y : Nat → ClassId) (a : Nat → Nat) (sz : Nat) (Fu : Nat) (q_s : Ar) (q_aside : Ar) (q_before : Ar) (q_known : Int32) (q_slots : Ar) (q_isSaved : Ar) (q_pad : Ar) (q_length : Int32) (q_letters : Ar) (q_heats : Ar) (q_reactions : Int32) (q_newSplits : Int32) (q_storiesThen : Int32) (q_heatThen : Int32) (q_place : Int32) (q_isWrong : Int32) (q_toldLetter : Ar) (q_toldHeat : Ar) (q_toldStory : Ar) (q_toldWords : Int32) (q_toldStories : Int32) (ro : Int32) (q_s_o : Ar) (q_before_o : Ar) (q_known_o : Int32) (q_length_o : Int32) (q_place_o : Int32) (q_isWrong_o : Int32) (q_toldLetter_o : Ar) (q_toldHeat_o : Ar) (q_toldStory_o : Ar) (q_toldWords_o : Int32) (q_toldStories_o : Int32) (hf : f_X4_write Fu q_s q_before q_known q_pad q_length q_place q_isWrong q_toldLetter q_toldHeat q_toldStory q_toldWords q_toldStories = some (ro, q_s_o, q_before_o, q_known_o, q_length_o, q_place_o, q_isWrong_o, q_toldLetter_o, q_toldHeat_o, q_toldStory_o, q_toldWords_o, q_toldStories_o)) : MI l yX4_write wsX4_write 3 69 [.ref (a 0)] D y (w_X4 y a q_s q_aside q_before q_known q_slots q_isSaved q_pad q_length q_letters q_heats q_reactions q_newSplits q_storiesThen q_heatThen q_place q_isWrong q_toldLetter q_toldHeat q_toldStory q_toldWords q_toldStories) sz ro (w_X4 y a q_s_o q_aside q_before_o q_known_o q_slots q_isSaved q_pad q_length_o q_letters q_heats q_reactions q_newSplits q_storiesThen q_heatThen q_place_o q_isWrong_o q_toldLetter_o q_toldHeat_o q_toldStory_o q_toldWords_o q_toldStories_o) := by
  refine M_i (cc := cX4_write) (maxL := 3) (own := RX4) (by decide) rfl rfl (Nat.le_of_ble_eq_true rfl) ?_
  intro p e s m args below meth c A Q F hK hA H locs hG hret ls hl
  have hx := F.1
  have hb := F.2.1
  have hl : lv_has ls 3 [(0, .ref (a 0))] := hl
  have k0 := F.2.2.2.2 (.fieldLink RX4 148 "HeatedStoriesModel" "isWrong" "Z") (List.mem_of_getElem? (i := 1) rfl)
  have k1 : ∀ w ∈ wsX40, w ∈ wsX4_write := (fun w h => List.mem_cons_of_mem _ (List.mem_append_right _ (h)))
  have k2 := F.2.2.2.2 (.fieldLink RX4 7 "HeatedStoriesModel" "s" "[I") (List.mem_of_getElem? (i := 2) rfl)
  have k3 := F.2.2.2.2 (.fieldLink RX4 155 "HeatedStoriesModel" "toldStories" "I") (List.mem_of_getElem? (i := 3) rfl)
  have k4 := F.2.2.2.2 (.fieldLink RX4 152 "HeatedStoriesModel" "toldWords" "I") (List.mem_of_getElem? (i := 4) rfl)
  have k5 := F.2.2.2.2 (.fieldLink RX4 35 "HeatedStoriesModel" "toldLetter" "[I") (List.mem_of_getElem? (i := 5) rfl)
  have k6 := F.2.2.2.2 (.fieldLink RX4 38 "HeatedStoriesModel" "toldHeat" "[I") (List.mem_of_getElem? (i := 6) rfl)
  have k7 := F.2.2.2.2 (.fieldLink RX4 41 "HeatedStoriesModel" "toldStory" "[I") (List.mem_of_getElem? (i := 7) rfl)
  have k8 := F.2.2.2.2 (.fieldLink RX4 119 "HeatedStoriesModel" "length" "I") (List.mem_of_getElem? (i := 8) rfl)
  unfold f_X4_write at hf
  refine lv_aload_n hx hb dX4_write_0 rfl (lv_at hl 0 rfl) ?_
  obtain ⟨q_place_1, q_isWrong_2, q_toldLetter_3, q_toldHeat_4, q_toldStory_5, q_toldWords_6, q_toldStories_7, h8, hf⟩ := bd7_e hf
  refine k_Wv F hK hA hG (c_X4_readPad l D y a H.size Fu q_s q_aside q_before q_known q_slots q_isSaved q_pad q_length q_letters q_heats q_reactions q_newSplits q_storiesThen q_heatThen q_place q_isWrong q_toldLetter q_toldHeat q_toldStory q_toldWords q_toldStories q_place_1 q_isWrong_2 q_toldLetter_3 q_toldHeat_4 q_toldStory_5 q_toldWords_6 q_toldStories_7 h8) (cwV 0 F.2.2.2.2 gX4_write_X4_readPad rfl rfl rfl (by decide +kernel) ⟨Nat.le_of_ble_eq_true rfl, Nat.le_of_ble_eq_true rfl⟩) 0 rfl rfl rfl rfl rfl hl.1 (Nat.le_of_ble_eq_true rfl) dX4_write_1 ⟨Nat.le_refl 0, Nat.le_refl 0⟩ (fun H locs hG => ?_)
  refine lv_aload_n hx hb dX4_write_4 rfl (lv_at hl 0 rfl) ?_
  refine w_get4 F hK hG k1 0 rfl 15 (by decide) k0 rfl dX4_write_5 ?_
  refine lv_if_eq (tgt := 14) hx hb dX4_write_8 (by decide) (fun c9 => ?_) (fun c9 => ?_)
  · have hf := it_e c9 hf
    refine lv_aload_n hx hb dX4_write_14 rfl (lv_at hl 0 rfl) ?_
    refine w_get4 F hK hG k1 0 rfl 0 (by decide) k2 rfl dX4_write_15 ?_
    refine lv_iconst (v := nI 3) hx hb dX4_write_18 rfl ?_
    refine w_ialdk F hK hG 1 rfl (Nat.le_of_ble_eq_true rfl) (Nat.le_of_ble_eq_true rfl) dX4_write_19 ?_
    refine lv_aload_n hx hb dX4_write_20 rfl (lv_at hl 0 rfl) ?_
    refine w_get4 F hK hG k1 0 rfl 20 (by decide) k3 rfl dX4_write_21 ?_
    refine lv_iadd hx hb dX4_write_24 ?_
    refine lv_bipush (v := nI 12) hx hb dX4_write_25 rfl ?_
    refine lv_icmp_gt (tgt := 47) hx hb dX4_write_27 (by decide) (fun c10 => ?_) (fun c10 => ?_)
    · have hf := it_e c10 hf
      refine lv_bipush (v := -4) hx hb dX4_write_47 rfl ?_
      have hf := so_e hf
      have e0 : (-4) = ro := congrArg (fun z => z.1) hf
      have e1 : q_s = q_s_o := congrArg (fun z => z.2.1) hf
      have e2 : q_before = q_before_o := congrArg (fun z => z.2.2.1) hf
      have e3 : q_known = q_known_o := congrArg (fun z => z.2.2.2.1) hf
      have e4 : q_length = q_length_o := congrArg (fun z => z.2.2.2.2.1) hf
      have e5 : q_place_1 = q_place_o := congrArg (fun z => z.2.2.2.2.2.1) hf
      have e6 : q_isWrong_2 = q_isWrong_o := congrArg (fun z => z.2.2.2.2.2.2.1) hf
      have e7 : q_toldLetter_3 = q_toldLetter_o := congrArg (fun z => z.2.2.2.2.2.2.2.1) hf
      have e8 : q_toldHeat_4 = q_toldHeat_o := congrArg (fun z => z.2.2.2.2.2.2.2.2.1) hf
      have e9 : q_toldStory_5 = q_toldStory_o := congrArg (fun z => z.2.2.2.2.2.2.2.2.2.1) hf
      have e10 : q_toldWords_6 = q_toldWords_o := congrArg (fun z => z.2.2.2.2.2.2.2.2.2.2.1) hf
      have e11 : q_toldStories_7 = q_toldStories_o := congrArg (fun z => z.2.2.2.2.2.2.2.2.2.2.2) hf
      exact hret _ _ _ _ _ e0 (by rw [← e1, ← e2, ← e3, ← e4, ← e5, ← e6, ← e7, ← e8, ← e9, ← e10, ← e11]; exact hG) dX4_write_49
    · have hf := if_e c10 hf
      refine lv_aload_n hx hb dX4_write_30 rfl (lv_at hl 0 rfl) ?_
      refine w_get4 F hK hG k1 0 rfl 0 (by decide) k2 rfl dX4_write_31 ?_
      refine lv_iconst (v := nI 4) hx hb dX4_write_34 rfl ?_
      refine w_ialdk F hK hG 1 rfl (Nat.le_of_ble_eq_true rfl) (Nat.le_of_ble_eq_true rfl) dX4_write_35 ?_
      refine lv_aload_n hx hb dX4_write_36 rfl (lv_at hl 0 rfl) ?_
      refine w_get4 F hK hG k1 0 rfl 19 (by decide) k4 rfl dX4_write_37 ?_
      refine lv_iadd hx hb dX4_write_40 ?_
      refine lv_sipush (v := nI 150) hx hb dX4_write_41 rfl ?_
      refine lv_icmp_le (tgt := 50) hx hb dX4_write_44 (by decide) (fun c11 => ?_) (fun c11 => ?_)
      · have hf := it_e c11 hf
        refine lv_aload_n hx hb dX4_write_50 rfl (lv_at hl 0 rfl) ?_
        obtain ⟨q_before_12, q_known_13, h14, hf⟩ := bd2_e hf
        refine k_Wv F hK hA hG (c_X4_know l D y a H.size Fu q_s q_aside q_before q_known q_slots q_isSaved q_pad q_length q_letters q_heats q_reactions q_newSplits q_storiesThen q_heatThen q_place_1 q_isWrong_2 q_toldLetter_3 q_toldHeat_4 q_toldStory_5 q_toldWords_6 q_toldStories_7 q_before_12 q_known_13 h14) (cwV 0 F.2.2.2.2 gX4_write_X4_know rfl rfl rfl (by decide +kernel) ⟨Nat.le_of_ble_eq_true rfl, Nat.le_of_ble_eq_true rfl⟩) 0 rfl rfl rfl rfl rfl hl.1 (Nat.le_of_ble_eq_true rfl) dX4_write_51 ⟨Nat.le_refl 0, Nat.le_refl 0⟩ (fun H locs hG => ?_)
        refine lv_aload_n hx hb dX4_write_54 rfl (lv_at hl 0 rfl) ?_
        refine w_get4 F hK hG k1 0 rfl 0 (by decide) k2 rfl dX4_write_55 ?_
        refine lv_iconst (v := nI 3) hx hb dX4_write_58 rfl ?_
        refine w_ialdk F hK hG 1 rfl (Nat.le_of_ble_eq_true rfl) (Nat.le_of_ble_eq_true rfl) dX4_write_59 ?_
        refine lv_istore_n (lv' := [(1, .int (q_s 3)), (0, .ref (a 0))]) hx hb dX4_write_60 rfl hl (by decide) rfl (fun ls hl => ?_)
        refine lv_iconst (v := nI 0) hx hb dX4_write_61 rfl ?_
        refine lv_istore_n (lv' := [(2, .int (nI 0)), (1, .int (q_s 3)), (0, .ref (a 0))]) hx hb dX4_write_62 rfl hl (by decide) rfl (fun ls hl => ?_)
        obtain ⟨k_63, ek_63, hf⟩ := jn_e hf
        have hk_63 : ∀ (q_s_23 : Ar) (H : Heap) (locs : List Loc) (ls : Array Slot), k_63 q_s_23 = some (ro, q_s_o, q_before_o, q_known_o, q_length_o, q_place_o, q_isWrong_o, q_toldLetter_o, q_toldHeat_o, q_toldStory_o, q_toldWords_o, q_toldStories_o) → GG D A s.heap (w_X4 y a q_s_23 q_aside q_before_12 q_known_13 q_slots q_isSaved q_pad q_length q_letters q_heats q_reactions q_newSplits q_storiesThen q_heatThen q_place_1 q_isWrong_2 q_toldLetter_3 q_toldHeat_4 q_toldStory_5 q_toldWords_6 q_toldStories_7) H locs → lv_has ls 3 [(0, .ref (a 0)), (1, .int (q_s 3))] → W p l e (RM 3 69) s m args below meth c H locs 0 0 Q (F0 m 128 ls []) := by
          intro q_s_23 H locs ls hf hG hl
          rw [ek_63] at hf
          refine lv_iconst (v := nI 0) hx hb dX4_write_128 rfl ?_
          refine lv_istore_n (lv' := [(2, .int (nI 0)), (0, .ref (a 0)), (1, .int (q_s 3))]) hx hb dX4_write_129 rfl hl (by decide) rfl (fun ls hl => ?_)
          obtain ⟨k_130, ek_130, hf⟩ := jn_e hf
          have hk_130 : ∀ (q_s_37 : Ar) (H : Heap) (locs : List Loc) (ls : Array Slot), k_130 q_s_37 = some (ro, q_s_o, q_before_o, q_known_o, q_length_o, q_place_o, q_isWrong_o, q_toldLetter_o, q_toldHeat_o, q_toldStory_o, q_toldWords_o, q_toldStories_o) → GG D A s.heap (w_X4 y a q_s_37 q_aside q_before_12 q_known_13 q_slots q_isSaved q_pad q_length q_letters q_heats q_reactions q_newSplits q_storiesThen q_heatThen q_place_1 q_isWrong_2 q_toldLetter_3 q_toldHeat_4 q_toldStory_5 q_toldWords_6 q_toldStories_7) H locs → lv_has ls 3 [(0, .ref (a 0))] → W p l e (RM 3 69) s m args below meth c H locs 0 0 Q (F0 m 209 ls []) := by
            intro q_s_37 H locs ls hf hG hl
            rw [ek_130] at hf
            refine lv_aload_n hx hb dX4_write_209 rfl (lv_at hl 0 rfl) ?_
            refine w_get4 F hK hG k1 0 rfl 0 (by decide) k2 rfl dX4_write_210 ?_
            refine lv_iconst (v := nI 3) hx hb dX4_write_213 rfl ?_
            refine lv_dup2_11 hx hb dX4_write_214 rfl rfl ?_
            refine w_ialdk F hK hG 1 rfl (Nat.le_of_ble_eq_true rfl) (Nat.le_of_ble_eq_true rfl) dX4_write_215 ?_
            refine lv_aload_n hx hb dX4_write_216 rfl (lv_at hl 0 rfl) ?_
            refine w_get4 F hK hG k1 0 rfl 20 (by decide) k3 rfl dX4_write_217 ?_
            refine lv_iadd hx hb dX4_write_220 ?_
            refine w_iastk F hK hG 1 rfl (Nat.le_of_ble_eq_true rfl) (Nat.le_of_ble_eq_true rfl) (w_X4 y a (upd q_s_37 3 ((q_s_37 3) + q_toldStories_7)) q_aside q_before_12 q_known_13 q_slots q_isSaved q_pad q_length q_letters q_heats q_reactions q_newSplits q_storiesThen q_heatThen q_place_1 q_isWrong_2 q_toldLetter_3 q_toldHeat_4 q_toldStory_5 q_toldWords_6 q_toldStories_7) rfl dX4_write_221 (fun H locs hG => ?_)
            refine lv_aload_n hx hb dX4_write_222 rfl (lv_at hl 0 rfl) ?_
            refine w_get4 F hK hG k1 0 rfl 0 (by decide) k2 rfl dX4_write_223 ?_
            refine lv_iconst (v := nI 4) hx hb dX4_write_226 rfl ?_
            refine lv_dup2_11 hx hb dX4_write_227 rfl rfl ?_
            refine w_ialdk F hK hG 1 rfl (Nat.le_of_ble_eq_true rfl) (Nat.le_of_ble_eq_true rfl) dX4_write_228 ?_
            refine lv_aload_n hx hb dX4_write_229 rfl (lv_at hl 0 rfl) ?_
            refine w_get4 F hK hG k1 0 rfl 19 (by decide) k4 rfl dX4_write_230 ?_
            refine lv_iadd hx hb dX4_write_233 ?_
            refine w_iastk F hK hG 1 rfl (Nat.le_of_ble_eq_true rfl) (Nat.le_of_ble_eq_true rfl) (w_X4 y a (upd (upd q_s_37 3 ((q_s_37 3) + q_toldStories_7)) 4 (((upd q_s_37 3 ((q_s_37 3) + q_toldStories_7)) 4) + q_toldWords_6)) q_aside q_before_12 q_known_13 q_slots q_isSaved q_pad q_length q_letters q_heats q_reactions q_newSplits q_storiesThen q_heatThen q_place_1 q_isWrong_2 q_toldLetter_3 q_toldHeat_4 q_toldStory_5 q_toldWords_6 q_toldStories_7) rfl dX4_write_234 (fun H locs hG => ?_)
            obtain ⟨q_s_38, eq_s_38, hf⟩ := nm_o hf
            rw [← eq_s_38] at hG
            refine lv_aload_n hx hb dX4_write_235 rfl (lv_at hl 0 rfl) ?_
            refine lv_iconst (v := nI 0) hx hb dX4_write_236 rfl ?_
            refine w_put4 F hK hG k1 0 rfl 7 (by decide) k8 rfl rfl rfl (Nat.le_of_ble_eq_true rfl) (w_X4 y a q_s_38 q_aside q_before_12 q_known_13 q_slots q_isSaved q_pad (nI 0) q_letters q_heats q_reactions q_newSplits q_storiesThen q_heatThen q_place_1 q_isWrong_2 q_toldLetter_3 q_toldHeat_4 q_toldStory_5 q_toldWords_6 q_toldStories_7) rfl dX4_write_237 (fun H locs hG => ?_)
            refine lv_aload_n hx hb dX4_write_240 rfl (lv_at hl 0 rfl) ?_
            obtain ⟨r39, q_s_40, h41, hf⟩ := bd2_e hf
            refine k_Wi F hK hA hG (c_X4_react l D y a H.size Fu q_s_38 q_aside q_before_12 q_known_13 q_slots q_isSaved q_pad (nI 0) q_letters q_heats q_reactions q_newSplits q_storiesThen q_heatThen q_place_1 q_isWrong_2 q_toldLetter_3 q_toldHeat_4 q_toldStory_5 q_toldWords_6 q_toldStories_7 r39 q_s_40 h41) (cwV 0 F.2.2.2.2 gX4_write_X4_react rfl rfl rfl (by decide +kernel) ⟨Nat.le_of_ble_eq_true rfl, Nat.le_of_ble_eq_true rfl⟩) 0 rfl rfl rfl rfl rfl hl.1 (Nat.le_of_ble_eq_true rfl) dX4_write_241 ⟨Nat.le_refl 0, Nat.le_refl 0⟩ (fun H locs hG => ?_)
            refine lv_istore_n (lv' := [(2, .int r39), (0, .ref (a 0))]) hx hb dX4_write_244 rfl hl (by decide) rfl (fun ls hl => ?_)
            refine lv_aload_n hx hb dX4_write_245 rfl (lv_at hl 1 rfl) ?_
            refine w_get4 F hK hG k1 0 rfl 0 (by decide) k2 rfl dX4_write_246 ?_
            refine lv_iconst (v := nI 3) hx hb dX4_write_249 rfl ?_
            refine w_ialdk F hK hG 1 rfl (Nat.le_of_ble_eq_true rfl) (Nat.le_of_ble_eq_true rfl) dX4_write_250 ?_
            have hf := so_e hf
            have e0 : (q_s_40 3) = ro := congrArg (fun z => z.1) hf
            have e1 : q_s_40 = q_s_o := congrArg (fun z => z.2.1) hf
            have e2 : q_before_12 = q_before_o := congrArg (fun z => z.2.2.1) hf
            have e3 : q_known_13 = q_known_o := congrArg (fun z => z.2.2.2.1) hf
            have e4 : (nI 0) = q_length_o := congrArg (fun z => z.2.2.2.2.1) hf
            have e5 : q_place_1 = q_place_o := congrArg (fun z => z.2.2.2.2.2.1) hf
            have e6 : q_isWrong_2 = q_isWrong_o := congrArg (fun z => z.2.2.2.2.2.2.1) hf
            have e7 : q_toldLetter_3 = q_toldLetter_o := congrArg (fun z => z.2.2.2.2.2.2.2.1) hf
            have e8 : q_toldHeat_4 = q_toldHeat_o := congrArg (fun z => z.2.2.2.2.2.2.2.2.1) hf
            have e9 : q_toldStory_5 = q_toldStory_o := congrArg (fun z => z.2.2.2.2.2.2.2.2.2.1) hf
            have e10 : q_toldWords_6 = q_toldWords_o := congrArg (fun z => z.2.2.2.2.2.2.2.2.2.2.1) hf
            have e11 : q_toldStories_7 = q_toldStories_o := congrArg (fun z => z.2.2.2.2.2.2.2.2.2.2.2) hf
            exact hret _ _ _ _ _ e0 (by rw [← e1, ← e2, ← e3, ← e4, ← e5, ← e6, ← e7, ← e8, ← e9, ← e10, ← e11]; exact hG) dX4_write_251
          have hL130 : ∀ (fu : Nat) (x24 : Int32) (q_s_25 : Ar) (H : Heap) (locs : List Loc) (ls : Array Slot), f_X4_write_L130 Fu k_130 q_s q_toldLetter_3 q_toldHeat_4 q_toldStory_5 q_toldWords_6 fu x24 q_s_25 = some (ro, q_s_o, q_before_o, q_known_o, q_length_o, q_place_o, q_isWrong_o, q_toldLetter_o, q_toldHeat_o, q_toldStory_o, q_toldWords_o, q_toldStories_o) → GG D A s.heap (w_X4 y a q_s_25 q_aside q_before_12 q_known_13 q_slots q_isSaved q_pad q_length q_letters q_heats q_reactions q_newSplits q_storiesThen q_heatThen q_place_1 q_isWrong_2 q_toldLetter_3 q_toldHeat_4 q_toldStory_5 q_toldWords_6 q_toldStories_7) H locs → lv_has ls 3 [(0, .ref (a 0)), (1, .int (q_s 3)), (2, .int x24)] → W p l e (RM 3 69) s m args below meth c H locs 0 0 Q (F0 m 130 ls []) := by
            intro fu
            induction fu with
            | zero => intro x24 q_s_25 H locs ls hf hG hl; exact no_e hf
            | succ fu ih =>
              intro x24 q_s_25 H locs ls hf hG hl
              rw [f_X4_write_L130_s] at hf
              refine lv_iload_n hx hb dX4_write_130 rfl (lv_at hl 2 rfl) ?_
              refine lv_aload_n hx hb dX4_write_131 rfl (lv_at hl 0 rfl) ?_
              refine w_get4 F hK hG k1 0 rfl 19 (by decide) k4 rfl dX4_write_132 ?_
              refine lv_icmp_ge (tgt := 209) hx hb dX4_write_135 (by decide) (fun c26 => ?_) (fun c26 => ?_)
              · have hf := it_e c26 hf
                exact hk_130 q_s_25 _ _ ls hf hG (lv_sub hl [0] rfl)
              · have hf := if_e c26 hf
                refine lv_aload_n hx hb dX4_write_138 rfl (lv_at hl 0 rfl) ?_
                refine w_get4 F hK hG k1 0 rfl 0 (by decide) k2 rfl dX4_write_139 ?_
                refine lv_bipush (v := nI 45) hx hb dX4_write_142 rfl ?_
                refine lv_aload_n hx hb dX4_write_144 rfl (lv_at hl 0 rfl) ?_
                refine w_get4 F hK hG k1 0 rfl 0 (by decide) k2 rfl dX4_write_145 ?_
                refine lv_iconst (v := nI 4) hx hb dX4_write_148 rfl ?_
                refine w_ialdk F hK hG 1 rfl (Nat.le_of_ble_eq_true rfl) (Nat.le_of_ble_eq_true rfl) dX4_write_149 ?_
                refine lv_iadd hx hb dX4_write_150 ?_
                refine lv_iload_n hx hb dX4_write_151 rfl (lv_at hl 2 rfl) ?_
                refine lv_iadd hx hb dX4_write_152 ?_
                refine lv_aload_n hx hb dX4_write_153 rfl (lv_at hl 0 rfl) ?_
                refine w_get4 F hK hG k1 0 rfl 16 (by decide) k5 rfl dX4_write_154 ?_
                refine lv_iload_n hx hb dX4_write_157 rfl (lv_at hl 2 rfl) ?_
                obtain ⟨g27, hf⟩ := gd_e hf
                refine w_iald F hK hG 9 rfl g27 dX4_write_158 ?_
                obtain ⟨g28, hf⟩ := gd_e hf
                refine w_iast F hK hG 1 rfl g28 (w_X4 y a (upd q_s_25 (((nI 45) + (q_s_25 4)) + x24).toNatClampNeg (q_toldLetter_3 (x24).toNatClampNeg)) q_aside q_before_12 q_known_13 q_slots q_isSaved q_pad q_length q_letters q_heats q_reactions q_newSplits q_storiesThen q_heatThen q_place_1 q_isWrong_2 q_toldLetter_3 q_toldHeat_4 q_toldStory_5 q_toldWords_6 q_toldStories_7) rfl dX4_write_159 (fun H locs hG => ?_)
                obtain ⟨q_s_29, eq_s_29, hf⟩ := nm_o hf
                rw [← eq_s_29] at hG
                refine lv_aload_n hx hb dX4_write_160 rfl (lv_at hl 0 rfl) ?_
                refine w_get4 F hK hG k1 0 rfl 0 (by decide) k2 rfl dX4_write_161 ?_
                refine lv_sipush (v := nI 195) hx hb dX4_write_164 rfl ?_
                refine lv_aload_n hx hb dX4_write_167 rfl (lv_at hl 0 rfl) ?_
                refine w_get4 F hK hG k1 0 rfl 0 (by decide) k2 rfl dX4_write_168 ?_
                refine lv_iconst (v := nI 4) hx hb dX4_write_171 rfl ?_
                refine w_ialdk F hK hG 1 rfl (Nat.le_of_ble_eq_true rfl) (Nat.le_of_ble_eq_true rfl) dX4_write_172 ?_
                refine lv_iadd hx hb dX4_write_173 ?_
                refine lv_iload_n hx hb dX4_write_174 rfl (lv_at hl 2 rfl) ?_
                refine lv_iadd hx hb dX4_write_175 ?_
                refine lv_aload_n hx hb dX4_write_176 rfl (lv_at hl 0 rfl) ?_
                refine w_get4 F hK hG k1 0 rfl 17 (by decide) k6 rfl dX4_write_177 ?_
                refine lv_iload_n hx hb dX4_write_180 rfl (lv_at hl 2 rfl) ?_
                obtain ⟨g30, hf⟩ := gd_e hf
                refine w_iald F hK hG 10 rfl g30 dX4_write_181 ?_
                obtain ⟨g31, hf⟩ := gd_e hf
                refine w_iast F hK hG 1 rfl g31 (w_X4 y a (upd q_s_29 (((nI 195) + (q_s_29 4)) + x24).toNatClampNeg (q_toldHeat_4 (x24).toNatClampNeg)) q_aside q_before_12 q_known_13 q_slots q_isSaved q_pad q_length q_letters q_heats q_reactions q_newSplits q_storiesThen q_heatThen q_place_1 q_isWrong_2 q_toldLetter_3 q_toldHeat_4 q_toldStory_5 q_toldWords_6 q_toldStories_7) rfl dX4_write_182 (fun H locs hG => ?_)
                obtain ⟨q_s_32, eq_s_32, hf⟩ := nm_o hf
                rw [← eq_s_32] at hG
                refine lv_aload_n hx hb dX4_write_183 rfl (lv_at hl 0 rfl) ?_
                refine w_get4 F hK hG k1 0 rfl 0 (by decide) k2 rfl dX4_write_184 ?_
                refine lv_bipush (v := nI 9) hx hb dX4_write_187 rfl ?_
                refine lv_iload_n hx hb dX4_write_189 rfl (lv_at hl 1 rfl) ?_
                refine lv_iadd hx hb dX4_write_190 ?_
                refine lv_aload_n hx hb dX4_write_191 rfl (lv_at hl 0 rfl) ?_
                refine w_get4 F hK hG k1 0 rfl 18 (by decide) k7 rfl dX4_write_192 ?_
                refine lv_iload_n hx hb dX4_write_195 rfl (lv_at hl 2 rfl) ?_
                obtain ⟨g33, hf⟩ := gd_e hf
                refine w_iald F hK hG 11 rfl g33 dX4_write_196 ?_
                refine lv_iadd hx hb dX4_write_197 ?_
                refine lv_dup2_11 hx hb dX4_write_198 rfl rfl ?_
                obtain ⟨g34, hf⟩ := gd_e hf
                refine w_iald F hK hG 1 rfl g34 dX4_write_199 ?_
                refine lv_iconst (v := nI 1) hx hb dX4_write_200 rfl ?_
                refine lv_iadd hx hb dX4_write_201 ?_
                obtain ⟨g35, hf⟩ := gd_e hf
                refine w_iast F hK hG 1 rfl g35 (w_X4 y a (upd q_s_32 (((nI 9) + (q_s 3)) + (q_toldStory_5 (x24).toNatClampNeg)).toNatClampNeg ((q_s_32 (((nI 9) + (q_s 3)) + (q_toldStory_5 (x24).toNatClampNeg)).toNatClampNeg) + (nI 1))) q_aside q_before_12 q_known_13 q_slots q_isSaved q_pad q_length q_letters q_heats q_reactions q_newSplits q_storiesThen q_heatThen q_place_1 q_isWrong_2 q_toldLetter_3 q_toldHeat_4 q_toldStory_5 q_toldWords_6 q_toldStories_7) rfl dX4_write_202 (fun H locs hG => ?_)
                obtain ⟨q_s_36, eq_s_36, hf⟩ := nm_o hf
                rw [← eq_s_36] at hG
                refine lv_iinc (v := x24 + (nI 1)) (lv' := [(2, .int (x24 + (nI 1))), (0, .ref (a 0)), (1, .int (q_s 3))]) hx hb dX4_write_203 hl (k := 2) rfl rfl (by decide) rfl (fun ls hl => ?_)
                refine lv_goto (tgt := 130) hx hb dX4_write_206 (by decide) ?_
                exact ih (x24 + (nI 1)) q_s_36 _ _ ls hf hG (lv_sub hl [1, 2, 0] rfl)
          exact hL130 Fu (nI 0) q_s_23 _ _ ls hf hG (lv_sub hl [1, 2, 0] rfl)
        have hL63 : ∀ (fu : Nat) (x15 : Int32) (q_s_16 : Ar) (H : Heap) (locs : List Loc) (ls : Array Slot), f_X4_write_L63 Fu k_63 q_s q_toldStories_7 fu x15 q_s_16 = some (ro, q_s_o, q_before_o, q_known_o, q_length_o, q_place_o, q_isWrong_o, q_toldLetter_o, q_toldHeat_o, q_toldStory_o, q_toldWords_o, q_toldStories_o) → GG D A s.heap (w_X4 y a q_s_16 q_aside q_before_12 q_known_13 q_slots q_isSaved q_pad q_length q_letters q_heats q_reactions q_newSplits q_storiesThen q_heatThen q_place_1 q_isWrong_2 q_toldLetter_3 q_toldHeat_4 q_toldStory_5 q_toldWords_6 q_toldStories_7) H locs → lv_has ls 3 [(0, .ref (a 0)), (1, .int (q_s 3)), (2, .int x15)] → W p l e (RM 3 69) s m args below meth c H locs 0 0 Q (F0 m 63 ls []) := by
          intro fu
          induction fu with
          | zero => intro x15 q_s_16 H locs ls hf hG hl; exact no_e hf
          | succ fu ih =>
            intro x15 q_s_16 H locs ls hf hG hl
            rw [f_X4_write_L63_s] at hf
            refine lv_iload_n hx hb dX4_write_63 rfl (lv_at hl 2 rfl) ?_
            refine lv_aload_n hx hb dX4_write_64 rfl (lv_at hl 0 rfl) ?_
            refine w_get4 F hK hG k1 0 rfl 20 (by decide) k3 rfl dX4_write_65 ?_
            refine lv_icmp_ge (tgt := 128) hx hb dX4_write_68 (by decide) (fun c17 => ?_) (fun c17 => ?_)
            · have hf := it_e c17 hf
              exact hk_63 q_s_16 _ _ ls hf hG (lv_sub hl [0, 1] rfl)
            · have hf := if_e c17 hf
              refine lv_aload_n hx hb dX4_write_71 rfl (lv_at hl 0 rfl) ?_
              refine w_get4 F hK hG k1 0 rfl 0 (by decide) k2 rfl dX4_write_72 ?_
              refine lv_bipush (v := nI 9) hx hb dX4_write_75 rfl ?_
              refine lv_iload_n hx hb dX4_write_77 rfl (lv_at hl 1 rfl) ?_
              refine lv_iadd hx hb dX4_write_78 ?_
              refine lv_iload_n hx hb dX4_write_79 rfl (lv_at hl 2 rfl) ?_
              refine lv_iadd hx hb dX4_write_80 ?_
              refine lv_iconst (v := nI 0) hx hb dX4_write_81 rfl ?_
              obtain ⟨g18, hf⟩ := gd_e hf
              refine w_iast F hK hG 1 rfl g18 (w_X4 y a (upd q_s_16 (((nI 9) + (q_s 3)) + x15).toNatClampNeg (nI 0)) q_aside q_before_12 q_known_13 q_slots q_isSaved q_pad q_length q_letters q_heats q_reactions q_newSplits q_storiesThen q_heatThen q_place_1 q_isWrong_2 q_toldLetter_3 q_toldHeat_4 q_toldStory_5 q_toldWords_6 q_toldStories_7) rfl dX4_write_82 (fun H locs hG => ?_)
              refine lv_aload_n hx hb dX4_write_83 rfl (lv_at hl 0 rfl) ?_
              refine w_get4 F hK hG k1 0 rfl 0 (by decide) k2 rfl dX4_write_84 ?_
              refine lv_bipush (v := nI 21) hx hb dX4_write_87 rfl ?_
              refine lv_iload_n hx hb dX4_write_89 rfl (lv_at hl 1 rfl) ?_
              refine lv_iadd hx hb dX4_write_90 ?_
              refine lv_iload_n hx hb dX4_write_91 rfl (lv_at hl 2 rfl) ?_
              refine lv_iadd hx hb dX4_write_92 ?_
              refine lv_aload_n hx hb dX4_write_93 rfl (lv_at hl 0 rfl) ?_
              refine w_get4 F hK hG k1 0 rfl 0 (by decide) k2 rfl dX4_write_94 ?_
              refine lv_iconst (v := nI 5) hx hb dX4_write_97 rfl ?_
              refine w_ialdk F hK hG 1 rfl (Nat.le_of_ble_eq_true rfl) (Nat.le_of_ble_eq_true rfl) dX4_write_98 ?_
              obtain ⟨g19, hf⟩ := gd_e hf
              refine w_iast F hK hG 1 rfl g19 (w_X4 y a (upd (upd q_s_16 (((nI 9) + (q_s 3)) + x15).toNatClampNeg (nI 0)) (((nI 21) + (q_s 3)) + x15).toNatClampNeg ((upd q_s_16 (((nI 9) + (q_s 3)) + x15).toNatClampNeg (nI 0)) 5)) q_aside q_before_12 q_known_13 q_slots q_isSaved q_pad q_length q_letters q_heats q_reactions q_newSplits q_storiesThen q_heatThen q_place_1 q_isWrong_2 q_toldLetter_3 q_toldHeat_4 q_toldStory_5 q_toldWords_6 q_toldStories_7) rfl dX4_write_99 (fun H locs hG => ?_)
              obtain ⟨q_s_20, eq_s_20, hf⟩ := nm_o hf
              rw [← eq_s_20] at hG
              refine lv_aload_n hx hb dX4_write_100 rfl (lv_at hl 0 rfl) ?_
              refine w_get4 F hK hG k1 0 rfl 0 (by decide) k2 rfl dX4_write_101 ?_
              refine lv_bipush (v := nI 33) hx hb dX4_write_104 rfl ?_
              refine lv_iload_n hx hb dX4_write_106 rfl (lv_at hl 1 rfl) ?_
              refine lv_iadd hx hb dX4_write_107 ?_
              refine lv_iload_n hx hb dX4_write_108 rfl (lv_at hl 2 rfl) ?_
              refine lv_iadd hx hb dX4_write_109 ?_
              refine lv_iconst (v := nI 0) hx hb dX4_write_110 rfl ?_
              obtain ⟨g21, hf⟩ := gd_e hf
              refine w_iast F hK hG 1 rfl g21 (w_X4 y a (upd q_s_20 (((nI 33) + (q_s 3)) + x15).toNatClampNeg (nI 0)) q_aside q_before_12 q_known_13 q_slots q_isSaved q_pad q_length q_letters q_heats q_reactions q_newSplits q_storiesThen q_heatThen q_place_1 q_isWrong_2 q_toldLetter_3 q_toldHeat_4 q_toldStory_5 q_toldWords_6 q_toldStories_7) rfl dX4_write_111 (fun H locs hG => ?_)
              obtain ⟨q_s_22, eq_s_22, hf⟩ := nm_o hf
              rw [← eq_s_22] at hG
              refine lv_aload_n hx hb dX4_write_112 rfl (lv_at hl 0 rfl) ?_
              refine w_get4 F hK hG k1 0 rfl 0 (by decide) k2 rfl dX4_write_113 ?_
              refine lv_iconst (v := nI 5) hx hb dX4_write_116 rfl ?_
              refine lv_dup2_11 hx hb dX4_write_117 rfl rfl ?_
              refine w_ialdk F hK hG 1 rfl (Nat.le_of_ble_eq_true rfl) (Nat.le_of_ble_eq_true rfl) dX4_write_118 ?_
              refine lv_iconst (v := nI 1) hx hb dX4_write_119 rfl ?_
              refine lv_iadd hx hb dX4_write_120 ?_
              refine w_iastk F hK hG 1 rfl (Nat.le_of_ble_eq_true rfl) (Nat.le_of_ble_eq_true rfl) (w_X4 y a (upd q_s_22 5 ((q_s_22 5) + (nI 1))) q_aside q_before_12 q_known_13 q_slots q_isSaved q_pad q_length q_letters q_heats q_reactions q_newSplits q_storiesThen q_heatThen q_place_1 q_isWrong_2 q_toldLetter_3 q_toldHeat_4 q_toldStory_5 q_toldWords_6 q_toldStories_7) rfl dX4_write_121 (fun H locs hG => ?_)
              refine lv_iinc (v := x15 + (nI 1)) (lv' := [(2, .int (x15 + (nI 1))), (0, .ref (a 0)), (1, .int (q_s 3))]) hx hb dX4_write_122 hl (k := 2) rfl rfl (by decide) rfl (fun ls hl => ?_)
              refine lv_goto (tgt := 63) hx hb dX4_write_125 (by decide) ?_
              exact ih (x15 + (nI 1)) (upd q_s_22 5 ((q_s_22 5) + (nI 1))) _ _ ls hf hG (lv_sub hl [1, 2, 0] rfl)
        exact hL63 Fu (nI 0) q_s _ _ ls hf hG (lv_sub hl [2, 1, 0] rfl)
      · have hf := if_e c11 hf
        refine lv_bipush (v := -4) hx hb dX4_write_47 rfl ?_
        have hf := so_e hf
        have e0 : (-4) = ro := congrArg (fun z => z.1) hf
        have e1 : q_s = q_s_o := congrArg (fun z => z.2.1) hf
        have e2 : q_before = q_before_o := congrArg (fun z => z.2.2.1) hf
        have e3 : q_known = q_known_o := congrArg (fun z => z.2.2.2.1) hf
        have e4 : q_length = q_length_o := congrArg (fun z => z.2.2.2.2.1) hf
        have e5 : q_place_1 = q_place_o := congrArg (fun z => z.2.2.2.2.2.1) hf
        have e6 : q_isWrong_2 = q_isWrong_o := congrArg (fun z => z.2.2.2.2.2.2.1) hf
        have e7 : q_toldLetter_3 = q_toldLetter_o := congrArg (fun z => z.2.2.2.2.2.2.2.1) hf
        have e8 : q_toldHeat_4 = q_toldHeat_o := congrArg (fun z => z.2.2.2.2.2.2.2.2.1) hf
        have e9 : q_toldStory_5 = q_toldStory_o := congrArg (fun z => z.2.2.2.2.2.2.2.2.2.1) hf
        have e10 : q_toldWords_6 = q_toldWords_o := congrArg (fun z => z.2.2.2.2.2.2.2.2.2.2.1) hf
        have e11 : q_toldStories_7 = q_toldStories_o := congrArg (fun z => z.2.2.2.2.2.2.2.2.2.2.2) hf
        exact hret _ _ _ _ _ e0 (by rw [← e1, ← e2, ← e3, ← e4, ← e5, ← e6, ← e7, ← e8, ← e9, ← e10, ← e11]; exact hG) dX4_write_49
  · have hf := if_e c9 hf
    refine lv_bipush (v := -3) hx hb dX4_write_11 rfl ?_
    have hf := so_e hf
    have e0 : (-3) = ro := congrArg (fun z => z.1) hf
    have e1 : q_s = q_s_o := congrArg (fun z => z.2.1) hf
    have e2 : q_before = q_before_o := congrArg (fun z => z.2.2.1) hf
    have e3 : q_known = q_known_o := congrArg (fun z => z.2.2.2.1) hf
    have e4 : q_length = q_length_o := congrArg (fun z => z.2.2.2.2.1) hf
    have e5 : q_place_1 = q_place_o := congrArg (fun z => z.2.2.2.2.2.1) hf
    have e6 : q_isWrong_2 = q_isWrong_o := congrArg (fun z => z.2.2.2.2.2.2.1) hf
    have e7 : q_toldLetter_3 = q_toldLetter_o := congrArg (fun z => z.2.2.2.2.2.2.2.1) hf
    have e8 : q_toldHeat_4 = q_toldHeat_o := congrArg (fun z => z.2.2.2.2.2.2.2.2.1) hf
    have e9 : q_toldStory_5 = q_toldStory_o := congrArg (fun z => z.2.2.2.2.2.2.2.2.2.1) hf
    have e10 : q_toldWords_6 = q_toldWords_o := congrArg (fun z => z.2.2.2.2.2.2.2.2.2.2.1) hf
    have e11 : q_toldStories_7 = q_toldStories_o := congrArg (fun z => z.2.2.2.2.2.2.2.2.2.2.2) hf
    exact hret _ _ _ _ _ e0 (by rw [← e1, ← e2, ← e3, ← e4, ← e5, ← e6, ← e7, ← e8, ← e9, ← e10, ← e11]; exact hG) dX4_write_13
set_option maxHeartbeats 1000000 in
set_option maxRecDepth 100000 in
theorem c_X4_undo (l : Launch) (D : va_G) (y : Nat → ClassId) (a : Nat → Nat) (sz : Nat) (Fu : Nat) (q_s : Ar) (q_aside : Ar) (q_before : Ar) (q_known : Int32) (q_slots : Ar) (q_isSaved : Ar) (q_pad : Ar) (q_length : Int32) (q_letters : Ar) (q_heats : Ar) (q_reactions : Int32) (q_newSplits : Int32) (q_storiesThen : Int32) (q_heatThen : Int32) (q_place : Int32) (q_isWrong : Int32) (q_toldLetter : Ar) (q_toldHeat : Ar) (q_toldStory : Ar) (q_toldWords : Int32) (q_toldStories : Int32) (ro : Int32) (q_s_o : Ar) (q_known_o : Int32) (hf : f_X4_undo Fu q_s q_before q_known = some (ro, q_s_o, q_known_o)) : MI l yX4_undo wsX4_undo 0 0 [.ref (a 0)] D y (w_X4 y a q_s q_aside q_before q_known q_slots q_isSaved q_pad q_length q_letters q_heats q_reactions q_newSplits q_storiesThen q_heatThen q_place q_isWrong q_toldLetter q_toldHeat q_toldStory q_toldWords q_toldStories) sz ro (w_X4 y a q_s_o q_aside q_before q_known_o q_slots q_isSaved q_pad q_length q_letters q_heats q_reactions q_newSplits q_storiesThen q_heatThen q_place q_isWrong q_toldLetter q_toldHeat q_toldStory q_toldWords q_toldStories) := by
  refine M_i (cc := cX4_undo) (maxL := 2) (own := RX4) (by decide) rfl rfl (Nat.le_of_ble_eq_true rfl) ?_
  intro p e s m args below meth c A Q F hK hA H locs hG hret ls hl
  have hx := F.1
  have hb := F.2.1
  have hl : lv_has ls 2 [(0, .ref (a 0))] := hl
  have k0 := F.2.2.2.2 (.fieldLink RX4 52 "HeatedStoriesModel" "known" "I") (List.mem_of_getElem? (i := 1) rfl)
  have k1 : ∀ w ∈ wsX40, w ∈ wsX4_undo := (fun w h => List.mem_cons_of_mem _ (List.mem_append_right _ (h)))
  have k2 := F.2.2.2.2 (.fieldLink RX4 7 "HeatedStoriesModel" "s" "[I") (List.mem_of_getElem? (i := 2) rfl)
  have k3 := F.2.2.2.2 (.fieldLink RX4 16 "HeatedStoriesModel" "before" "[I") (List.mem_of_getElem? (i := 3) rfl)
  unfold f_X4_undo at hf
  refine lv_aload_n hx hb dX4_undo_0 rfl (lv_at hl 0 rfl) ?_
  refine w_get4 F hK hG k1 0 rfl 3 (by decide) k0 rfl dX4_undo_1 ?_
  refine lv_if_ne (tgt := 10) hx hb dX4_undo_4 (by decide) (fun c1 => ?_) (fun c1 => ?_)
  · have hf := if_e c1 hf
    refine lv_aload_n hx hb dX4_undo_10 rfl (lv_at hl 0 rfl) ?_
    refine lv_dup hx hb dX4_undo_11 rfl ?_
    refine w_get4 F hK hG k1 0 rfl 3 (by decide) k0 rfl dX4_undo_12 ?_
    refine lv_iconst (v := nI 1) hx hb dX4_undo_15 rfl ?_
    refine lv_isub hx hb dX4_undo_16 ?_
    refine w_put4 F hK hG k1 0 rfl 3 (by decide) k0 rfl rfl rfl (Nat.le_of_ble_eq_true rfl) (w_X4 y a q_s q_aside q_before (q_known - (nI 1)) q_slots q_isSaved q_pad q_length q_letters q_heats q_reactions q_newSplits q_storiesThen q_heatThen q_place q_isWrong q_toldLetter q_toldHeat q_toldStory q_toldWords q_toldStories) rfl dX4_undo_17 (fun H locs hG => ?_)
    refine lv_iconst (v := nI 0) hx hb dX4_undo_20 rfl ?_
    refine lv_istore_n (lv' := [(1, .int (nI 0)), (0, .ref (a 0))]) hx hb dX4_undo_21 rfl hl (by decide) rfl (fun ls hl => ?_)
    obtain ⟨k_22, ek_22, hf⟩ := jn_e hf
    have hk_22 : ∀ (q_s_8 : Ar) (H : Heap) (locs : List Loc) (ls : Array Slot), k_22 q_s_8 = some (ro, q_s_o, q_known_o) → GG D A s.heap (w_X4 y a q_s_8 q_aside q_before (q_known - (nI 1)) q_slots q_isSaved q_pad q_length q_letters q_heats q_reactions q_newSplits q_storiesThen q_heatThen q_place q_isWrong q_toldLetter q_toldHeat q_toldStory q_toldWords q_toldStories) H locs → lv_has ls 2 [(0, .ref (a 0))] → W p l e (RM 0 0) s m args below meth c H locs 0 0 Q (F0 m 56 ls []) := by
      intro q_s_8 H locs ls hf hG hl
      rw [ek_22] at hf
      refine lv_aload_n hx hb dX4_undo_56 rfl (lv_at hl 0 rfl) ?_
      refine w_get4 F hK hG k1 0 rfl 3 (by decide) k0 rfl dX4_undo_57 ?_
      have hf := so_e hf
      have e0 : (q_known - (nI 1)) = ro := congrArg (fun z => z.1) hf
      have e1 : q_s_8 = q_s_o := congrArg (fun z => z.2.1) hf
      have e2 : (q_known - (nI 1)) = q_known_o := congrArg (fun z => z.2.2) hf
      exact hret _ _ _ _ _ e0 (by rw [← e1, ← e2]; exact hG) dX4_undo_60
    have hL22 : ∀ (fu : Nat) (x2 : Int32) (q_s_3 : Ar) (H : Heap) (locs : List Loc) (ls : Array Slot), f_X4_undo_L22 Fu k_22 q_before q_known fu x2 q_s_3 = some (ro, q_s_o, q_known_o) → GG D A s.heap (w_X4 y a q_s_3 q_aside q_before (q_known - (nI 1)) q_slots q_isSaved q_pad q_length q_letters q_heats q_reactions q_newSplits q_storiesThen q_heatThen q_place q_isWrong q_toldLetter q_toldHeat q_toldStory q_toldWords q_toldStories) H locs → lv_has ls 2 [(0, .ref (a 0)), (1, .int x2)] → W p l e (RM 0 0) s m args below meth c H locs 0 0 Q (F0 m 22 ls []) := by
      intro fu
      induction fu with
      | zero => intro x2 q_s_3 H locs ls hf hG hl; exact no_e hf
      | succ fu ih =>
        intro x2 q_s_3 H locs ls hf hG hl
        rw [f_X4_undo_L22_s] at hf
        refine lv_iload_n hx hb dX4_undo_22 rfl (lv_at hl 1 rfl) ?_
        refine lv_sipush (v := nI 345) hx hb dX4_undo_23 rfl ?_
        refine lv_icmp_ge (tgt := 56) hx hb dX4_undo_26 (by decide) (fun c4 => ?_) (fun c4 => ?_)
        · have hf := it_e c4 hf
          exact hk_22 q_s_3 _ _ ls hf hG (lv_sub hl [0] rfl)
        · have hf := if_e c4 hf
          refine lv_aload_n hx hb dX4_undo_29 rfl (lv_at hl 0 rfl) ?_
          refine w_get4 F hK hG k1 0 rfl 0 (by decide) k2 rfl dX4_undo_30 ?_
          refine lv_iload_n hx hb dX4_undo_33 rfl (lv_at hl 1 rfl) ?_
          refine lv_aload_n hx hb dX4_undo_34 rfl (lv_at hl 0 rfl) ?_
          refine w_get4 F hK hG k1 0 rfl 2 (by decide) k3 rfl dX4_undo_35 ?_
          refine lv_sipush (v := nI 345) hx hb dX4_undo_38 rfl ?_
          refine lv_aload_n hx hb dX4_undo_41 rfl (lv_at hl 0 rfl) ?_
          refine w_get4 F hK hG k1 0 rfl 3 (by decide) k0 rfl dX4_undo_42 ?_
          refine lv_imul hx hb dX4_undo_45 ?_
          refine lv_iload_n hx hb dX4_undo_46 rfl (lv_at hl 1 rfl) ?_
          refine lv_iadd hx hb dX4_undo_47 ?_
          obtain ⟨g5, hf⟩ := gd_e hf
          refine w_iald F hK hG 3 rfl g5 dX4_undo_48 ?_
          obtain ⟨g6, hf⟩ := gd_e hf
          refine w_iast F hK hG 1 rfl g6 (w_X4 y a (upd q_s_3 (x2).toNatClampNeg (q_before (((nI 345) * (q_known - (nI 1))) + x2).toNatClampNeg)) q_aside q_before (q_known - (nI 1)) q_slots q_isSaved q_pad q_length q_letters q_heats q_reactions q_newSplits q_storiesThen q_heatThen q_place q_isWrong q_toldLetter q_toldHeat q_toldStory q_toldWords q_toldStories) rfl dX4_undo_49 (fun H locs hG => ?_)
          obtain ⟨q_s_7, eq_s_7, hf⟩ := nm_o hf
          rw [← eq_s_7] at hG
          refine lv_iinc (v := x2 + (nI 1)) (lv' := [(1, .int (x2 + (nI 1))), (0, .ref (a 0))]) hx hb dX4_undo_50 hl (k := 1) rfl rfl (by decide) rfl (fun ls hl => ?_)
          refine lv_goto (tgt := 22) hx hb dX4_undo_53 (by decide) ?_
          exact ih (x2 + (nI 1)) q_s_7 _ _ ls hf hG (lv_sub hl [1, 0] rfl)
    exact hL22 Fu (nI 0) q_s _ _ ls hf hG (lv_sub hl [1, 0] rfl)
  · have hf := it_e c1 hf
    refine lv_bipush (v := -5) hx hb dX4_undo_7 rfl ?_
    have hf := so_e hf
    have e0 : (-5) = ro := congrArg (fun z => z.1) hf
    have e1 : q_s = q_s_o := congrArg (fun z => z.2.1) hf
    have e2 : q_known = q_known_o := congrArg (fun z => z.2.2) hf
    exact hret _ _ _ _ _ e0 (by rw [← e1, ← e2]; exact hG) dX4_undo_9
set_option maxHeartbeats 1000000 in
set_option maxRecDepth 100000 in
theorem c_X4_save (l : Launch) (D : va_G) (y : Nat → ClassId) (a : Nat → Nat) (sz : Nat) (Fu : Nat) (q_s : Ar) (q_aside : Ar) (q_before : Ar) (q_known : Int32) (q_slots : Ar) (q_isSaved : Ar) (q_pad : Ar) (q_length : Int32) (q_letters : Ar) (q_heats : Ar) (q_reactions : Int32) (q_newSplits : Int32) (q_storiesThen : Int32) (q_heatThen : Int32) (q_place : Int32) (q_isWrong : Int32) (q_toldLetter : Ar) (q_toldHeat : Ar) (q_toldStory : Ar) (q_toldWords : Int32) (q_toldStories : Int32) (p1 : Int32) (ro : Int32) (q_slots_o : Ar) (q_isSaved_o : Ar) (hf : f_X4_save Fu q_s q_slots q_isSaved p1 = some (ro, q_slots_o, q_isSaved_o)) : MI l yX4_save wsX4_save 1 22 [.ref (a 0), .int p1] D y (w_X4 y a q_s q_aside q_before q_known q_slots q_isSaved q_pad q_length q_letters q_heats q_reactions q_newSplits q_storiesThen q_heatThen q_place q_isWrong q_toldLetter q_toldHeat q_toldStory q_toldWords q_toldStories) sz ro (w_X4 y a q_s q_aside q_before q_known q_slots_o q_isSaved_o q_pad q_length q_letters q_heats q_reactions q_newSplits q_storiesThen q_heatThen q_place q_isWrong q_toldLetter q_toldHeat q_toldStory q_toldWords q_toldStories) := by
  refine M_i (cc := cX4_save) (maxL := 3) (own := RX4) (by decide) rfl rfl (Nat.le_of_ble_eq_true rfl) ?_
  intro p e s m args below meth c A Q F hK hA H locs hG hret ls hl
  have hx := F.1
  have hb := F.2.1
  have hl : lv_has ls 3 [(0, .ref (a 0)), (1, .int p1)] := hl
  have k0 := F.2.2.2.2 (.fieldLink RX4 19 "HeatedStoriesModel" "slots" "[I") (List.mem_of_getElem? (i := 1) rfl)
  have k1 : ∀ w ∈ wsX40, w ∈ wsX4_save := (fun w h => List.mem_cons_of_mem _ (List.mem_append_right _ (h)))
  have k2 := F.2.2.2.2 (.fieldLink RX4 7 "HeatedStoriesModel" "s" "[I") (List.mem_of_getElem? (i := 2) rfl)
  have k3 := F.2.2.2.2 (.fieldLink RX4 22 "HeatedStoriesModel" "isSaved" "[Z") (List.mem_of_getElem? (i := 3) rfl)
  unfold f_X4_save at hf
  refine lv_iload_n hx hb dX4_save_0 rfl (lv_at hl 1 rfl) ?_
  refine lv_iconst (v := nI 0) hx hb dX4_save_1 rfl ?_
  refine lv_iconst (v := nI 1) hx hb dX4_save_2 rfl ?_
  obtain ⟨r1, h2, hf⟩ := bd1_e hf
  refine k_Si F hK hA hG (c_X4_in l D y  H.size Fu  p1 (nI 0) (nI 1) r1 h2) (va_cwS 3 F.2.2.2.2 gX4_save_X4_in rfl rfl rfl (by decide +kernel) ⟨Nat.le_of_ble_eq_true rfl, Nat.le_of_ble_eq_true rfl⟩) rfl rfl hl.1 (Nat.le_of_ble_eq_true rfl) dX4_save_3 ⟨Nat.le_refl 0, Nat.le_refl 0⟩ (fun H locs hG => ?_)
  refine lv_if_ne (tgt := 12) hx hb dX4_save_6 (by decide) (fun c3 => ?_) (fun c3 => ?_)
  · have hf := if_e c3 hf
    refine lv_iconst (v := nI 0) hx hb dX4_save_12 rfl ?_
    refine lv_istore_n (lv' := [(2, .int (nI 0)), (0, .ref (a 0)), (1, .int p1)]) hx hb dX4_save_13 rfl hl (by decide) rfl (fun ls hl => ?_)
    obtain ⟨k_14, ek_14, hf⟩ := jn_e hf
    have hk_14 : ∀ (q_slots_10 : Ar) (H : Heap) (locs : List Loc) (ls : Array Slot), k_14 q_slots_10 = some (ro, q_slots_o, q_isSaved_o) → GG D A s.heap (w_X4 y a q_s q_aside q_before q_known q_slots_10 q_isSaved q_pad q_length q_letters q_heats q_reactions q_newSplits q_storiesThen q_heatThen q_place q_isWrong q_toldLetter q_toldHeat q_toldStory q_toldWords q_toldStories) H locs → lv_has ls 3 [(0, .ref (a 0)), (1, .int p1)] → W p l e (RM 1 22) s m args below meth c H locs 0 0 Q (F0 m 45 ls []) := by
      intro q_slots_10 H locs ls hf hG hl
      rw [ek_14] at hf
      refine lv_aload_n hx hb dX4_save_45 rfl (lv_at hl 0 rfl) ?_
      refine w_get4 F hK hG k1 0 rfl 5 (by decide) k3 rfl dX4_save_46 ?_
      refine lv_iload_n hx hb dX4_save_49 rfl (lv_at hl 1 rfl) ?_
      refine lv_iconst (v := nI 1) hx hb dX4_save_50 rfl ?_
      obtain ⟨g11, hf⟩ := gd_e hf
      refine w_zast F hK hG 5 rfl rfl g11 (w_X4 y a q_s q_aside q_before q_known q_slots_10 (upd q_isSaved (p1).toNatClampNeg (nI 1)) q_pad q_length q_letters q_heats q_reactions q_newSplits q_storiesThen q_heatThen q_place q_isWrong q_toldLetter q_toldHeat q_toldStory q_toldWords q_toldStories) rfl dX4_save_51 (fun H locs hG => ?_)
      refine lv_aload_n hx hb dX4_save_52 rfl (lv_at hl 0 rfl) ?_
      refine w_get4 F hK hG k1 0 rfl 0 (by decide) k2 rfl dX4_save_53 ?_
      refine lv_iconst (v := nI 3) hx hb dX4_save_56 rfl ?_
      refine w_ialdk F hK hG 1 rfl (Nat.le_of_ble_eq_true rfl) (Nat.le_of_ble_eq_true rfl) dX4_save_57 ?_
      have hf := so_e hf
      have e0 : (q_s 3) = ro := congrArg (fun z => z.1) hf
      have e1 : q_slots_10 = q_slots_o := congrArg (fun z => z.2.1) hf
      have e2 : (upd q_isSaved (p1).toNatClampNeg (nI 1)) = q_isSaved_o := congrArg (fun z => z.2.2) hf
      exact hret _ _ _ _ _ e0 (by rw [← e1, ← e2]; exact hG) dX4_save_58
    have hL14 : ∀ (fu : Nat) (x4 : Int32) (q_slots_5 : Ar) (H : Heap) (locs : List Loc) (ls : Array Slot), f_X4_save_L14 Fu k_14 q_s p1 fu x4 q_slots_5 = some (ro, q_slots_o, q_isSaved_o) → GG D A s.heap (w_X4 y a q_s q_aside q_before q_known q_slots_5 q_isSaved q_pad q_length q_letters q_heats q_reactions q_newSplits q_storiesThen q_heatThen q_place q_isWrong q_toldLetter q_toldHeat q_toldStory q_toldWords q_toldStories) H locs → lv_has ls 3 [(0, .ref (a 0)), (1, .int p1), (2, .int x4)] → W p l e (RM 1 22) s m args below meth c H locs 0 0 Q (F0 m 14 ls []) := by
      intro fu
      induction fu with
      | zero => intro x4 q_slots_5 H locs ls hf hG hl; exact no_e hf
      | succ fu ih =>
        intro x4 q_slots_5 H locs ls hf hG hl
        rw [f_X4_save_L14_s] at hf
        refine lv_iload_n hx hb dX4_save_14 rfl (lv_at hl 2 rfl) ?_
        refine lv_sipush (v := nI 345) hx hb dX4_save_15 rfl ?_
        refine lv_icmp_ge (tgt := 45) hx hb dX4_save_18 (by decide) (fun c6 => ?_) (fun c6 => ?_)
        · have hf := it_e c6 hf
          exact hk_14 q_slots_5 _ _ ls hf hG (lv_sub hl [0, 1] rfl)
        · have hf := if_e c6 hf
          refine lv_aload_n hx hb dX4_save_21 rfl (lv_at hl 0 rfl) ?_
          refine w_get4 F hK hG k1 0 rfl 4 (by decide) k0 rfl dX4_save_22 ?_
          refine lv_sipush (v := nI 345) hx hb dX4_save_25 rfl ?_
          refine lv_iload_n hx hb dX4_save_28 rfl (lv_at hl 1 rfl) ?_
          refine lv_imul hx hb dX4_save_29 ?_
          refine lv_iload_n hx hb dX4_save_30 rfl (lv_at hl 2 rfl) ?_
          refine lv_iadd hx hb dX4_save_31 ?_
          refine lv_aload_n hx hb dX4_save_32 rfl (lv_at hl 0 rfl) ?_
          refine w_get4 F hK hG k1 0 rfl 0 (by decide) k2 rfl dX4_save_33 ?_
          refine lv_iload_n hx hb dX4_save_36 rfl (lv_at hl 2 rfl) ?_
          obtain ⟨g7, hf⟩ := gd_e hf
          refine w_iald F hK hG 1 rfl g7 dX4_save_37 ?_
          obtain ⟨g8, hf⟩ := gd_e hf
          refine w_iast F hK hG 4 rfl g8 (w_X4 y a q_s q_aside q_before q_known (upd q_slots_5 (((nI 345) * p1) + x4).toNatClampNeg (q_s (x4).toNatClampNeg)) q_isSaved q_pad q_length q_letters q_heats q_reactions q_newSplits q_storiesThen q_heatThen q_place q_isWrong q_toldLetter q_toldHeat q_toldStory q_toldWords q_toldStories) rfl dX4_save_38 (fun H locs hG => ?_)
          obtain ⟨q_slots_9, eq_slots_9, hf⟩ := nm_o hf
          rw [← eq_slots_9] at hG
          refine lv_iinc (v := x4 + (nI 1)) (lv' := [(2, .int (x4 + (nI 1))), (0, .ref (a 0)), (1, .int p1)]) hx hb dX4_save_39 hl (k := 2) rfl rfl (by decide) rfl (fun ls hl => ?_)
          refine lv_goto (tgt := 14) hx hb dX4_save_42 (by decide) ?_
          exact ih (x4 + (nI 1)) q_slots_9 _ _ ls hf hG (lv_sub hl [1, 2, 0] rfl)
    exact hL14 Fu (nI 0) q_slots _ _ ls hf hG (lv_sub hl [1, 2, 0] rfl)
  · have hf := it_e c3 hf
    refine lv_bipush (v := -2) hx hb dX4_save_9 rfl ?_
    have hf := so_e hf
    have e0 : (-2) = ro := congrArg (fun z => z.1) hf
    have e1 : q_slots = q_slots_o := congrArg (fun z => z.2.1) hf
    have e2 : q_isSaved = q_isSaved_o := congrArg (fun z => z.2.2) hf
    exact hret _ _ _ _ _ e0 (by rw [← e1, ← e2]; exact hG) dX4_save_11
set_option maxHeartbeats 1000000 in
set_option maxRecDepth 100000 in
theorem c_X4_restore (l : Launch) (D : va_G) (y : Nat → ClassId) (a : Nat → Nat) (sz : Nat) (Fu : Nat) (q_s : Ar) (q_aside : Ar) (q_before : Ar) (q_known : Int32) (q_slots : Ar) (q_isSaved : Ar) (q_pad : Ar) (q_length : Int32) (q_letters : Ar) (q_heats : Ar) (q_reactions : Int32) (q_newSplits : Int32) (q_storiesThen : Int32) (q_heatThen : Int32) (q_place : Int32) (q_isWrong : Int32) (q_toldLetter : Ar) (q_toldHeat : Ar) (q_toldStory : Ar) (q_toldWords : Int32) (q_toldStories : Int32) (p1 : Int32) (ro : Int32) (q_s_o : Ar) (q_before_o : Ar) (q_known_o : Int32) (hf : f_X4_restore Fu q_s q_before q_known q_slots q_isSaved p1 = some (ro, q_s_o, q_before_o, q_known_o)) : MI l yX4_restore wsX4_restore 1 22 [.ref (a 0), .int p1] D y (w_X4 y a q_s q_aside q_before q_known q_slots q_isSaved q_pad q_length q_letters q_heats q_reactions q_newSplits q_storiesThen q_heatThen q_place q_isWrong q_toldLetter q_toldHeat q_toldStory q_toldWords q_toldStories) sz ro (w_X4 y a q_s_o q_aside q_before_o q_known_o q_slots q_isSaved q_pad q_length q_letters q_heats q_reactions q_newSplits q_storiesThen q_heatThen q_place q_isWrong q_toldLetter q_toldHeat q_toldStory q_toldWords q_toldStories) := by
  refine M_i (cc := cX4_restore) (maxL := 3) (own := RX4) (by decide) rfl rfl (Nat.le_of_ble_eq_true rfl) ?_
  intro p e s m args below meth c A Q F hK hA H locs hG hret ls hl
  have hx := F.1
  have hb := F.2.1
  have hl : lv_has ls 3 [(0, .ref (a 0)), (1, .int p1)] := hl
  have k0 := F.2.2.2.2 (.fieldLink RX4 22 "HeatedStoriesModel" "isSaved" "[Z") (List.mem_of_getElem? (i := 1) rfl)
  have k1 : ∀ w ∈ wsX40, w ∈ wsX4_restore := (fun w h => List.mem_cons_of_mem _ (List.mem_append_right _ (h)))
  have k2 := F.2.2.2.2 (.fieldLink RX4 7 "HeatedStoriesModel" "s" "[I") (List.mem_of_getElem? (i := 2) rfl)
  have k3 := F.2.2.2.2 (.fieldLink RX4 19 "HeatedStoriesModel" "slots" "[I") (List.mem_of_getElem? (i := 3) rfl)
  unfold f_X4_restore at hf
  refine lv_iload_n hx hb dX4_restore_0 rfl (lv_at hl 1 rfl) ?_
  refine lv_iconst (v := nI 0) hx hb dX4_restore_1 rfl ?_
  refine lv_iconst (v := nI 1) hx hb dX4_restore_2 rfl ?_
  obtain ⟨r1, h2, hf⟩ := bd1_e hf
  refine k_Si F hK hA hG (c_X4_in l D y  H.size Fu  p1 (nI 0) (nI 1) r1 h2) (va_cwS 3 F.2.2.2.2 gX4_restore_X4_in rfl rfl rfl (by decide +kernel) ⟨Nat.le_of_ble_eq_true rfl, Nat.le_of_ble_eq_true rfl⟩) rfl rfl hl.1 (Nat.le_of_ble_eq_true rfl) dX4_restore_3 ⟨Nat.le_refl 0, Nat.le_refl 0⟩ (fun H locs hG => ?_)
  refine lv_if_ne (tgt := 12) hx hb dX4_restore_6 (by decide) (fun c3 => ?_) (fun c3 => ?_)
  · have hf := if_e c3 hf
    refine lv_aload_n hx hb dX4_restore_12 rfl (lv_at hl 0 rfl) ?_
    refine w_get4 F hK hG k1 0 rfl 5 (by decide) k0 rfl dX4_restore_13 ?_
    refine lv_iload_n hx hb dX4_restore_16 rfl (lv_at hl 1 rfl) ?_
    obtain ⟨g4, hf⟩ := gd_e hf
    refine w_zald F hK hG 5 rfl g4 dX4_restore_17 ?_
    refine lv_if_ne (tgt := 24) hx hb dX4_restore_18 (by decide) (fun c5 => ?_) (fun c5 => ?_)
    · have hf := if_e c5 hf
      refine lv_aload_n hx hb dX4_restore_24 rfl (lv_at hl 0 rfl) ?_
      obtain ⟨q_before_6, q_known_7, h8, hf⟩ := bd2_e hf
      refine k_Wv F hK hA hG (c_X4_know l D y a H.size Fu q_s q_aside q_before q_known q_slots q_isSaved q_pad q_length q_letters q_heats q_reactions q_newSplits q_storiesThen q_heatThen q_place q_isWrong q_toldLetter q_toldHeat q_toldStory q_toldWords q_toldStories q_before_6 q_known_7 h8) (cwV 0 F.2.2.2.2 gX4_restore_X4_know rfl rfl rfl (by decide +kernel) ⟨Nat.le_of_ble_eq_true rfl, Nat.le_of_ble_eq_true rfl⟩) 0 rfl rfl rfl rfl rfl hl.1 (Nat.le_of_ble_eq_true rfl) dX4_restore_25 ⟨Nat.le_refl 0, Nat.le_refl 0⟩ (fun H locs hG => ?_)
      refine lv_iconst (v := nI 0) hx hb dX4_restore_28 rfl ?_
      refine lv_istore_n (lv' := [(2, .int (nI 0)), (0, .ref (a 0)), (1, .int p1)]) hx hb dX4_restore_29 rfl hl (by decide) rfl (fun ls hl => ?_)
      obtain ⟨k_30, ek_30, hf⟩ := jn_e hf
      have hk_30 : ∀ (q_s_15 : Ar) (H : Heap) (locs : List Loc) (ls : Array Slot), k_30 q_s_15 = some (ro, q_s_o, q_before_o, q_known_o) → GG D A s.heap (w_X4 y a q_s_15 q_aside q_before_6 q_known_7 q_slots q_isSaved q_pad q_length q_letters q_heats q_reactions q_newSplits q_storiesThen q_heatThen q_place q_isWrong q_toldLetter q_toldHeat q_toldStory q_toldWords q_toldStories) H locs → lv_has ls 3 [(0, .ref (a 0))] → W p l e (RM 1 22) s m args below meth c H locs 0 0 Q (F0 m 61 ls []) := by
        intro q_s_15 H locs ls hf hG hl
        rw [ek_30] at hf
        refine lv_aload_n hx hb dX4_restore_61 rfl (lv_at hl 0 rfl) ?_
        refine w_get4 F hK hG k1 0 rfl 0 (by decide) k2 rfl dX4_restore_62 ?_
        refine lv_iconst (v := nI 3) hx hb dX4_restore_65 rfl ?_
        refine w_ialdk F hK hG 1 rfl (Nat.le_of_ble_eq_true rfl) (Nat.le_of_ble_eq_true rfl) dX4_restore_66 ?_
        have hf := so_e hf
        have e0 : (q_s_15 3) = ro := congrArg (fun z => z.1) hf
        have e1 : q_s_15 = q_s_o := congrArg (fun z => z.2.1) hf
        have e2 : q_before_6 = q_before_o := congrArg (fun z => z.2.2.1) hf
        have e3 : q_known_7 = q_known_o := congrArg (fun z => z.2.2.2) hf
        exact hret _ _ _ _ _ e0 (by rw [← e1, ← e2, ← e3]; exact hG) dX4_restore_67
      have hL30 : ∀ (fu : Nat) (x9 : Int32) (q_s_10 : Ar) (H : Heap) (locs : List Loc) (ls : Array Slot), f_X4_restore_L30 Fu k_30 q_slots p1 fu x9 q_s_10 = some (ro, q_s_o, q_before_o, q_known_o) → GG D A s.heap (w_X4 y a q_s_10 q_aside q_before_6 q_known_7 q_slots q_isSaved q_pad q_length q_letters q_heats q_reactions q_newSplits q_storiesThen q_heatThen q_place q_isWrong q_toldLetter q_toldHeat q_toldStory q_toldWords q_toldStories) H locs → lv_has ls 3 [(0, .ref (a 0)), (1, .int p1), (2, .int x9)] → W p l e (RM 1 22) s m args below meth c H locs 0 0 Q (F0 m 30 ls []) := by
        intro fu
        induction fu with
        | zero => intro x9 q_s_10 H locs ls hf hG hl; exact no_e hf
        | succ fu ih =>
          intro x9 q_s_10 H locs ls hf hG hl
          rw [f_X4_restore_L30_s] at hf
          refine lv_iload_n hx hb dX4_restore_30 rfl (lv_at hl 2 rfl) ?_
          refine lv_sipush (v := nI 345) hx hb dX4_restore_31 rfl ?_
          refine lv_icmp_ge (tgt := 61) hx hb dX4_restore_34 (by decide) (fun c11 => ?_) (fun c11 => ?_)
          · have hf := it_e c11 hf
            exact hk_30 q_s_10 _ _ ls hf hG (lv_sub hl [0] rfl)
          · have hf := if_e c11 hf
            refine lv_aload_n hx hb dX4_restore_37 rfl (lv_at hl 0 rfl) ?_
            refine w_get4 F hK hG k1 0 rfl 0 (by decide) k2 rfl dX4_restore_38 ?_
            refine lv_iload_n hx hb dX4_restore_41 rfl (lv_at hl 2 rfl) ?_
            refine lv_aload_n hx hb dX4_restore_42 rfl (lv_at hl 0 rfl) ?_
            refine w_get4 F hK hG k1 0 rfl 4 (by decide) k3 rfl dX4_restore_43 ?_
            refine lv_sipush (v := nI 345) hx hb dX4_restore_46 rfl ?_
            refine lv_iload_n hx hb dX4_restore_49 rfl (lv_at hl 1 rfl) ?_
            refine lv_imul hx hb dX4_restore_50 ?_
            refine lv_iload_n hx hb dX4_restore_51 rfl (lv_at hl 2 rfl) ?_
            refine lv_iadd hx hb dX4_restore_52 ?_
            obtain ⟨g12, hf⟩ := gd_e hf
            refine w_iald F hK hG 4 rfl g12 dX4_restore_53 ?_
            obtain ⟨g13, hf⟩ := gd_e hf
            refine w_iast F hK hG 1 rfl g13 (w_X4 y a (upd q_s_10 (x9).toNatClampNeg (q_slots (((nI 345) * p1) + x9).toNatClampNeg)) q_aside q_before_6 q_known_7 q_slots q_isSaved q_pad q_length q_letters q_heats q_reactions q_newSplits q_storiesThen q_heatThen q_place q_isWrong q_toldLetter q_toldHeat q_toldStory q_toldWords q_toldStories) rfl dX4_restore_54 (fun H locs hG => ?_)
            obtain ⟨q_s_14, eq_s_14, hf⟩ := nm_o hf
            rw [← eq_s_14] at hG
            refine lv_iinc (v := x9 + (nI 1)) (lv' := [(2, .int (x9 + (nI 1))), (0, .ref (a 0)), (1, .int p1)]) hx hb dX4_restore_55 hl (k := 2) rfl rfl (by decide) rfl (fun ls hl => ?_)
            refine lv_goto (tgt := 30) hx hb dX4_restore_58 (by decide) ?_
            exact ih (x9 + (nI 1)) q_s_14 _ _ ls hf hG (lv_sub hl [1, 2, 0] rfl)
      exact hL30 Fu (nI 0) q_s _ _ ls hf hG (lv_sub hl [1, 2, 0] rfl)
    · have hf := it_e c5 hf
      refine lv_bipush (v := -5) hx hb dX4_restore_21 rfl ?_
      have hf := so_e hf
      have e0 : (-5) = ro := congrArg (fun z => z.1) hf
      have e1 : q_s = q_s_o := congrArg (fun z => z.2.1) hf
      have e2 : q_before = q_before_o := congrArg (fun z => z.2.2.1) hf
      have e3 : q_known = q_known_o := congrArg (fun z => z.2.2.2) hf
      exact hret _ _ _ _ _ e0 (by rw [← e1, ← e2, ← e3]; exact hG) dX4_restore_23
  · have hf := it_e c3 hf
    refine lv_bipush (v := -2) hx hb dX4_restore_9 rfl ?_
    have hf := so_e hf
    have e0 : (-2) = ro := congrArg (fun z => z.1) hf
    have e1 : q_s = q_s_o := congrArg (fun z => z.2.1) hf
    have e2 : q_before = q_before_o := congrArg (fun z => z.2.2.1) hf
    have e3 : q_known = q_known_o := congrArg (fun z => z.2.2.2) hf
    exact hret _ _ _ _ _ e0 (by rw [← e1, ← e2, ← e3]; exact hG) dX4_restore_11
