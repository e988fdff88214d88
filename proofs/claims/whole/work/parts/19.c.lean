set_option maxHeartbeats 1000000 in
set_option maxRecDepth 100000 in
theorem c_X4_reactOne (l : Launch) (D : va_G) (y : Nat → ClassId) (a : Nat → Nat) (sz : Nat) (Fu : Nat) (q_s : Ar) (q_aside : Ar) (q_before : Ar) (q_known : Int32) (q_slots : Ar) (q_isSaved : Ar) (q_pad : Ar) (q_length : Int32) (q_letters : Ar) (q_heats : Ar) (q_reactions : Int32) (q_newSplits : Int32) (q_storiesThen : Int32) (q_heatThen : Int32) (q_place : Int32) (q_isWrong : Int32) (q_toldLetter : Ar) (q_toldHeat : Ar) (q_toldStory : Ar) (q_toldWords : Int32) (q_toldStories : Int32) (p1 : Int32) (q_s_o : Ar) (hf : f_X4_reactOne Fu q_s p1 = some (q_s_o)) : MV l yX4_reactOne wsX4_reactOne 1 23 [.ref (a 0), .int p1] D y (w_X4 y a q_s q_aside q_before q_known q_slots q_isSaved q_pad q_length q_letters q_heats q_reactions q_newSplits q_storiesThen q_heatThen q_place q_isWrong q_toldLetter q_toldHeat q_toldStory q_toldWords q_toldStories) sz (w_X4 y a q_s_o q_aside q_before q_known q_slots q_isSaved q_pad q_length q_letters q_heats q_reactions q_newSplits q_storiesThen q_heatThen q_place q_isWrong q_toldLetter q_toldHeat q_toldStory q_toldWords q_toldStories) := by
  refine M_v (cc := cX4_reactOne) (maxL := 5) (own := RX4) (by decide) rfl rfl (Nat.le_of_ble_eq_true rfl) ?_
  intro p e s m args below meth c A Q F hK hA H locs hG hret ls hl
  have hx := F.1
  have hb := F.2.1
  have hl : lv_has ls 5 [(0, .ref (a 0)), (1, .int p1)] := hl
  have k0 := F.2.2.2.2 (.fieldLink RX4 7 "HeatedStoriesModel" "s" "[I") (List.mem_of_getElem? (i := 1) rfl)
  have k1 : ∀ w ∈ wsX40, w ∈ wsX4_reactOne := (fun w h => List.mem_cons_of_mem _ (List.mem_append_right _ (h)))
  unfold f_X4_reactOne at hf
  refine lv_aload_n hx hb dX4_reactOne_0 rfl (lv_at hl 0 rfl) ?_
  refine lv_iload_n hx hb dX4_reactOne_1 rfl (lv_at hl 1 rfl) ?_
  obtain ⟨r1, h2, hf⟩ := bd1_e hf
  refine k_Wi F hK hA hG (c_X4_storyOf l D y a H.size Fu q_s q_aside q_before q_known q_slots q_isSaved q_pad q_length q_letters q_heats q_reactions q_newSplits q_storiesThen q_heatThen q_place q_isWrong q_toldLetter q_toldHeat q_toldStory q_toldWords q_toldStories p1 r1 h2) (cwV 1 F.2.2.2.2 gX4_reactOne_X4_storyOf rfl rfl rfl (by decide +kernel) ⟨Nat.le_of_ble_eq_true rfl, Nat.le_of_ble_eq_true rfl⟩) 0 rfl rfl rfl rfl rfl hl.1 (Nat.le_of_ble_eq_true rfl) dX4_reactOne_2 ⟨Nat.le_refl 0, Nat.le_refl 0⟩ (fun H locs hG => ?_)
  refine lv_istore_n (lv' := [(2, .int r1), (0, .ref (a 0)), (1, .int p1)]) hx hb dX4_reactOne_5 rfl hl (by decide) rfl (fun ls hl => ?_)
  refine lv_iload_n hx hb dX4_reactOne_6 rfl (lv_at hl 2 rfl) ?_
  refine lv_aload_n hx hb dX4_reactOne_7 rfl (lv_at hl 1 rfl) ?_
  refine lv_iload_n hx hb dX4_reactOne_8 rfl (lv_at hl 0 rfl) ?_
  obtain ⟨r3, h4, hf⟩ := bd1_e hf
  refine k_Wi F hK hA hG (c_X4_first l D y a H.size Fu q_s q_aside q_before q_known q_slots q_isSaved q_pad q_length q_letters q_heats q_reactions q_newSplits q_storiesThen q_heatThen q_place q_isWrong q_toldLetter q_toldHeat q_toldStory q_toldWords q_toldStories r1 r3 h4) (cwV 1 F.2.2.2.2 gX4_reactOne_X4_first rfl rfl rfl (by decide +kernel) ⟨Nat.le_of_ble_eq_true rfl, Nat.le_of_ble_eq_true rfl⟩) 0 rfl rfl rfl rfl rfl hl.1 (Nat.le_of_ble_eq_true rfl) dX4_reactOne_9 ⟨Nat.le_refl 0, Nat.le_refl 0⟩ (fun H locs hG => ?_)
  refine lv_isub hx hb dX4_reactOne_12 ?_
  refine lv_istore_n (lv' := [(3, .int (p1 - r3)), (2, .int r1), (0, .ref (a 0)), (1, .int p1)]) hx hb dX4_reactOne_13 rfl hl (by decide) rfl (fun ls hl => ?_)
  refine lv_iload_n hx hb dX4_reactOne_14 rfl (lv_at hl 0 rfl) ?_
  refine lv_aload_n hx hb dX4_reactOne_15 rfl (lv_at hl 2 rfl) ?_
  refine w_get4 F hK hG k1 0 rfl 0 (by decide) k0 rfl dX4_reactOne_16 ?_
  refine lv_bipush (v := nI 9) hx hb dX4_reactOne_19 rfl ?_
  refine lv_iload_n hx hb dX4_reactOne_21 rfl (lv_at hl 1 rfl) ?_
  refine lv_iadd hx hb dX4_reactOne_22 ?_
  obtain ⟨g5, hf⟩ := gd_e hf
  refine w_iald F hK hG 1 rfl g5 dX4_reactOne_23 ?_
  refine lv_iconst (v := nI 1) hx hb dX4_reactOne_24 rfl ?_
  refine lv_isub hx hb dX4_reactOne_25 ?_
  obtain ⟨v7, ev7, hf⟩ := nm_o hf
  have hJ : ∀ (ls : Array Slot), lv_has ls 5 [(0, .ref (a 0)), (1, .int p1), (2, .int r1), (3, .int (p1 - r3))] → W p l e (RM 1 23) s m args below meth c H locs 0 0 Q (F0 m 34 ls [.int v7]) := by
    intro ls hl
    refine lv_istore (lv' := [(4, .int v7), (0, .ref (a 0)), (1, .int p1), (2, .int r1), (3, .int (p1 - r3))]) hx hb dX4_reactOne_34 hl (by decide) rfl (fun ls hl => ?_)
    refine lv_aload_n hx hb dX4_reactOne_36 rfl (lv_at hl 1 rfl) ?_
    refine w_get4 F hK hG k1 0 rfl 0 (by decide) k0 rfl dX4_reactOne_37 ?_
    refine lv_sipush (v := nI 195) hx hb dX4_reactOne_40 rfl ?_
    refine lv_iload_n hx hb dX4_reactOne_43 rfl (lv_at hl 2 rfl) ?_
    refine lv_iadd hx hb dX4_reactOne_44 ?_
    refine lv_iconst (v := nI 0) hx hb dX4_reactOne_45 rfl ?_
    obtain ⟨g8, hf⟩ := gd_e hf
    refine w_iast F hK hG 1 rfl g8 (w_X4 y a (upd q_s ((nI 195) + p1).toNatClampNeg (nI 0)) q_aside q_before q_known q_slots q_isSaved q_pad q_length q_letters q_heats q_reactions q_newSplits q_storiesThen q_heatThen q_place q_isWrong q_toldLetter q_toldHeat q_toldStory q_toldWords q_toldStories) rfl dX4_reactOne_46 (fun H locs hG => ?_)
    refine lv_iload_n hx hb dX4_reactOne_47 rfl (lv_at hl 4 rfl) ?_
    obtain ⟨j17, ej17, hf⟩ := jn_e hf
    have hj17 : ∀ (q_s_16 : Ar) (H : Heap) (locs : List Loc) (ls : Array Slot), j17 q_s_16 = some (q_s_o) → GG D A s.heap (w_X4 y a q_s_16 q_aside q_before q_known q_slots q_isSaved q_pad q_length q_letters q_heats q_reactions q_newSplits q_storiesThen q_heatThen q_place q_isWrong q_toldLetter q_toldHeat q_toldStory q_toldWords q_toldStories) H locs → lv_has ls 5 [(0, .ref (a 0)), (1, .int p1), (3, .int (p1 - r3)), (4, .int v7)] → W p l e (RM 1 23) s m args below meth c H locs 0 0 Q (F0 m 107 ls []) := by
      intro q_s_16 H locs ls hf hG hl
      rw [ej17] at hf
      refine lv_iload_n hx hb dX4_reactOne_107 rfl (lv_at hl 2 rfl) ?_
      obtain ⟨j22, ej22, hf⟩ := jn_e hf
      have hj22 : ∀ (q_s_21 : Ar) (H : Heap) (locs : List Loc) (ls : Array Slot), j22 q_s_21 = some (q_s_o) → GG D A s.heap (w_X4 y a q_s_21 q_aside q_before q_known q_slots q_isSaved q_pad q_length q_letters q_heats q_reactions q_newSplits q_storiesThen q_heatThen q_place q_isWrong q_toldLetter q_toldHeat q_toldStory q_toldWords q_toldStories) H locs → lv_has ls 5 [(0, .ref (a 0)), (1, .int p1), (4, .int v7)] → W p l e (RM 1 23) s m args below meth c H locs 0 0 Q (F0 m 124 ls []) := by
        intro q_s_21 H locs ls hf hG hl
        rw [ej22] at hf
        refine lv_iload hx hb dX4_reactOne_124 (lv_at hl 2 rfl) ?_
        obtain ⟨j27, ej27, hf⟩ := jn_e hf
        have hj27 : ∀ (q_s_26 : Ar) (H : Heap) (locs : List Loc) (ls : Array Slot), j27 q_s_26 = some (q_s_o) → GG D A s.heap (w_X4 y a q_s_26 q_aside q_before q_known q_slots q_isSaved q_pad q_length q_letters q_heats q_reactions q_newSplits q_storiesThen q_heatThen q_place q_isWrong q_toldLetter q_toldHeat q_toldStory q_toldWords q_toldStories) H locs → lv_has ls 5 [] → W p l e (RM 1 23) s m args below meth c H locs 0 0 Q (F0 m 142 ls []) := by
          intro q_s_26 H locs ls hf hG hl
          rw [ej27] at hf
          have hf := so_e hf
          have e0 : q_s_26 = q_s_o := hf
          exact hret _ _ _ _ (by rw [← e0]; exact hG) dX4_reactOne_142
        refine lv_if_ne (tgt := 142) hx hb dX4_reactOne_126 (by decide) (fun c23 => ?_) (fun c23 => ?_)
        · have hf := if_e c23 hf
          exact hj27 q_s_21 _ _ ls hf hG (lv_sub hl [] rfl)
        · have hf := it_e c23 hf
          refine lv_aload_n hx hb dX4_reactOne_129 rfl (lv_at hl 0 rfl) ?_
          refine lv_iload_n hx hb dX4_reactOne_130 rfl (lv_at hl 1 rfl) ?_
          refine lv_iconst (v := nI 1) hx hb dX4_reactOne_131 rfl ?_
          refine lv_iadd hx hb dX4_reactOne_132 ?_
          refine lv_aload_n hx hb dX4_reactOne_133 rfl (lv_at hl 0 rfl) ?_
          refine w_get4 F hK hG k1 0 rfl 0 (by decide) k0 rfl dX4_reactOne_134 ?_
          refine lv_iconst (v := nI 1) hx hb dX4_reactOne_137 rfl ?_
          refine w_ialdk F hK hG 1 rfl (Nat.le_of_ble_eq_true rfl) (Nat.le_of_ble_eq_true rfl) dX4_reactOne_138 ?_
          obtain ⟨q_s_24, h25, hf⟩ := bd1_e hf
          refine k_Wv F hK hA hG (c_X4_warm l D y a H.size Fu q_s_21 q_aside q_before q_known q_slots q_isSaved q_pad q_length q_letters q_heats q_reactions q_newSplits q_storiesThen q_heatThen q_place q_isWrong q_toldLetter q_toldHeat q_toldStory q_toldWords q_toldStories (p1 + (nI 1)) (q_s_21 1) q_s_24 h25) (cwV 2 F.2.2.2.2 gX4_reactOne_X4_warm rfl rfl rfl (by decide +kernel) ⟨Nat.le_of_ble_eq_true rfl, Nat.le_of_ble_eq_true rfl⟩) 0 rfl rfl rfl rfl rfl hl.1 (Nat.le_of_ble_eq_true rfl) dX4_reactOne_139 ⟨Nat.le_refl 0, Nat.le_refl 0⟩ (fun H locs hG => ?_)
          exact hj27 q_s_24 _ _ ls hf hG (lv_sub hl [] rfl)
      refine lv_if_le (tgt := 124) hx hb dX4_reactOne_108 (by decide) (fun c18 => ?_) (fun c18 => ?_)
      · have hf := it_e c18 hf
        exact hj22 q_s_16 _ _ ls hf hG (lv_sub hl [0, 1, 3] rfl)
      · have hf := if_e c18 hf
        refine lv_aload_n hx hb dX4_reactOne_111 rfl (lv_at hl 0 rfl) ?_
        refine lv_iload_n hx hb dX4_reactOne_112 rfl (lv_at hl 1 rfl) ?_
        refine lv_iconst (v := nI 1) hx hb dX4_reactOne_113 rfl ?_
        refine lv_isub hx hb dX4_reactOne_114 ?_
        refine lv_aload_n hx hb dX4_reactOne_115 rfl (lv_at hl 0 rfl) ?_
        refine w_get4 F hK hG k1 0 rfl 0 (by decide) k0 rfl dX4_reactOne_116 ?_
        refine lv_iconst (v := nI 1) hx hb dX4_reactOne_119 rfl ?_
        refine w_ialdk F hK hG 1 rfl (Nat.le_of_ble_eq_true rfl) (Nat.le_of_ble_eq_true rfl) dX4_reactOne_120 ?_
        obtain ⟨q_s_19, h20, hf⟩ := bd1_e hf
        refine k_Wv F hK hA hG (c_X4_warm l D y a H.size Fu q_s_16 q_aside q_before q_known q_slots q_isSaved q_pad q_length q_letters q_heats q_reactions q_newSplits q_storiesThen q_heatThen q_place q_isWrong q_toldLetter q_toldHeat q_toldStory q_toldWords q_toldStories (p1 - (nI 1)) (q_s_16 1) q_s_19 h20) (cwV 2 F.2.2.2.2 gX4_reactOne_X4_warm rfl rfl rfl (by decide +kernel) ⟨Nat.le_of_ble_eq_true rfl, Nat.le_of_ble_eq_true rfl⟩) 0 rfl rfl rfl rfl rfl hl.1 (Nat.le_of_ble_eq_true rfl) dX4_reactOne_121 ⟨Nat.le_refl 0, Nat.le_refl 0⟩ (fun H locs hG => ?_)
        exact hj22 q_s_19 _ _ ls hf hG (lv_sub hl [0, 1, 3] rfl)
    refine lv_if_ne (tgt := 65) hx hb dX4_reactOne_48 (by decide) (fun c9 => ?_) (fun c9 => ?_)
    · have hf := if_e c9 hf
      refine lv_aload_n hx hb dX4_reactOne_65 rfl (lv_at hl 1 rfl) ?_
      refine w_get4 F hK hG k1 0 rfl 0 (by decide) k0 rfl dX4_reactOne_66 ?_
      refine lv_iconst (v := nI 3) hx hb dX4_reactOne_69 rfl ?_
      refine w_ialdk F hK hG 1 rfl (Nat.le_of_ble_eq_true rfl) (Nat.le_of_ble_eq_true rfl) dX4_reactOne_70 ?_
      refine lv_bipush (v := nI 12) hx hb dX4_reactOne_71 rfl ?_
      refine lv_icmp_ge (tgt := 96) hx hb dX4_reactOne_73 (by decide) (fun c10 => ?_) (fun c10 => ?_)
      · have hf := it_e c10 hf
        refine lv_aload_n hx hb dX4_reactOne_96 rfl (lv_at hl 1 rfl) ?_
        refine w_get4 F hK hG k1 0 rfl 0 (by decide) k0 rfl dX4_reactOne_97 ?_
        refine lv_bipush (v := nI 8) hx hb dX4_reactOne_100 rfl ?_
        refine lv_dup2_11 hx hb dX4_reactOne_102 rfl rfl ?_
        refine w_ialdk F hK hG 1 rfl (Nat.le_of_ble_eq_true rfl) (Nat.le_of_ble_eq_true rfl) dX4_reactOne_103 ?_
        refine lv_iconst (v := nI 1) hx hb dX4_reactOne_104 rfl ?_
        refine lv_iadd hx hb dX4_reactOne_105 ?_
        refine w_iastk F hK hG 1 rfl (Nat.le_of_ble_eq_true rfl) (Nat.le_of_ble_eq_true rfl) (w_X4 y a (upd (upd q_s ((nI 195) + p1).toNatClampNeg (nI 0)) 8 (((upd q_s ((nI 195) + p1).toNatClampNeg (nI 0)) 8) + (nI 1))) q_aside q_before q_known q_slots q_isSaved q_pad q_length q_letters q_heats q_reactions q_newSplits q_storiesThen q_heatThen q_place q_isWrong q_toldLetter q_toldHeat q_toldStory q_toldWords q_toldStories) rfl dX4_reactOne_106 (fun H locs hG => ?_)
        obtain ⟨q_s_11, eq_s_11, hf⟩ := nm_o hf
        rw [← eq_s_11] at hG
        exact hj17 q_s_11 _ _ ls hf hG (lv_sub hl [1, 2, 4, 0] rfl)
      · have hf := if_e c10 hf
        refine lv_aload_n hx hb dX4_reactOne_76 rfl (lv_at hl 1 rfl) ?_
        refine w_get4 F hK hG k1 0 rfl 0 (by decide) k0 rfl dX4_reactOne_77 ?_
        refine lv_bipush (v := nI 6) hx hb dX4_reactOne_80 rfl ?_
        refine lv_dup2_11 hx hb dX4_reactOne_82 rfl rfl ?_
        refine w_ialdk F hK hG 1 rfl (Nat.le_of_ble_eq_true rfl) (Nat.le_of_ble_eq_true rfl) dX4_reactOne_83 ?_
        refine lv_iconst (v := nI 1) hx hb dX4_reactOne_84 rfl ?_
        refine lv_iadd hx hb dX4_reactOne_85 ?_
        refine w_iastk F hK hG 1 rfl (Nat.le_of_ble_eq_true rfl) (Nat.le_of_ble_eq_true rfl) (w_X4 y a (upd (upd q_s ((nI 195) + p1).toNatClampNeg (nI 0)) 6 (((upd q_s ((nI 195) + p1).toNatClampNeg (nI 0)) 6) + (nI 1))) q_aside q_before q_known q_slots q_isSaved q_pad q_length q_letters q_heats q_reactions q_newSplits q_storiesThen q_heatThen q_place q_isWrong q_toldLetter q_toldHeat q_toldStory q_toldWords q_toldStories) rfl dX4_reactOne_86 (fun H locs hG => ?_)
        obtain ⟨q_s_12, eq_s_12, hf⟩ := nm_o hf
        rw [← eq_s_12] at hG
        refine lv_aload_n hx hb dX4_reactOne_87 rfl (lv_at hl 1 rfl) ?_
        refine lv_iload_n hx hb dX4_reactOne_88 rfl (lv_at hl 3 rfl) ?_
        refine lv_iload_n hx hb dX4_reactOne_89 rfl (lv_at hl 4 rfl) ?_
        obtain ⟨q_s_13, h14, hf⟩ := bd1_e hf
        refine k_Wv F hK hA hG (c_X4_split l D y a H.size Fu q_s_12 q_aside q_before q_known q_slots q_isSaved q_pad q_length q_letters q_heats q_reactions q_newSplits q_storiesThen q_heatThen q_place q_isWrong q_toldLetter q_toldHeat q_toldStory q_toldWords q_toldStories r1 (p1 - r3) q_s_13 h14) (cwV 2 F.2.2.2.2 gX4_reactOne_X4_split rfl rfl rfl (by decide +kernel) ⟨Nat.le_of_ble_eq_true rfl, Nat.le_of_ble_eq_true rfl⟩) 0 rfl rfl rfl rfl rfl hl.1 (Nat.le_of_ble_eq_true rfl) dX4_reactOne_90 ⟨Nat.le_refl 0, Nat.le_refl 0⟩ (fun H locs hG => ?_)
        refine lv_goto (tgt := 107) hx hb dX4_reactOne_93 (by decide) ?_
        exact hj17 q_s_13 _ _ ls hf hG (lv_sub hl [1, 2, 4, 0] rfl)
    · have hf := it_e c9 hf
      refine lv_aload_n hx hb dX4_reactOne_51 rfl (lv_at hl 1 rfl) ?_
      refine w_get4 F hK hG k1 0 rfl 0 (by decide) k0 rfl dX4_reactOne_52 ?_
      refine lv_bipush (v := nI 7) hx hb dX4_reactOne_55 rfl ?_
      refine lv_dup2_11 hx hb dX4_reactOne_57 rfl rfl ?_
      refine w_ialdk F hK hG 1 rfl (Nat.le_of_ble_eq_true rfl) (Nat.le_of_ble_eq_true rfl) dX4_reactOne_58 ?_
      refine lv_iconst (v := nI 1) hx hb dX4_reactOne_59 rfl ?_
      refine lv_iadd hx hb dX4_reactOne_60 ?_
      refine w_iastk F hK hG 1 rfl (Nat.le_of_ble_eq_true rfl) (Nat.le_of_ble_eq_true rfl) (w_X4 y a (upd (upd q_s ((nI 195) + p1).toNatClampNeg (nI 0)) 7 (((upd q_s ((nI 195) + p1).toNatClampNeg (nI 0)) 7) + (nI 1))) q_aside q_before q_known q_slots q_isSaved q_pad q_length q_letters q_heats q_reactions q_newSplits q_storiesThen q_heatThen q_place q_isWrong q_toldLetter q_toldHeat q_toldStory q_toldWords q_toldStories) rfl dX4_reactOne_61 (fun H locs hG => ?_)
      obtain ⟨q_s_15, eq_s_15, hf⟩ := nm_o hf
      rw [← eq_s_15] at hG
      refine lv_goto (tgt := 107) hx hb dX4_reactOne_62 (by decide) ?_
      exact hj17 q_s_15 _ _ ls hf hG (lv_sub hl [1, 2, 4, 0] rfl)
  refine lv_icmp_ne (tgt := 33) hx hb dX4_reactOne_26 (by decide) (fun c6 => ?_) (fun c6 => ?_)
  · refine lv_iconst (v := nI 0) hx hb dX4_reactOne_33 rfl ?_
    have qv7 := (ev7.trans (if_neg c6))
    subst qv7
    exact hJ ls (lv_sub hl [2, 3, 1, 0] rfl)
  · refine lv_iconst (v := nI 1) hx hb dX4_reactOne_29 rfl ?_
    refine lv_goto (tgt := 34) hx hb dX4_reactOne_30 (by decide) ?_
    have qv7 := (ev7.trans (if_pos c6))
    subst qv7
    exact hJ ls (lv_sub hl [2, 3, 1, 0] rfl)
set_option maxHeartbeats 1000000 in
set_option maxRecDepth 100000 in
theorem c_X4_react (l : Launch) (D : va_G) (y : Nat → ClassId) (a : Nat → Nat) (sz : Nat) (Fu : Nat) (q_s : Ar) (q_aside : Ar) (q_before : Ar) (q_known : Int32) (q_slots : Ar) (q_isSaved : Ar) (q_pad : Ar) (q_length : Int32) (q_letters : Ar) (q_heats : Ar) (q_reactions : Int32) (q_newSplits : Int32) (q_storiesThen : Int32) (q_heatThen : Int32) (q_place : Int32) (q_isWrong : Int32) (q_toldLetter : Ar) (q_toldHeat : Ar) (q_toldStory : Ar) (q_toldWords : Int32) (q_toldStories : Int32) (ro : Int32) (q_s_o : Ar) (hf : f_X4_react Fu q_s = some (ro, q_s_o)) : MI l yX4_react wsX4_react 2 47 [.ref (a 0)] D y (w_X4 y a q_s q_aside q_before q_known q_slots q_isSaved q_pad q_length q_letters q_heats q_reactions q_newSplits q_storiesThen q_heatThen q_place q_isWrong q_toldLetter q_toldHeat q_toldStory q_toldWords q_toldStories) sz ro (w_X4 y a q_s_o q_aside q_before q_known q_slots q_isSaved q_pad q_length q_letters q_heats q_reactions q_newSplits q_storiesThen q_heatThen q_place q_isWrong q_toldLetter q_toldHeat q_toldStory q_toldWords q_toldStories) := by
  refine M_i (cc := cX4_react) (maxL := 3) (own := RX4) (by decide) rfl rfl (Nat.le_of_ble_eq_true rfl) ?_
  intro p e s m args below meth c A Q F hK hA H locs hG hret ls hl
  have hx := F.1
  have hb := F.2.1
  have hl : lv_has ls 3 [(0, .ref (a 0))] := hl
  have k0 := F.2.2.2.2 (.fieldLink RX4 7 "HeatedStoriesModel" "s" "[I") (List.mem_of_getElem? (i := 1) rfl)
  have k1 : ∀ w ∈ wsX40, w ∈ wsX4_react := (fun w h => List.mem_cons_of_mem _ (List.mem_append_right _ (h)))
  unfold f_X4_react at hf
  refine lv_iconst (v := nI 0) hx hb dX4_react_0 rfl ?_
  refine lv_istore_n (lv' := [(1, .int (nI 0)), (0, .ref (a 0))]) hx hb dX4_react_1 rfl hl (by decide) rfl (fun ls hl => ?_)
  refine lv_iconst (v := nI 0) hx hb dX4_react_2 rfl ?_
  refine lv_istore_n (lv' := [(2, .int (nI 0)), (1, .int (nI 0)), (0, .ref (a 0))]) hx hb dX4_react_3 rfl hl (by decide) rfl (fun ls hl => ?_)
  obtain ⟨k_4, ek_4, hf⟩ := jn_e hf
  have hk_4 : ∀ (v9 : Int32) (q_s_10 : Ar) (H : Heap) (locs : List Loc) (ls : Array Slot), k_4 v9 q_s_10 = some (ro, q_s_o) → GG D A s.heap (w_X4 y a q_s_10 q_aside q_before q_known q_slots q_isSaved q_pad q_length q_letters q_heats q_reactions q_newSplits q_storiesThen q_heatThen q_place q_isWrong q_toldLetter q_toldHeat q_toldStory q_toldWords q_toldStories) H locs → lv_has ls 3 [(1, .int v9)] → W p l e (RM 2 47) s m args below meth c H locs 0 0 Q (F0 m 52 ls []) := by
    intro v9 q_s_10 H locs ls hf hG hl
    rw [ek_4] at hf
    refine lv_iload_n hx hb dX4_react_52 rfl (lv_at hl 0 rfl) ?_
    have hf := so_e hf
    have e0 : v9 = ro := congrArg (fun z => z.1) hf
    have e1 : q_s_10 = q_s_o := congrArg (fun z => z.2) hf
    exact hret _ _ _ _ _ e0 (by rw [← e1]; exact hG) dX4_react_53
  have hL4 : ∀ (fu : Nat) (x1 : Int32) (x2 : Int32) (q_s_3 : Ar) (H : Heap) (locs : List Loc) (ls : Array Slot), f_X4_react_L4 Fu k_4 fu x1 x2 q_s_3 = some (ro, q_s_o) → GG D A s.heap (w_X4 y a q_s_3 q_aside q_before q_known q_slots q_isSaved q_pad q_length q_letters q_heats q_reactions q_newSplits q_storiesThen q_heatThen q_place q_isWrong q_toldLetter q_toldHeat q_toldStory q_toldWords q_toldStories) H locs → lv_has ls 3 [(0, .ref (a 0)), (1, .int x1), (2, .int x2)] → W p l e (RM 2 47) s m args below meth c H locs 0 0 Q (F0 m 4 ls []) := by
    intro fu
    induction fu with
    | zero => intro x1 x2 q_s_3 H locs ls hf hG hl; exact no_e hf
    | succ fu ih =>
      intro x1 x2 q_s_3 H locs ls hf hG hl
      rw [f_X4_react_L4_s] at hf
      refine lv_iload_n hx hb dX4_react_4 rfl (lv_at hl 2 rfl) ?_
      refine lv_aload_n hx hb dX4_react_5 rfl (lv_at hl 0 rfl) ?_
      refine w_get4 F hK hG k1 0 rfl 0 (by decide) k0 rfl dX4_react_6 ?_
      refine lv_iconst (v := nI 4) hx hb dX4_react_9 rfl ?_
      refine w_ialdk F hK hG 1 rfl (Nat.le_of_ble_eq_true rfl) (Nat.le_of_ble_eq_true rfl) dX4_react_10 ?_
      refine lv_icmp_ge (tgt := 52) hx hb dX4_react_11 (by decide) (fun c4 => ?_) (fun c4 => ?_)
      · have hf := it_e c4 hf
        exact hk_4 x1 q_s_3 _ _ ls hf hG (lv_sub hl [1] rfl)
      · have hf := if_e c4 hf
        refine lv_aload_n hx hb dX4_react_14 rfl (lv_at hl 0 rfl) ?_
        refine w_get4 F hK hG k1 0 rfl 0 (by decide) k0 rfl dX4_react_15 ?_
        refine lv_sipush (v := nI 195) hx hb dX4_react_18 rfl ?_
        refine lv_iload_n hx hb dX4_react_21 rfl (lv_at hl 2 rfl) ?_
        refine lv_iadd hx hb dX4_react_22 ?_
        obtain ⟨g5, hf⟩ := gd_e hf
        refine w_iald F hK hG 1 rfl g5 dX4_react_23 ?_
        refine lv_aload_n hx hb dX4_react_24 rfl (lv_at hl 0 rfl) ?_
        refine w_get4 F hK hG k1 0 rfl 0 (by decide) k0 rfl dX4_react_25 ?_
        refine lv_iconst (v := nI 0) hx hb dX4_react_28 rfl ?_
        refine w_ialdk F hK hG 1 rfl (Nat.le_of_ble_eq_true rfl) (Nat.le_of_ble_eq_true rfl) dX4_react_29 ?_
        refine lv_icmp_lt (tgt := 46) hx hb dX4_react_30 (by decide) (fun c6 => ?_) (fun c6 => ?_)
        · have hf := it_e c6 hf
          refine lv_iinc (v := x2 + (nI 1)) (lv' := [(2, .int (x2 + (nI 1))), (0, .ref (a 0)), (1, .int x1)]) hx hb dX4_react_46 hl (k := 2) rfl rfl (by decide) rfl (fun ls hl => ?_)
          refine lv_goto (tgt := 4) hx hb dX4_react_49 (by decide) ?_
          exact ih x1 (x2 + (nI 1)) q_s_3 _ _ ls hf hG (lv_sub hl [1, 2, 0] rfl)
        · have hf := if_e c6 hf
          refine lv_aload_n hx hb dX4_react_33 rfl (lv_at hl 0 rfl) ?_
          refine lv_iload_n hx hb dX4_react_34 rfl (lv_at hl 2 rfl) ?_
          obtain ⟨q_s_7, h8, hf⟩ := bd1_e hf
          refine k_Wv F hK hA hG (c_X4_reactOne l D y a H.size Fu q_s_3 q_aside q_before q_known q_slots q_isSaved q_pad q_length q_letters q_heats q_reactions q_newSplits q_storiesThen q_heatThen q_place q_isWrong q_toldLetter q_toldHeat q_toldStory q_toldWords q_toldStories x2 q_s_7 h8) (cwV 1 F.2.2.2.2 gX4_react_X4_reactOne rfl rfl rfl (by decide +kernel) ⟨Nat.le_of_ble_eq_true rfl, Nat.le_of_ble_eq_true rfl⟩) 0 rfl rfl rfl rfl rfl hl.1 (Nat.le_of_ble_eq_true rfl) dX4_react_35 ⟨Nat.le_refl 0, Nat.le_refl 0⟩ (fun H locs hG => ?_)
          refine lv_iinc (v := x1 + (nI 1)) (lv' := [(1, .int (x1 + (nI 1))), (0, .ref (a 0)), (2, .int x2)]) hx hb dX4_react_38 hl (k := 1) rfl rfl (by decide) rfl (fun ls hl => ?_)
          refine lv_iconst (v := nI 0) hx hb dX4_react_41 rfl ?_
          refine lv_istore_n (lv' := [(2, .int (nI 0)), (1, .int (x1 + (nI 1))), (0, .ref (a 0))]) hx hb dX4_react_42 rfl hl (by decide) rfl (fun ls hl => ?_)
          refine lv_goto (tgt := 4) hx hb dX4_react_43 (by decide) ?_
          exact ih (x1 + (nI 1)) (nI 0) q_s_7 _ _ ls hf hG (lv_sub hl [2, 1, 0] rfl)
  exact hL4 Fu (nI 0) (nI 0) q_s _ _ ls hf hG (lv_sub hl [2, 1, 0] rfl)
set_option maxHeartbeats 1000000 in
set_option maxRecDepth 100000 in
theorem c_X4_removeStory (l : Launch) (D : va_G) (y : Nat → ClassId) (a : Nat → Nat) (sz : Nat) (Fu : Nat) (q_s : Ar) (q_aside : Ar) (q_before : Ar) (q_known : Int32) (q_slots : Ar) (q_isSaved : Ar) (q_pad : Ar) (q_length : Int32) (q_letters : Ar) (q_heats : Ar) (q_reactions : Int32) (q_newSplits : Int32) (q_storiesThen : Int32) (q_heatThen : Int32) (q_place : Int32) (q_isWrong : Int32) (q_toldLetter : Ar) (q_toldHeat : Ar) (q_toldStory : Ar) (q_toldWords : Int32) (q_toldStories : Int32) (p1 : Int32) (q_s_o : Ar) (hf : f_X4_removeStory Fu q_s p1 = some (q_s_o)) : MV l yX4_removeStory wsX4_removeStory 0 0 [.ref (a 0), .int p1] D y (w_X4 y a q_s q_aside q_before q_known q_slots q_isSaved q_pad q_length q_letters q_heats q_reactions q_newSplits q_storiesThen q_heatThen q_place q_isWrong q_toldLetter q_toldHeat q_toldStory q_toldWords q_toldStories) sz (w_X4 y a q_s_o q_aside q_before q_known q_slots q_isSaved q_pad q_length q_letters q_heats q_reactions q_newSplits q_storiesThen q_heatThen q_place q_isWrong q_toldLetter q_toldHeat q_toldStory q_toldWords q_toldStories) := by
  refine M_v (cc := cX4_removeStory) (maxL := 3) (own := RX4) (by decide) rfl rfl (Nat.le_of_ble_eq_true rfl) ?_
  intro p e s m args below meth c A Q F hK hA H locs hG hret ls hl
  have hx := F.1
  have hb := F.2.1
  have hl : lv_has ls 3 [(0, .ref (a 0)), (1, .int p1)] := hl
  have k0 := F.2.2.2.2 (.fieldLink RX4 7 "HeatedStoriesModel" "s" "[I") (List.mem_of_getElem? (i := 1) rfl)
  have k1 : ∀ w ∈ wsX40, w ∈ wsX4_removeStory := (fun w h => List.mem_cons_of_mem _ (List.mem_append_right _ (h)))
  unfold f_X4_removeStory at hf
  refine lv_aload_n hx hb dX4_removeStory_0 rfl (lv_at hl 0 rfl) ?_
  refine w_get4 F hK hG k1 0 rfl 0 (by decide) k0 rfl dX4_removeStory_1 ?_
  refine lv_iconst (v := nI 3) hx hb dX4_removeStory_4 rfl ?_
  refine lv_dup2_11 hx hb dX4_removeStory_5 rfl rfl ?_
  refine w_ialdk F hK hG 1 rfl (Nat.le_of_ble_eq_true rfl) (Nat.le_of_ble_eq_true rfl) dX4_removeStory_6 ?_
  refine lv_iconst (v := nI 1) hx hb dX4_removeStory_7 rfl ?_
  refine lv_isub hx hb dX4_removeStory_8 ?_
  refine w_iastk F hK hG 1 rfl (Nat.le_of_ble_eq_true rfl) (Nat.le_of_ble_eq_true rfl) (w_X4 y a (upd q_s 3 ((q_s 3) - (nI 1))) q_aside q_before q_known q_slots q_isSaved q_pad q_length q_letters q_heats q_reactions q_newSplits q_storiesThen q_heatThen q_place q_isWrong q_toldLetter q_toldHeat q_toldStory q_toldWords q_toldStories) rfl dX4_removeStory_9 (fun H locs hG => ?_)
  refine lv_iload_n hx hb dX4_removeStory_10 rfl (lv_at hl 1 rfl) ?_
  refine lv_istore_n (lv' := [(2, .int p1), (0, .ref (a 0)), (1, .int p1)]) hx hb dX4_removeStory_11 rfl hl (by decide) rfl (fun ls hl => ?_)
  obtain ⟨k_12, ek_12, hf⟩ := jn_e hf
  have hk_12 : ∀ (q_s_13 : Ar) (H : Heap) (locs : List Loc) (ls : Array Slot), k_12 q_s_13 = some (q_s_o) → GG D A s.heap (w_X4 y a q_s_13 q_aside q_before q_known q_slots q_isSaved q_pad q_length q_letters q_heats q_reactions q_newSplits q_storiesThen q_heatThen q_place q_isWrong q_toldLetter q_toldHeat q_toldStory q_toldWords q_toldStories) H locs → lv_has ls 3 [] → W p l e (RM 0 0) s m args below meth c H locs 0 0 Q (F0 m 88 ls []) := by
    intro q_s_13 H locs ls hf hG hl
    rw [ek_12] at hf
    have hf := so_e hf
    have e0 : q_s_13 = q_s_o := hf
    exact hret _ _ _ _ (by rw [← e0]; exact hG) dX4_removeStory_88
  have hL12 : ∀ (fu : Nat) (x1 : Int32) (q_s_2 : Ar) (H : Heap) (locs : List Loc) (ls : Array Slot), f_X4_removeStory_L12 Fu k_12 fu x1 q_s_2 = some (q_s_o) → GG D A s.heap (w_X4 y a q_s_2 q_aside q_before q_known q_slots q_isSaved q_pad q_length q_letters q_heats q_reactions q_newSplits q_storiesThen q_heatThen q_place q_isWrong q_toldLetter q_toldHeat q_toldStory q_toldWords q_toldStories) H locs → lv_has ls 3 [(0, .ref (a 0)), (2, .int x1)] → W p l e (RM 0 0) s m args below meth c H locs 0 0 Q (F0 m 12 ls []) := by
    intro fu
    induction fu with
    | zero => intro x1 q_s_2 H locs ls hf hG hl; exact no_e hf
    | succ fu ih =>
      intro x1 q_s_2 H locs ls hf hG hl
      rw [f_X4_removeStory_L12_s] at hf
      refine lv_iload_n hx hb dX4_removeStory_12 rfl (lv_at hl 1 rfl) ?_
      refine lv_aload_n hx hb dX4_removeStory_13 rfl (lv_at hl 0 rfl) ?_
      refine w_get4 F hK hG k1 0 rfl 0 (by decide) k0 rfl dX4_removeStory_14 ?_
      refine lv_iconst (v := nI 3) hx hb dX4_removeStory_17 rfl ?_
      refine w_ialdk F hK hG 1 rfl (Nat.le_of_ble_eq_true rfl) (Nat.le_of_ble_eq_true rfl) dX4_removeStory_18 ?_
      refine lv_icmp_ge (tgt := 88) hx hb dX4_removeStory_19 (by decide) (fun c3 => ?_) (fun c3 => ?_)
      · have hf := it_e c3 hf
        exact hk_12 q_s_2 _ _ ls hf hG (lv_sub hl [] rfl)
      · have hf := if_e c3 hf
        refine lv_aload_n hx hb dX4_removeStory_22 rfl (lv_at hl 0 rfl) ?_
        refine w_get4 F hK hG k1 0 rfl 0 (by decide) k0 rfl dX4_removeStory_23 ?_
        refine lv_bipush (v := nI 9) hx hb dX4_removeStory_26 rfl ?_
        refine lv_iload_n hx hb dX4_removeStory_28 rfl (lv_at hl 1 rfl) ?_
        refine lv_iadd hx hb dX4_removeStory_29 ?_
        refine lv_aload_n hx hb dX4_removeStory_30 rfl (lv_at hl 0 rfl) ?_
        refine w_get4 F hK hG k1 0 rfl 0 (by decide) k0 rfl dX4_removeStory_31 ?_
        refine lv_bipush (v := nI 9) hx hb dX4_removeStory_34 rfl ?_
        refine lv_iload_n hx hb dX4_removeStory_36 rfl (lv_at hl 1 rfl) ?_
        refine lv_iadd hx hb dX4_removeStory_37 ?_
        refine lv_iconst (v := nI 1) hx hb dX4_removeStory_38 rfl ?_
        refine lv_iadd hx hb dX4_removeStory_39 ?_
        obtain ⟨g4, hf⟩ := gd_e hf
        refine w_iald F hK hG 1 rfl g4 dX4_removeStory_40 ?_
        obtain ⟨g5, hf⟩ := gd_e hf
        refine w_iast F hK hG 1 rfl g5 (w_X4 y a (upd q_s_2 ((nI 9) + x1).toNatClampNeg (q_s_2 (((nI 9) + x1) + (nI 1)).toNatClampNeg)) q_aside q_before q_known q_slots q_isSaved q_pad q_length q_letters q_heats q_reactions q_newSplits q_storiesThen q_heatThen q_place q_isWrong q_toldLetter q_toldHeat q_toldStory q_toldWords q_toldStories) rfl dX4_removeStory_41 (fun H locs hG => ?_)
        obtain ⟨q_s_6, eq_s_6, hf⟩ := nm_o hf
        rw [← eq_s_6] at hG
        refine lv_aload_n hx hb dX4_removeStory_42 rfl (lv_at hl 0 rfl) ?_
        refine w_get4 F hK hG k1 0 rfl 0 (by decide) k0 rfl dX4_removeStory_43 ?_
        refine lv_bipush (v := nI 21) hx hb dX4_removeStory_46 rfl ?_
        refine lv_iload_n hx hb dX4_removeStory_48 rfl (lv_at hl 1 rfl) ?_
        refine lv_iadd hx hb dX4_removeStory_49 ?_
        refine lv_aload_n hx hb dX4_removeStory_50 rfl (lv_at hl 0 rfl) ?_
        refine w_get4 F hK hG k1 0 rfl 0 (by decide) k0 rfl dX4_removeStory_51 ?_
        refine lv_bipush (v := nI 21) hx hb dX4_removeStory_54 rfl ?_
        refine lv_iload_n hx hb dX4_removeStory_56 rfl (lv_at hl 1 rfl) ?_
        refine lv_iadd hx hb dX4_removeStory_57 ?_
        refine lv_iconst (v := nI 1) hx hb dX4_removeStory_58 rfl ?_
        refine lv_iadd hx hb dX4_removeStory_59 ?_
        obtain ⟨g7, hf⟩ := gd_e hf
        refine w_iald F hK hG 1 rfl g7 dX4_removeStory_60 ?_
        obtain ⟨g8, hf⟩ := gd_e hf
        refine w_iast F hK hG 1 rfl g8 (w_X4 y a (upd q_s_6 ((nI 21) + x1).toNatClampNeg (q_s_6 (((nI 21) + x1) + (nI 1)).toNatClampNeg)) q_aside q_before q_known q_slots q_isSaved q_pad q_length q_letters q_heats q_reactions q_newSplits q_storiesThen q_heatThen q_place q_isWrong q_toldLetter q_toldHeat q_toldStory q_toldWords q_toldStories) rfl dX4_removeStory_61 (fun H locs hG => ?_)
        obtain ⟨q_s_9, eq_s_9, hf⟩ := nm_o hf
        rw [← eq_s_9] at hG
        refine lv_aload_n hx hb dX4_removeStory_62 rfl (lv_at hl 0 rfl) ?_
        refine w_get4 F hK hG k1 0 rfl 0 (by decide) k0 rfl dX4_removeStory_63 ?_
        refine lv_bipush (v := nI 33) hx hb dX4_removeStory_66 rfl ?_
        refine lv_iload_n hx hb dX4_removeStory_68 rfl (lv_at hl 1 rfl) ?_
        refine lv_iadd hx hb dX4_removeStory_69 ?_
        refine lv_aload_n hx hb dX4_removeStory_70 rfl (lv_at hl 0 rfl) ?_
        refine w_get4 F hK hG k1 0 rfl 0 (by decide) k0 rfl dX4_removeStory_71 ?_
        refine lv_bipush (v := nI 33) hx hb dX4_removeStory_74 rfl ?_
        refine lv_iload_n hx hb dX4_removeStory_76 rfl (lv_at hl 1 rfl) ?_
        refine lv_iadd hx hb dX4_removeStory_77 ?_
        refine lv_iconst (v := nI 1) hx hb dX4_removeStory_78 rfl ?_
        refine lv_iadd hx hb dX4_removeStory_79 ?_
        obtain ⟨g10, hf⟩ := gd_e hf
        refine w_iald F hK hG 1 rfl g10 dX4_removeStory_80 ?_
        obtain ⟨g11, hf⟩ := gd_e hf
        refine w_iast F hK hG 1 rfl g11 (w_X4 y a (upd q_s_9 ((nI 33) + x1).toNatClampNeg (q_s_9 (((nI 33) + x1) + (nI 1)).toNatClampNeg)) q_aside q_before q_known q_slots q_isSaved q_pad q_length q_letters q_heats q_reactions q_newSplits q_storiesThen q_heatThen q_place q_isWrong q_toldLetter q_toldHeat q_toldStory q_toldWords q_toldStories) rfl dX4_removeStory_81 (fun H locs hG => ?_)
        obtain ⟨q_s_12, eq_s_12, hf⟩ := nm_o hf
        rw [← eq_s_12] at hG
        refine lv_iinc (v := x1 + (nI 1)) (lv' := [(2, .int (x1 + (nI 1))), (0, .ref (a 0))]) hx hb dX4_removeStory_82 hl (k := 1) rfl rfl (by decide) rfl (fun ls hl => ?_)
        refine lv_goto (tgt := 12) hx hb dX4_removeStory_85 (by decide) ?_
        exact ih (x1 + (nI 1)) q_s_12 _ _ ls hf hG (lv_sub hl [1, 0] rfl)
  exact hL12 Fu p1 (upd q_s 3 ((q_s 3) - (nI 1))) _ _ ls hf hG (lv_sub hl [1, 0] rfl)
set_option maxHeartbeats 1000000 in
set_option maxRecDepth 100000 in
theorem c_X4_removeWords (l : Launch) (D : va_G) (y : Nat → ClassId) (a : Nat → Nat) (sz : Nat) (Fu : Nat) (q_s : Ar) (q_aside : Ar) (q_before : Ar) (q_known : Int32) (q_slots : Ar) (q_isSaved : Ar) (q_pad : Ar) (q_length : Int32) (q_letters : Ar) (q_heats : Ar) (q_reactions : Int32) (q_newSplits : Int32) (q_storiesThen : Int32) (q_heatThen : Int32) (q_place : Int32) (q_isWrong : Int32) (q_toldLetter : Ar) (q_toldHeat : Ar) (q_toldStory : Ar) (q_toldWords : Int32) (q_toldStories : Int32) (p1 : Int32) (p2 : Int32) (q_s_o : Ar) (hf : f_X4_removeWords Fu q_s p1 p2 = some (q_s_o)) : MV l yX4_removeWords wsX4_removeWords 0 0 [.ref (a 0), .int p1, .int p2] D y (w_X4 y a q_s q_aside q_before q_known q_slots q_isSaved q_pad q_length q_letters q_heats q_reactions q_newSplits q_storiesThen q_heatThen q_place q_isWrong q_toldLetter q_toldHeat q_toldStory q_toldWords q_toldStories) sz (w_X4 y a q_s_o q_aside q_before q_known q_slots q_isSaved q_pad q_length q_letters q_heats q_reactions q_newSplits q_storiesThen q_heatThen q_place q_isWrong q_toldLetter q_toldHeat q_toldStory q_toldWords q_toldStories) := by
  refine M_v (cc := cX4_removeWords) (maxL := 4) (own := RX4) (by decide) rfl rfl (Nat.le_of_ble_eq_true rfl) ?_
  intro p e s m args below meth c A Q F hK hA H locs hG hret ls hl
  have hx := F.1
  have hb := F.2.1
  have hl : lv_has ls 4 [(0, .ref (a 0)), (1, .int p1), (2, .int p2)] := hl
  have k0 := F.2.2.2.2 (.fieldLink RX4 7 "HeatedStoriesModel" "s" "[I") (List.mem_of_getElem? (i := 1) rfl)
  have k1 : ∀ w ∈ wsX40, w ∈ wsX4_removeWords := (fun w h => List.mem_cons_of_mem _ (List.mem_append_right _ (h)))
  unfold f_X4_removeWords at hf
  refine lv_aload_n hx hb dX4_removeWords_0 rfl (lv_at hl 0 rfl) ?_
  refine w_get4 F hK hG k1 0 rfl 0 (by decide) k0 rfl dX4_removeWords_1 ?_
  refine lv_iconst (v := nI 4) hx hb dX4_removeWords_4 rfl ?_
  refine lv_dup2_11 hx hb dX4_removeWords_5 rfl rfl ?_
  refine w_ialdk F hK hG 1 rfl (Nat.le_of_ble_eq_true rfl) (Nat.le_of_ble_eq_true rfl) dX4_removeWords_6 ?_
  refine lv_iload_n hx hb dX4_removeWords_7 rfl (lv_at hl 2 rfl) ?_
  refine lv_isub hx hb dX4_removeWords_8 ?_
  refine w_iastk F hK hG 1 rfl (Nat.le_of_ble_eq_true rfl) (Nat.le_of_ble_eq_true rfl) (w_X4 y a (upd q_s 4 ((q_s 4) - p2)) q_aside q_before q_known q_slots q_isSaved q_pad q_length q_letters q_heats q_reactions q_newSplits q_storiesThen q_heatThen q_place q_isWrong q_toldLetter q_toldHeat q_toldStory q_toldWords q_toldStories) rfl dX4_removeWords_9 (fun H locs hG => ?_)
  refine lv_iload_n hx hb dX4_removeWords_10 rfl (lv_at hl 1 rfl) ?_
  refine lv_istore_n (lv' := [(3, .int p1), (0, .ref (a 0)), (1, .int p1), (2, .int p2)]) hx hb dX4_removeWords_11 rfl hl (by decide) rfl (fun ls hl => ?_)
  obtain ⟨k_12, ek_12, hf⟩ := jn_e hf
  have hk_12 : ∀ (q_s_10 : Ar) (H : Heap) (locs : List Loc) (ls : Array Slot), k_12 q_s_10 = some (q_s_o) → GG D A s.heap (w_X4 y a q_s_10 q_aside q_before q_known q_slots q_isSaved q_pad q_length q_letters q_heats q_reactions q_newSplits q_storiesThen q_heatThen q_place q_isWrong q_toldLetter q_toldHeat q_toldStory q_toldWords q_toldStories) H locs → lv_has ls 4 [] → W p l e (RM 0 0) s m args below meth c H locs 0 0 Q (F0 m 70 ls []) := by
    intro q_s_10 H locs ls hf hG hl
    rw [ek_12] at hf
    have hf := so_e hf
    have e0 : q_s_10 = q_s_o := hf
    exact hret _ _ _ _ (by rw [← e0]; exact hG) dX4_removeWords_70
  have hL12 : ∀ (fu : Nat) (x1 : Int32) (q_s_2 : Ar) (H : Heap) (locs : List Loc) (ls : Array Slot), f_X4_removeWords_L12 Fu k_12 p2 fu x1 q_s_2 = some (q_s_o) → GG D A s.heap (w_X4 y a q_s_2 q_aside q_before q_known q_slots q_isSaved q_pad q_length q_letters q_heats q_reactions q_newSplits q_storiesThen q_heatThen q_place q_isWrong q_toldLetter q_toldHeat q_toldStory q_toldWords q_toldStories) H locs → lv_has ls 4 [(0, .ref (a 0)), (2, .int p2), (3, .int x1)] → W p l e (RM 0 0) s m args below meth c H locs 0 0 Q (F0 m 12 ls []) := by
    intro fu
    induction fu with
    | zero => intro x1 q_s_2 H locs ls hf hG hl; exact no_e hf
    | succ fu ih =>
      intro x1 q_s_2 H locs ls hf hG hl
      rw [f_X4_removeWords_L12_s] at hf
      refine lv_iload_n hx hb dX4_removeWords_12 rfl (lv_at hl 2 rfl) ?_
      refine lv_aload_n hx hb dX4_removeWords_13 rfl (lv_at hl 0 rfl) ?_
      refine w_get4 F hK hG k1 0 rfl 0 (by decide) k0 rfl dX4_removeWords_14 ?_
      refine lv_iconst (v := nI 4) hx hb dX4_removeWords_17 rfl ?_
      refine w_ialdk F hK hG 1 rfl (Nat.le_of_ble_eq_true rfl) (Nat.le_of_ble_eq_true rfl) dX4_removeWords_18 ?_
      refine lv_icmp_ge (tgt := 70) hx hb dX4_removeWords_19 (by decide) (fun c3 => ?_) (fun c3 => ?_)
      · have hf := it_e c3 hf
        exact hk_12 q_s_2 _ _ ls hf hG (lv_sub hl [] rfl)
      · have hf := if_e c3 hf
        refine lv_aload_n hx hb dX4_removeWords_22 rfl (lv_at hl 0 rfl) ?_
        refine w_get4 F hK hG k1 0 rfl 0 (by decide) k0 rfl dX4_removeWords_23 ?_
        refine lv_bipush (v := nI 45) hx hb dX4_removeWords_26 rfl ?_
        refine lv_iload_n hx hb dX4_removeWords_28 rfl (lv_at hl 2 rfl) ?_
        refine lv_iadd hx hb dX4_removeWords_29 ?_
        refine lv_aload_n hx hb dX4_removeWords_30 rfl (lv_at hl 0 rfl) ?_
        refine w_get4 F hK hG k1 0 rfl 0 (by decide) k0 rfl dX4_removeWords_31 ?_
        refine lv_bipush (v := nI 45) hx hb dX4_removeWords_34 rfl ?_
        refine lv_iload_n hx hb dX4_removeWords_36 rfl (lv_at hl 2 rfl) ?_
        refine lv_iadd hx hb dX4_removeWords_37 ?_
        refine lv_iload_n hx hb dX4_removeWords_38 rfl (lv_at hl 1 rfl) ?_
        refine lv_iadd hx hb dX4_removeWords_39 ?_
        obtain ⟨g4, hf⟩ := gd_e hf
        refine w_iald F hK hG 1 rfl g4 dX4_removeWords_40 ?_
        obtain ⟨g5, hf⟩ := gd_e hf
        refine w_iast F hK hG 1 rfl g5 (w_X4 y a (upd q_s_2 ((nI 45) + x1).toNatClampNeg (q_s_2 (((nI 45) + x1) + p2).toNatClampNeg)) q_aside q_before q_known q_slots q_isSaved q_pad q_length q_letters q_heats q_reactions q_newSplits q_storiesThen q_heatThen q_place q_isWrong q_toldLetter q_toldHeat q_toldStory q_toldWords q_toldStories) rfl dX4_removeWords_41 (fun H locs hG => ?_)
        obtain ⟨q_s_6, eq_s_6, hf⟩ := nm_o hf
        rw [← eq_s_6] at hG
        refine lv_aload_n hx hb dX4_removeWords_42 rfl (lv_at hl 0 rfl) ?_
        refine w_get4 F hK hG k1 0 rfl 0 (by decide) k0 rfl dX4_removeWords_43 ?_
        refine lv_sipush (v := nI 195) hx hb dX4_removeWords_46 rfl ?_
        refine lv_iload_n hx hb dX4_removeWords_49 rfl (lv_at hl 2 rfl) ?_
        refine lv_iadd hx hb dX4_removeWords_50 ?_
        refine lv_aload_n hx hb dX4_removeWords_51 rfl (lv_at hl 0 rfl) ?_
        refine w_get4 F hK hG k1 0 rfl 0 (by decide) k0 rfl dX4_removeWords_52 ?_
        refine lv_sipush (v := nI 195) hx hb dX4_removeWords_55 rfl ?_
        refine lv_iload_n hx hb dX4_removeWords_58 rfl (lv_at hl 2 rfl) ?_
        refine lv_iadd hx hb dX4_removeWords_59 ?_
        refine lv_iload_n hx hb dX4_removeWords_60 rfl (lv_at hl 1 rfl) ?_
        refine lv_iadd hx hb dX4_removeWords_61 ?_
        obtain ⟨g7, hf⟩ := gd_e hf
        refine w_iald F hK hG 1 rfl g7 dX4_removeWords_62 ?_
        obtain ⟨g8, hf⟩ := gd_e hf
        refine w_iast F hK hG 1 rfl g8 (w_X4 y a (upd q_s_6 ((nI 195) + x1).toNatClampNeg (q_s_6 (((nI 195) + x1) + p2).toNatClampNeg)) q_aside q_before q_known q_slots q_isSaved q_pad q_length q_letters q_heats q_reactions q_newSplits q_storiesThen q_heatThen q_place q_isWrong q_toldLetter q_toldHeat q_toldStory q_toldWords q_toldStories) rfl dX4_removeWords_63 (fun H locs hG => ?_)
        obtain ⟨q_s_9, eq_s_9, hf⟩ := nm_o hf
        rw [← eq_s_9] at hG
        refine lv_iinc (v := x1 + (nI 1)) (lv' := [(3, .int (x1 + (nI 1))), (0, .ref (a 0)), (2, .int p2)]) hx hb dX4_removeWords_64 hl (k := 2) rfl rfl (by decide) rfl (fun ls hl => ?_)
        refine lv_goto (tgt := 12) hx hb dX4_removeWords_67 (by decide) ?_
        exact ih (x1 + (nI 1)) q_s_9 _ _ ls hf hG (lv_sub hl [1, 2, 0] rfl)
  exact hL12 Fu p1 (upd q_s 4 ((q_s 4) - p2)) _ _ ls hf hG (lv_sub hl [1, 3, 0] rfl)
set_option maxHeartbeats 1000000 in
set_option maxRecDepth 100000 in
theorem c_X4_times (l : Launch) (D : va_G) (y : Nat → ClassId) (a : Nat → Nat) (sz : Nat) (Fu : Nat) (q_s : Ar) (q_aside : Ar) (q_before : Ar) (q_known : Int32) (q_slots : Ar) (q_isSaved : Ar) (q_pad : Ar) (q_length : Int32) (q_letters : Ar) (q_heats : Ar) (q_reactions : Int32) (q_newSplits : Int32) (q_storiesThen : Int32) (q_heatThen : Int32) (q_place : Int32) (q_isWrong : Int32) (q_toldLetter : Ar) (q_toldHeat : Ar) (q_toldStory : Ar) (q_toldWords : Int32) (q_toldStories : Int32) (p1 : Int32) (p2 : Int32) (ro : Int32) (hf : f_X4_times Fu q_s p1 p2 = some (ro)) : MI l yX4_times wsX4_times 1 23 [.ref (a 0), .int p1, .int p2] D y (w_X4 y a q_s q_aside q_before q_known q_slots q_isSaved q_pad q_length q_letters q_heats q_reactions q_newSplits q_storiesThen q_heatThen q_place q_isWrong q_toldLetter q_toldHeat q_toldStory q_toldWords q_toldStories) sz ro (w_X4 y a q_s q_aside q_before q_known q_slots q_isSaved q_pad q_length q_letters q_heats q_reactions q_newSplits q_storiesThen q_heatThen q_place q_isWrong q_toldLetter q_toldHeat q_toldStory q_toldWords q_toldStories) := by
  refine M_i (cc := cX4_times) (maxL := 5) (own := RX4) (by decide) rfl rfl (Nat.le_of_ble_eq_true rfl) ?_
  intro p e s m args below meth c A Q F hK hA H locs hG hret ls hl
  have hx := F.1
  have hb := F.2.1
  have hl : lv_has ls 5 [(0, .ref (a 0)), (1, .int p1), (2, .int p2)] := hl
  have k0 := F.2.2.2.2 (.fieldLink RX4 7 "HeatedStoriesModel" "s" "[I") (List.mem_of_getElem? (i := 1) rfl)
  have k1 : ∀ w ∈ wsX40, w ∈ wsX4_times := (fun w h => List.mem_cons_of_mem _ (List.mem_append_right _ (h)))
  unfold f_X4_times at hf
  refine lv_iconst (v := nI 0) hx hb dX4_times_0 rfl ?_
  refine lv_istore_n (lv' := [(3, .int (nI 0)), (0, .ref (a 0)), (1, .int p1), (2, .int p2)]) hx hb dX4_times_1 rfl hl (by decide) rfl (fun ls hl => ?_)
  refine lv_iconst (v := nI 0) hx hb dX4_times_2 rfl ?_
  refine lv_istore (lv' := [(4, .int (nI 0)), (3, .int (nI 0)), (0, .ref (a 0)), (1, .int p1), (2, .int p2)]) hx hb dX4_times_3 hl (by decide) rfl (fun ls hl => ?_)
  obtain ⟨k_5, ek_5, hf⟩ := jn_e hf
  have hk_5 : ∀ (v10 : Int32) (H : Heap) (locs : List Loc) (ls : Array Slot), k_5 v10 = some (ro) → GG D A s.heap (w_X4 y a q_s q_aside q_before q_known q_slots q_isSaved q_pad q_length q_letters q_heats q_reactions q_newSplits q_storiesThen q_heatThen q_place q_isWrong q_toldLetter q_toldHeat q_toldStory q_toldWords q_toldStories) H locs → lv_has ls 5 [(3, .int v10)] → W p l e (RM 1 23) s m args below meth c H locs 0 0 Q (F0 m 53 ls []) := by
    intro v10 H locs ls hf hG hl
    rw [ek_5] at hf
    refine lv_iload_n hx hb dX4_times_53 rfl (lv_at hl 0 rfl) ?_
    have hf := so_e hf
    have e0 : v10 = ro := hf
    exact hret _ _ _ _ _ e0 hG dX4_times_54
  have hL5 : ∀ (fu : Nat) (x1 : Int32) (x2 : Int32) (H : Heap) (locs : List Loc) (ls : Array Slot), f_X4_times_L5 Fu k_5 q_s p1 p2 fu x1 x2 = some (ro) → GG D A s.heap (w_X4 y a q_s q_aside q_before q_known q_slots q_isSaved q_pad q_length q_letters q_heats q_reactions q_newSplits q_storiesThen q_heatThen q_place q_isWrong q_toldLetter q_toldHeat q_toldStory q_toldWords q_toldStories) H locs → lv_has ls 5 [(0, .ref (a 0)), (1, .int p1), (2, .int p2), (3, .int x1), (4, .int x2)] → W p l e (RM 1 23) s m args below meth c H locs 0 0 Q (F0 m 5 ls []) := by
    intro fu
    induction fu with
    | zero => intro x1 x2 H locs ls hf hG hl; exact no_e hf
    | succ fu ih =>
      intro x1 x2 H locs ls hf hG hl
      rw [f_X4_times_L5_s] at hf
      refine lv_iload hx hb dX4_times_5 (lv_at hl 4 rfl) ?_
      refine lv_aload_n hx hb dX4_times_7 rfl (lv_at hl 0 rfl) ?_
      refine w_get4 F hK hG k1 0 rfl 0 (by decide) k0 rfl dX4_times_8 ?_
      refine lv_bipush (v := nI 9) hx hb dX4_times_11 rfl ?_
      refine lv_iload_n hx hb dX4_times_13 rfl (lv_at hl 1 rfl) ?_
      refine lv_iadd hx hb dX4_times_14 ?_
      obtain ⟨g3, hf⟩ := gd_e hf
      refine w_iald F hK hG 1 rfl g3 dX4_times_15 ?_
      refine lv_icmp_ge (tgt := 53) hx hb dX4_times_16 (by decide) (fun c4 => ?_) (fun c4 => ?_)
      · have hf := it_e c4 hf
        exact hk_5 x1 _ _ ls hf hG (lv_sub hl [3] rfl)
      · have hf := if_e c4 hf
        refine lv_iload_n hx hb dX4_times_19 rfl (lv_at hl 3 rfl) ?_
        refine lv_aload_n hx hb dX4_times_20 rfl (lv_at hl 0 rfl) ?_
        refine w_get4 F hK hG k1 0 rfl 0 (by decide) k0 rfl dX4_times_21 ?_
        refine lv_bipush (v := nI 45) hx hb dX4_times_24 rfl ?_
        refine lv_aload_n hx hb dX4_times_26 rfl (lv_at hl 0 rfl) ?_
        refine lv_iload_n hx hb dX4_times_27 rfl (lv_at hl 1 rfl) ?_
        obtain ⟨r5, h6, hf⟩ := bd1_e hf
        refine k_Wi F hK hA hG (c_X4_first l D y a H.size Fu q_s q_aside q_before q_known q_slots q_isSaved q_pad q_length q_letters q_heats q_reactions q_newSplits q_storiesThen q_heatThen q_place q_isWrong q_toldLetter q_toldHeat q_toldStory q_toldWords q_toldStories p1 r5 h6) (cwV 1 F.2.2.2.2 gX4_times_X4_first rfl rfl rfl (by decide +kernel) ⟨Nat.le_of_ble_eq_true rfl, Nat.le_of_ble_eq_true rfl⟩) 0 rfl rfl rfl rfl rfl hl.1 (Nat.le_of_ble_eq_true rfl) dX4_times_28 ⟨Nat.le_refl 0, Nat.le_refl 0⟩ (fun H locs hG => ?_)
        refine lv_iadd hx hb dX4_times_31 ?_
        refine lv_iload hx hb dX4_times_32 (lv_at hl 4 rfl) ?_
        refine lv_iadd hx hb dX4_times_34 ?_
        obtain ⟨g7, hf⟩ := gd_e hf
        refine w_iald F hK hG 1 rfl g7 dX4_times_35 ?_
        refine lv_iload_n hx hb dX4_times_36 rfl (lv_at hl 2 rfl) ?_
        obtain ⟨v9, ev9, hf⟩ := nm_o hf
        have hJ : ∀ (ls : Array Slot), lv_has ls 5 [(0, .ref (a 0)), (1, .int p1), (2, .int p2), (4, .int x2)] → W p l e (RM 1 23) s m args below meth c H locs 0 0 Q (F0 m 45 ls [.int v9, .int x1]) := by
          intro ls hl
          refine lv_iadd hx hb dX4_times_45 ?_
          refine lv_istore_n (lv' := [(3, .int (x1 + v9)), (0, .ref (a 0)), (1, .int p1), (2, .int p2), (4, .int x2)]) hx hb dX4_times_46 rfl hl (by decide) rfl (fun ls hl => ?_)
          refine lv_iinc (v := x2 + (nI 1)) (lv' := [(4, .int (x2 + (nI 1))), (3, .int (x1 + v9)), (0, .ref (a 0)), (1, .int p1), (2, .int p2)]) hx hb dX4_times_47 hl (k := 4) rfl rfl (by decide) rfl (fun ls hl => ?_)
          refine lv_goto (tgt := 5) hx hb dX4_times_50 (by decide) ?_
          exact ih (x1 + v9) (x2 + (nI 1)) _ _ ls hf hG (lv_sub hl [2, 3, 4, 1, 0] rfl)
        refine lv_icmp_ne (tgt := 44) hx hb dX4_times_37 (by decide) (fun c8 => ?_) (fun c8 => ?_)
        · refine lv_iconst (v := nI 0) hx hb dX4_times_44 rfl ?_
          have qv9 := (ev9.trans (if_neg c8))
          subst qv9
          exact hJ ls (lv_sub hl [0, 1, 2, 4] rfl)
        · refine lv_iconst (v := nI 1) hx hb dX4_times_40 rfl ?_
          refine lv_goto (tgt := 45) hx hb dX4_times_41 (by decide) ?_
          have qv9 := (ev9.trans (if_pos c8))
          subst qv9
          exact hJ ls (lv_sub hl [0, 1, 2, 4] rfl)
  exact hL5 Fu (nI 0) (nI 0) _ _ ls hf hG (lv_sub hl [2, 3, 4, 1, 0] rfl)
set_option maxHeartbeats 1000000 in
set_option maxRecDepth 100000 in
theorem c_X4_theme (l : Launch) (D : va_G) (y : Nat → ClassId) (a : Nat → Nat) (sz : Nat) (Fu : Nat) (q_s : Ar) (q_aside : Ar) (q_before : Ar) (q_known : Int32) (q_slots : Ar) (q_isSaved : Ar) (q_pad : Ar) (q_length : Int32) (q_letters : Ar) (q_heats : Ar) (q_reactions : Int32) (q_newSplits : Int32) (q_storiesThen : Int32) (q_heatThen : Int32) (q_place : Int32) (q_isWrong : Int32) (q_toldLetter : Ar) (q_toldHeat : Ar) (q_toldStory : Ar) (q_toldWords : Int32) (q_toldStories : Int32) (p1 : Int32) (ro : Int32) (hf : f_X4_theme Fu q_s p1 = some (ro)) : MI l yX4_theme wsX4_theme 2 47 [.ref (a 0), .int p1] D y (w_X4 y a q_s q_aside q_before q_known q_slots q_isSaved q_pad q_length q_letters q_heats q_reactions q_newSplits q_storiesThen q_heatThen q_place q_isWrong q_toldLetter q_toldHeat q_toldStory q_toldWords q_toldStories) sz ro (w_X4 y a q_s q_aside q_before q_known q_slots q_isSaved q_pad q_length q_letters q_heats q_reactions q_newSplits q_storiesThen q_heatThen q_place q_isWrong q_toldLetter q_toldHeat q_toldStory q_toldWords q_toldStories) := by
  refine M_i (cc := cX4_theme) (maxL := 4) (own := RX4) (by decide) rfl rfl (Nat.le_of_ble_eq_true rfl) ?_
  intro p e s m args below meth c A Q F hK hA H locs hG hret ls hl
  have hx := F.1
  have hb := F.2.1
  have hl : lv_has ls 4 [(0, .ref (a 0)), (1, .int p1)] := hl
  unfold f_X4_theme at hf
  refine lv_iconst (v := nI 0) hx hb dX4_theme_0 rfl ?_
  refine lv_istore_n (lv' := [(2, .int (nI 0)), (0, .ref (a 0)), (1, .int p1)]) hx hb dX4_theme_1 rfl hl (by decide) rfl (fun ls hl => ?_)
  refine lv_iconst (v := nI 1) hx hb dX4_theme_2 rfl ?_
  refine lv_istore_n (lv' := [(3, .int (nI 1)), (2, .int (nI 0)), (0, .ref (a 0)), (1, .int p1)]) hx hb dX4_theme_3 rfl hl (by decide) rfl (fun ls hl => ?_)
  obtain ⟨k_4, ek_4, hf⟩ := jn_e hf
  have hk_4 : ∀ (v10 : Int32) (H : Heap) (locs : List Loc) (ls : Array Slot), k_4 v10 = some (ro) → GG D A s.heap (w_X4 y a q_s q_aside q_before q_known q_slots q_isSaved q_pad q_length q_letters q_heats q_reactions q_newSplits q_storiesThen q_heatThen q_place q_isWrong q_toldLetter q_toldHeat q_toldStory q_toldWords q_toldStories) H locs → lv_has ls 4 [(2, .int v10)] → W p l e (RM 2 47) s m args below meth c H locs 0 0 Q (F0 m 37 ls []) := by
    intro v10 H locs ls hf hG hl
    rw [ek_4] at hf
    refine lv_iload_n hx hb dX4_theme_37 rfl (lv_at hl 0 rfl) ?_
    have hf := so_e hf
    have e0 : v10 = ro := hf
    exact hret _ _ _ _ _ e0 hG dX4_theme_38
  have hL4 : ∀ (fu : Nat) (x1 : Int32) (x2 : Int32) (H : Heap) (locs : List Loc) (ls : Array Slot), f_X4_theme_L4 Fu k_4 q_s p1 fu x1 x2 = some (ro) → GG D A s.heap (w_X4 y a q_s q_aside q_before q_known q_slots q_isSaved q_pad q_length q_letters q_heats q_reactions q_newSplits q_storiesThen q_heatThen q_place q_isWrong q_toldLetter q_toldHeat q_toldStory q_toldWords q_toldStories) H locs → lv_has ls 4 [(0, .ref (a 0)), (1, .int p1), (2, .int x1), (3, .int x2)] → W p l e (RM 2 47) s m args below meth c H locs 0 0 Q (F0 m 4 ls []) := by
    intro fu
    induction fu with
    | zero => intro x1 x2 H locs ls hf hG hl; exact no_e hf
    | succ fu ih =>
      intro x1 x2 H locs ls hf hG hl
      rw [f_X4_theme_L4_s] at hf
      refine lv_iload_n hx hb dX4_theme_4 rfl (lv_at hl 3 rfl) ?_
      refine lv_bipush (v := nI 26) hx hb dX4_theme_5 rfl ?_
      refine lv_icmp_ge (tgt := 37) hx hb dX4_theme_7 (by decide) (fun c3 => ?_) (fun c3 => ?_)
      · have hf := it_e c3 hf
        exact hk_4 x1 _ _ ls hf hG (lv_sub hl [2] rfl)
      · have hf := if_e c3 hf
        refine lv_aload_n hx hb dX4_theme_10 rfl (lv_at hl 0 rfl) ?_
        refine lv_iload_n hx hb dX4_theme_11 rfl (lv_at hl 1 rfl) ?_
        refine lv_iload_n hx hb dX4_theme_12 rfl (lv_at hl 3 rfl) ?_
        obtain ⟨r4, h5, hf⟩ := bd1_e hf
        refine k_Wi F hK hA hG (c_X4_times l D y a H.size Fu q_s q_aside q_before q_known q_slots q_isSaved q_pad q_length q_letters q_heats q_reactions q_newSplits q_storiesThen q_heatThen q_place q_isWrong q_toldLetter q_toldHeat q_toldStory q_toldWords q_toldStories p1 x2 r4 h5) (cwV 2 F.2.2.2.2 gX4_theme_X4_times rfl rfl rfl (by decide +kernel) ⟨Nat.le_of_ble_eq_true rfl, Nat.le_of_ble_eq_true rfl⟩) 0 rfl rfl rfl rfl rfl hl.1 (Nat.le_of_ble_eq_true rfl) dX4_theme_13 ⟨Nat.le_refl 0, Nat.le_refl 0⟩ (fun H locs hG => ?_)
        refine lv_aload_n hx hb dX4_theme_16 rfl (lv_at hl 0 rfl) ?_
        refine lv_iload_n hx hb dX4_theme_17 rfl (lv_at hl 1 rfl) ?_
        refine lv_iload_n hx hb dX4_theme_18 rfl (lv_at hl 2 rfl) ?_
        obtain ⟨r6, h7, hf⟩ := bd1_e hf
        refine k_Wi F hK hA hG (c_X4_times l D y a H.size Fu q_s q_aside q_before q_known q_slots q_isSaved q_pad q_length q_letters q_heats q_reactions q_newSplits q_storiesThen q_heatThen q_place q_isWrong q_toldLetter q_toldHeat q_toldStory q_toldWords q_toldStories p1 x1 r6 h7) (cwV 2 F.2.2.2.2 gX4_theme_X4_times rfl rfl rfl (by decide +kernel) ⟨Nat.le_of_ble_eq_true rfl, Nat.le_of_ble_eq_true rfl⟩) 0 rfl rfl rfl rfl rfl hl.1 (Nat.le_of_ble_eq_true rfl) dX4_theme_19 ⟨Nat.le_refl 0, Nat.le_refl 0⟩ (fun H locs hG => ?_)
        obtain ⟨v9, ev9, hf⟩ := nm_o hf
        have hJ : ∀ (ls : Array Slot), lv_has ls 4 [(0, .ref (a 0)), (1, .int p1), (3, .int x2)] → W p l e (RM 2 47) s m args below meth c H locs 0 0 Q (F0 m 30 ls [.int v9]) := by
          intro ls hl
          refine lv_istore_n (lv' := [(2, .int v9), (0, .ref (a 0)), (1, .int p1), (3, .int x2)]) hx hb dX4_theme_30 rfl hl (by decide) rfl (fun ls hl => ?_)
          refine lv_iinc (v := x2 + (nI 1)) (lv' := [(3, .int (x2 + (nI 1))), (2, .int v9), (0, .ref (a 0)), (1, .int p1)]) hx hb dX4_theme_31 hl (k := 3) rfl rfl (by decide) rfl (fun ls hl => ?_)
          refine lv_goto (tgt := 4) hx hb dX4_theme_34 (by decide) ?_
          exact ih v9 (x2 + (nI 1)) _ _ ls hf hG (lv_sub hl [2, 3, 1, 0] rfl)
        refine lv_icmp_le (tgt := 29) hx hb dX4_theme_22 (by decide) (fun c8 => ?_) (fun c8 => ?_)
        · refine lv_iload_n hx hb dX4_theme_29 rfl (lv_at hl 2 rfl) ?_
          have qv9 := (ev9.trans (if_pos c8))
          subst qv9
          exact hJ ls (lv_sub hl [0, 1, 3] rfl)
        · refine lv_iload_n hx hb dX4_theme_25 rfl (lv_at hl 3 rfl) ?_
          refine lv_goto (tgt := 30) hx hb dX4_theme_26 (by decide) ?_
          have qv9 := (ev9.trans (if_neg c8))
          subst qv9
          exact hJ ls (lv_sub hl [0, 1, 3] rfl)
  exact hL4 Fu (nI 0) (nI 1) _ _ ls hf hG (lv_sub hl [2, 3, 1, 0] rfl)
set_option maxHeartbeats 1000000 in
set_option maxRecDepth 100000 in
theorem c_X4_heatOf (l : Launch) (D : va_G) (y : Nat → ClassId) (a : Nat → Nat) (sz : Nat) (Fu : Nat) (q_s : Ar) (q_aside : Ar) (q_before : Ar) (q_known : Int32) (q_slots : Ar) (q_isSaved : Ar) (q_pad : Ar) (q_length : Int32) (q_letters : Ar) (q_heats : Ar) (q_reactions : Int32) (q_newSplits : Int32) (q_storiesThen : Int32) (q_heatThen : Int32) (q_place : Int32) (q_isWrong : Int32) (q_toldLetter : Ar) (q_toldHeat : Ar) (q_toldStory : Ar) (q_toldWords : Int32) (q_toldStories : Int32) (p1 : Int32) (ro : Int32) (hf : f_X4_heatOf Fu q_s p1 = some (ro)) : MI l yX4_heatOf wsX4_heatOf 1 23 [.ref (a 0), .int p1] D y (w_X4 y a q_s q_aside q_before q_known q_slots q_isSaved q_pad q_length q_letters q_heats q_reactions q_newSplits q_storiesThen q_heatThen q_place q_isWrong q_toldLetter q_toldHeat q_toldStory q_toldWords q_toldStories) sz ro (w_X4 y a q_s q_aside q_before q_known q_slots q_isSaved q_pad q_length q_letters q_heats q_reactions q_newSplits q_storiesThen q_heatThen q_place q_isWrong q_toldLetter q_toldHeat q_toldStory q_toldWords q_toldStories) := by
  refine M_i (cc := cX4_heatOf) (maxL := 4) (own := RX4) (by decide) rfl rfl (Nat.le_of_ble_eq_true rfl) ?_
  intro p e s m args below meth c A Q F hK hA H locs hG hret ls hl
  have hx := F.1
  have hb := F.2.1
  have hl : lv_has ls 4 [(0, .ref (a 0)), (1, .int p1)] := hl
  have k0 := F.2.2.2.2 (.fieldLink RX4 7 "HeatedStoriesModel" "s" "[I") (List.mem_of_getElem? (i := 1) rfl)
  have k1 : ∀ w ∈ wsX40, w ∈ wsX4_heatOf := (fun w h => List.mem_cons_of_mem _ (List.mem_append_right _ (h)))
  unfold f_X4_heatOf at hf
  refine lv_iconst (v := nI 0) hx hb dX4_heatOf_0 rfl ?_
  refine lv_istore_n (lv' := [(2, .int (nI 0)), (0, .ref (a 0)), (1, .int p1)]) hx hb dX4_heatOf_1 rfl hl (by decide) rfl (fun ls hl => ?_)
  refine lv_iconst (v := nI 0) hx hb dX4_heatOf_2 rfl ?_
  refine lv_istore_n (lv' := [(3, .int (nI 0)), (2, .int (nI 0)), (0, .ref (a 0)), (1, .int p1)]) hx hb dX4_heatOf_3 rfl hl (by decide) rfl (fun ls hl => ?_)
  obtain ⟨k_4, ek_4, hf⟩ := jn_e hf
  have hk_4 : ∀ (v9 : Int32) (H : Heap) (locs : List Loc) (ls : Array Slot), k_4 v9 = some (ro) → GG D A s.heap (w_X4 y a q_s q_aside q_before q_known q_slots q_isSaved q_pad q_length q_letters q_heats q_reactions q_newSplits q_storiesThen q_heatThen q_place q_isWrong q_toldLetter q_toldHeat q_toldStory q_toldWords q_toldStories) H locs → lv_has ls 4 [(2, .int v9)] → W p l e (RM 1 23) s m args below meth c H locs 0 0 Q (F0 m 42 ls []) := by
    intro v9 H locs ls hf hG hl
    rw [ek_4] at hf
    refine lv_iload_n hx hb dX4_heatOf_42 rfl (lv_at hl 0 rfl) ?_
    have hf := so_e hf
    have e0 : v9 = ro := hf
    exact hret _ _ _ _ _ e0 hG dX4_heatOf_43
  have hL4 : ∀ (fu : Nat) (x1 : Int32) (x2 : Int32) (H : Heap) (locs : List Loc) (ls : Array Slot), f_X4_heatOf_L4 Fu k_4 q_s p1 fu x1 x2 = some (ro) → GG D A s.heap (w_X4 y a q_s q_aside q_before q_known q_slots q_isSaved q_pad q_length q_letters q_heats q_reactions q_newSplits q_storiesThen q_heatThen q_place q_isWrong q_toldLetter q_toldHeat q_toldStory q_toldWords q_toldStories) H locs → lv_has ls 4 [(0, .ref (a 0)), (1, .int p1), (2, .int x1), (3, .int x2)] → W p l e (RM 1 23) s m args below meth c H locs 0 0 Q (F0 m 4 ls []) := by
    intro fu
    induction fu with
    | zero => intro x1 x2 H locs ls hf hG hl; exact no_e hf
    | succ fu ih =>
      intro x1 x2 H locs ls hf hG hl
      rw [f_X4_heatOf_L4_s] at hf
      refine lv_iload_n hx hb dX4_heatOf_4 rfl (lv_at hl 3 rfl) ?_
      refine lv_aload_n hx hb dX4_heatOf_5 rfl (lv_at hl 0 rfl) ?_
      refine w_get4 F hK hG k1 0 rfl 0 (by decide) k0 rfl dX4_heatOf_6 ?_
      refine lv_bipush (v := nI 9) hx hb dX4_heatOf_9 rfl ?_
      refine lv_iload_n hx hb dX4_heatOf_11 rfl (lv_at hl 1 rfl) ?_
      refine lv_iadd hx hb dX4_heatOf_12 ?_
      obtain ⟨g3, hf⟩ := gd_e hf
      refine w_iald F hK hG 1 rfl g3 dX4_heatOf_13 ?_
      refine lv_icmp_ge (tgt := 42) hx hb dX4_heatOf_14 (by decide) (fun c4 => ?_) (fun c4 => ?_)
      · have hf := it_e c4 hf
        exact hk_4 x1 _ _ ls hf hG (lv_sub hl [2] rfl)
      · have hf := if_e c4 hf
        refine lv_iload_n hx hb dX4_heatOf_17 rfl (lv_at hl 2 rfl) ?_
        refine lv_aload_n hx hb dX4_heatOf_18 rfl (lv_at hl 0 rfl) ?_
        refine w_get4 F hK hG k1 0 rfl 0 (by decide) k0 rfl dX4_heatOf_19 ?_
        refine lv_sipush (v := nI 195) hx hb dX4_heatOf_22 rfl ?_
        refine lv_aload_n hx hb dX4_heatOf_25 rfl (lv_at hl 0 rfl) ?_
        refine lv_iload_n hx hb dX4_heatOf_26 rfl (lv_at hl 1 rfl) ?_
        obtain ⟨r5, h6, hf⟩ := bd1_e hf
        refine k_Wi F hK hA hG (c_X4_first l D y a H.size Fu q_s q_aside q_before q_known q_slots q_isSaved q_pad q_length q_letters q_heats q_reactions q_newSplits q_storiesThen q_heatThen q_place q_isWrong q_toldLetter q_toldHeat q_toldStory q_toldWords q_toldStories p1 r5 h6) (cwV 1 F.2.2.2.2 gX4_heatOf_X4_first rfl rfl rfl (by decide +kernel) ⟨Nat.le_of_ble_eq_true rfl, Nat.le_of_ble_eq_true rfl⟩) 0 rfl rfl rfl rfl rfl hl.1 (Nat.le_of_ble_eq_true rfl) dX4_heatOf_27 ⟨Nat.le_refl 0, Nat.le_refl 0⟩ (fun H locs hG => ?_)
        refine lv_iadd hx hb dX4_heatOf_30 ?_
        refine lv_iload_n hx hb dX4_heatOf_31 rfl (lv_at hl 3 rfl) ?_
        refine lv_iadd hx hb dX4_heatOf_32 ?_
        obtain ⟨g7, hf⟩ := gd_e hf
        refine w_iald F hK hG 1 rfl g7 dX4_heatOf_33 ?_
        refine lv_iadd hx hb dX4_heatOf_34 ?_
        obtain ⟨v8, ev8, hf⟩ := nm_o hf
        refine w_nm ev8 ?_
        refine lv_istore_n (lv' := [(2, .int v8), (0, .ref (a 0)), (1, .int p1), (3, .int x2)]) hx hb dX4_heatOf_35 rfl hl (by decide) rfl (fun ls hl => ?_)
        refine lv_iinc (v := x2 + (nI 1)) (lv' := [(3, .int (x2 + (nI 1))), (2, .int v8), (0, .ref (a 0)), (1, .int p1)]) hx hb dX4_heatOf_36 hl (k := 3) rfl rfl (by decide) rfl (fun ls hl => ?_)
        refine lv_goto (tgt := 4) hx hb dX4_heatOf_39 (by decide) ?_
        exact ih v8 (x2 + (nI 1)) _ _ ls hf hG (lv_sub hl [2, 3, 1, 0] rfl)
  exact hL4 Fu (nI 0) (nI 0) _ _ ls hf hG (lv_sub hl [2, 3, 1, 0] rfl)
set_option maxHeartbeats 1000000 in
set_option maxRecDepth 100000 in
theorem c_X4_allHeat (l : Launch) (D : va_G) (y : Nat → ClassId) (a : Nat → Nat) (sz : Nat) (Fu : Nat) (q_s : Ar) (q_aside : Ar) (q_before : Ar) (q_known : Int32) (q_slots : Ar) (q_isSaved : Ar) (q_pad : Ar) (q_length : Int32) (q_letters : Ar) (q_heats : Ar) (q_reactions : Int32) (q_newSplits : Int32) (q_storiesThen : Int32) (q_heatThen : Int32) (q_place : Int32) (q_isWrong : Int32) (q_toldLetter : Ar) (q_toldHeat : Ar) (q_toldStory : Ar) (q_toldWords : Int32) (q_toldStories : Int32) (ro : Int32) (hf : f_X4_allHeat Fu q_s = some (ro)) : MI l yX4_allHeat wsX4_allHeat 0 0 [.ref (a 0)] D y (w_X4 y a q_s q_aside q_before q_known q_slots q_isSaved q_pad q_length q_letters q_heats q_reactions q_newSplits q_storiesThen q_heatThen q_place q_isWrong q_toldLetter q_toldHeat q_toldStory q_toldWords q_toldStories) sz ro (w_X4 y a q_s q_aside q_before q_known q_slots q_isSaved q_pad q_length q_letters q_heats q_reactions q_newSplits q_storiesThen q_heatThen q_place q_isWrong q_toldLetter q_toldHeat q_toldStory q_toldWords q_toldStories) := by
  refine M_i (cc := cX4_allHeat) (maxL := 3) (own := RX4) (by decide) rfl rfl (Nat.le_of_ble_eq_true rfl) ?_
  intro p e s m args below meth c A Q F hK hA H locs hG hret ls hl
  have hx := F.1
  have hb := F.2.1
  have hl : lv_has ls 3 [(0, .ref (a 0))] := hl
  have k0 := F.2.2.2.2 (.fieldLink RX4 7 "HeatedStoriesModel" "s" "[I") (List.mem_of_getElem? (i := 1) rfl)
  have k1 : ∀ w ∈ wsX40, w ∈ wsX4_allHeat := (fun w h => List.mem_cons_of_mem _ (List.mem_append_right _ (h)))
  unfold f_X4_allHeat at hf
  refine lv_iconst (v := nI 0) hx hb dX4_allHeat_0 rfl ?_
  refine lv_istore_n (lv' := [(1, .int (nI 0)), (0, .ref (a 0))]) hx hb dX4_allHeat_1 rfl hl (by decide) rfl (fun ls hl => ?_)
  refine lv_iconst (v := nI 0) hx hb dX4_allHeat_2 rfl ?_
  refine lv_istore_n (lv' := [(2, .int (nI 0)), (1, .int (nI 0)), (0, .ref (a 0))]) hx hb dX4_allHeat_3 rfl hl (by decide) rfl (fun ls hl => ?_)
  obtain ⟨k_4, ek_4, hf⟩ := jn_e hf
  have hk_4 : ∀ (v6 : Int32) (H : Heap) (locs : List Loc) (ls : Array Slot), k_4 v6 = some (ro) → GG D A s.heap (w_X4 y a q_s q_aside q_before q_known q_slots q_isSaved q_pad q_length q_letters q_heats q_reactions q_newSplits q_storiesThen q_heatThen q_place q_isWrong q_toldLetter q_toldHeat q_toldStory q_toldWords q_toldStories) H locs → lv_has ls 3 [(1, .int v6)] → W p l e (RM 0 0) s m args below meth c H locs 0 0 Q (F0 m 33 ls []) := by
    intro v6 H locs ls hf hG hl
    rw [ek_4] at hf
    refine lv_iload_n hx hb dX4_allHeat_33 rfl (lv_at hl 0 rfl) ?_
    have hf := so_e hf
    have e0 : v6 = ro := hf
    exact hret _ _ _ _ _ e0 hG dX4_allHeat_34
  have hL4 : ∀ (fu : Nat) (x1 : Int32) (x2 : Int32) (H : Heap) (locs : List Loc) (ls : Array Slot), f_X4_allHeat_L4 Fu k_4 q_s fu x1 x2 = some (ro) → GG D A s.heap (w_X4 y a q_s q_aside q_before q_known q_slots q_isSaved q_pad q_length q_letters q_heats q_reactions q_newSplits q_storiesThen q_heatThen q_place q_isWrong q_toldLetter q_toldHeat q_toldStory q_toldWords q_toldStories) H locs → lv_has ls 3 [(0, .ref (a 0)), (1, .int x1), (2, .int x2)] → W p l e (RM 0 0) s m args below meth c H locs 0 0 Q (F0 m 4 ls []) := by
    intro fu
    induction fu with
    | zero => intro x1 x2 H locs ls hf hG hl; exact no_e hf
    | succ fu ih =>
      intro x1 x2 H locs ls hf hG hl
      rw [f_X4_allHeat_L4_s] at hf
      refine lv_iload_n hx hb dX4_allHeat_4 rfl (lv_at hl 2 rfl) ?_
      refine lv_aload_n hx hb dX4_allHeat_5 rfl (lv_at hl 0 rfl) ?_
      refine w_get4 F hK hG k1 0 rfl 0 (by decide) k0 rfl dX4_allHeat_6 ?_
      refine lv_iconst (v := nI 4) hx hb dX4_allHeat_9 rfl ?_
      refine w_ialdk F hK hG 1 rfl (Nat.le_of_ble_eq_true rfl) (Nat.le_of_ble_eq_true rfl) dX4_allHeat_10 ?_
      refine lv_icmp_ge (tgt := 33) hx hb dX4_allHeat_11 (by decide) (fun c3 => ?_) (fun c3 => ?_)
      · have hf := it_e c3 hf
        exact hk_4 x1 _ _ ls hf hG (lv_sub hl [1] rfl)
      · have hf := if_e c3 hf
        refine lv_iload_n hx hb dX4_allHeat_14 rfl (lv_at hl 1 rfl) ?_
        refine lv_aload_n hx hb dX4_allHeat_15 rfl (lv_at hl 0 rfl) ?_
        refine w_get4 F hK hG k1 0 rfl 0 (by decide) k0 rfl dX4_allHeat_16 ?_
        refine lv_sipush (v := nI 195) hx hb dX4_allHeat_19 rfl ?_
        refine lv_iload_n hx hb dX4_allHeat_22 rfl (lv_at hl 2 rfl) ?_
        refine lv_iadd hx hb dX4_allHeat_23 ?_
        obtain ⟨g4, hf⟩ := gd_e hf
        refine w_iald F hK hG 1 rfl g4 dX4_allHeat_24 ?_
        refine lv_iadd hx hb dX4_allHeat_25 ?_
        obtain ⟨v5, ev5, hf⟩ := nm_o hf
        refine w_nm ev5 ?_
        refine lv_istore_n (lv' := [(1, .int v5), (0, .ref (a 0)), (2, .int x2)]) hx hb dX4_allHeat_26 rfl hl (by decide) rfl (fun ls hl => ?_)
        refine lv_iinc (v := x2 + (nI 1)) (lv' := [(2, .int (x2 + (nI 1))), (1, .int v5), (0, .ref (a 0))]) hx hb dX4_allHeat_27 hl (k := 2) rfl rfl (by decide) rfl (fun ls hl => ?_)
        refine lv_goto (tgt := 4) hx hb dX4_allHeat_30 (by decide) ?_
        exact ih v5 (x2 + (nI 1)) _ _ ls hf hG (lv_sub hl [2, 1, 0] rfl)
  exact hL4 Fu (nI 0) (nI 0) _ _ ls hf hG (lv_sub hl [2, 1, 0] rfl)
set_option maxHeartbeats 1000000 in
set_option maxRecDepth 100000 in
theorem c_X4_set (l : Launch) (D : va_G) (y : Nat → ClassId) (a : Nat → Nat) (sz : Nat) (Fu : Nat) (q_s : Ar) (q_aside : Ar) (q_before : Ar) (q_known : Int32) (q_slots : Ar) (q_isSaved : Ar) (q_pad : Ar) (q_length : Int32) (q_letters : Ar) (q_heats : Ar) (q_reactions : Int32) (q_newSplits : Int32) (q_storiesThen : Int32) (q_heatThen : Int32) (q_place : Int32) (q_isWrong : Int32) (q_toldLetter : Ar) (q_toldHeat : Ar) (q_toldStory : Ar) (q_toldWords : Int32) (q_toldStories : Int32) (p1 : Int32) (p2 : Int32) (ro : Int32) (q_s_o : Ar) (q_before_o : Ar) (q_known_o : Int32) (hf : f_X4_set Fu q_s q_before q_known p1 p2 = some (ro, q_s_o, q_before_o, q_known_o)) : MI l yX4_set wsX4_set 1 22 [.ref (a 0), .int p1, .int p2] D y (w_X4 y a q_s q_aside q_before q_known q_slots q_isSaved q_pad q_length q_letters q_heats q_reactions q_newSplits q_storiesThen q_heatThen q_place q_isWrong q_toldLetter q_toldHeat q_toldStory q_toldWords q_toldStories) sz ro (w_X4 y a q_s_o q_aside q_before_o q_known_o q_slots q_isSaved q_pad q_length q_letters q_heats q_reactions q_newSplits q_storiesThen q_heatThen q_place q_isWrong q_toldLetter q_toldHeat q_toldStory q_toldWords q_toldStories) := by
  refine M_i (cc := cX4_set) (maxL := 6) (own := RX4) (by decide) rfl rfl (Nat.le_of_ble_eq_true rfl) ?_
  intro p e s m args below meth c A Q F hK hA H locs hG hret ls hl
  have hx := F.1
  have hb := F.2.1
  have hl : lv_has ls 6 [(0, .ref (a 0)), (1, .int p1), (2, .int p2)] := hl
  have k0 := F.2.2.2.2 (.fieldLink RX4 7 "HeatedStoriesModel" "s" "[I") (List.mem_of_getElem? (i := 1) rfl)
  have k1 : ∀ w ∈ wsX40, w ∈ wsX4_set := (fun w h => List.mem_cons_of_mem _ (List.mem_append_right _ (h)))
  unfold f_X4_set at hf
  refine lv_iload_n hx hb dX4_set_0 rfl (lv_at hl 1 rfl) ?_
  obtain ⟨v2, ev2, hf⟩ := nm_o hf
  have hJ : ∀ (ls : Array Slot), lv_has ls 6 [(0, .ref (a 0)), (1, .int p1), (2, .int p2)] → W p l e (RM 1 22) s m args below meth c H locs 0 0 Q (F0 m 10 ls [.int v2]) := by
    intro ls hl
    refine lv_istore_n (lv' := [(3, .int v2), (0, .ref (a 0)), (1, .int p1), (2, .int p2)]) hx hb dX4_set_10 rfl hl (by decide) rfl (fun ls hl => ?_)
    refine lv_iload_n hx hb dX4_set_11 rfl (lv_at hl 2 rfl) ?_
    obtain ⟨v5, ev5, hf⟩ := nm_o hf
    have hJ : ∀ (ls : Array Slot), lv_has ls 6 [(0, .ref (a 0)), (1, .int p1), (2, .int p2), (3, .int v2)] → W p l e (RM 1 22) s m args below meth c H locs 0 0 Q (F0 m 31 ls [.int v5]) := by
      intro ls hl
      refine lv_istore (lv' := [(4, .int v5), (0, .ref (a 0)), (1, .int p1), (2, .int p2), (3, .int v2)]) hx hb dX4_set_31 hl (by decide) rfl (fun ls hl => ?_)
      refine lv_iload_n hx hb dX4_set_33 rfl (lv_at hl 2 rfl) ?_
      refine lv_iconst (v := nI 0) hx hb dX4_set_34 rfl ?_
      refine lv_iconst (v := nI 2) hx hb dX4_set_35 rfl ?_
      obtain ⟨r6, h7, hf⟩ := bd1_e hf
      refine k_Si F hK hA hG (c_X4_in l D y  H.size Fu  p1 (nI 0) (nI 2) r6 h7) (va_cwS 3 F.2.2.2.2 gX4_set_X4_in rfl rfl rfl (by decide +kernel) ⟨Nat.le_of_ble_eq_true rfl, Nat.le_of_ble_eq_true rfl⟩) rfl rfl hl.1 (Nat.le_of_ble_eq_true rfl) dX4_set_36 ⟨Nat.le_refl 0, Nat.le_refl 0⟩ (fun H locs hG => ?_)
      refine lv_if_eq (tgt := 52) hx hb dX4_set_39 (by decide) (fun c8 => ?_) (fun c8 => ?_)
      · have hf := it_e c8 hf
        refine lv_bipush (v := -2) hx hb dX4_set_52 rfl ?_
        have hf := so_e hf
        have e0 : (-2) = ro := congrArg (fun z => z.1) hf
        have e1 : q_s = q_s_o := congrArg (fun z => z.2.1) hf
        have e2 : q_before = q_before_o := congrArg (fun z => z.2.2.1) hf
        have e3 : q_known = q_known_o := congrArg (fun z => z.2.2.2) hf
        exact hret _ _ _ _ _ e0 (by rw [← e1, ← e2, ← e3]; exact hG) dX4_set_54
      · have hf := if_e c8 hf
        refine lv_iload_n hx hb dX4_set_42 rfl (lv_at hl 3 rfl) ?_
        refine lv_iload_n hx hb dX4_set_43 rfl (lv_at hl 4 rfl) ?_
        refine lv_iload hx hb dX4_set_44 (lv_at hl 0 rfl) ?_
        obtain ⟨r9, h10, hf⟩ := bd1_e hf
        refine k_Si F hK hA hG (c_X4_in l D y  H.size Fu  p2 v2 v5 r9 h10) (va_cwS 3 F.2.2.2.2 gX4_set_X4_in rfl rfl rfl (by decide +kernel) ⟨Nat.le_of_ble_eq_true rfl, Nat.le_of_ble_eq_true rfl⟩) rfl rfl hl.1 (Nat.le_of_ble_eq_true rfl) dX4_set_46 ⟨Nat.le_refl 0, Nat.le_refl 0⟩ (fun H locs hG => ?_)
        refine lv_if_ne (tgt := 55) hx hb dX4_set_49 (by decide) (fun c11 => ?_) (fun c11 => ?_)
        · have hf := if_e c11 hf
          refine lv_aload_n hx hb dX4_set_55 rfl (lv_at hl 1 rfl) ?_
          obtain ⟨q_before_12, q_known_13, h14, hf⟩ := bd2_e hf
          refine k_Wv F hK hA hG (c_X4_know l D y a H.size Fu q_s q_aside q_before q_known q_slots q_isSaved q_pad q_length q_letters q_heats q_reactions q_newSplits q_storiesThen q_heatThen q_place q_isWrong q_toldLetter q_toldHeat q_toldStory q_toldWords q_toldStories q_before_12 q_known_13 h14) (cwV 0 F.2.2.2.2 gX4_set_X4_know rfl rfl rfl (by decide +kernel) ⟨Nat.le_of_ble_eq_true rfl, Nat.le_of_ble_eq_true rfl⟩) 0 rfl rfl rfl rfl rfl hl.1 (Nat.le_of_ble_eq_true rfl) dX4_set_56 ⟨Nat.le_refl 0, Nat.le_refl 0⟩ (fun H locs hG => ?_)
          refine lv_aload_n hx hb dX4_set_59 rfl (lv_at hl 1 rfl) ?_
          refine w_get4 F hK hG k1 0 rfl 0 (by decide) k0 rfl dX4_set_60 ?_
          refine lv_iconst (v := nI 0) hx hb dX4_set_63 rfl ?_
          refine lv_iload_n hx hb dX4_set_64 rfl (lv_at hl 2 rfl) ?_
          refine lv_iadd hx hb dX4_set_65 ?_
          obtain ⟨g15, hf⟩ := gd_e hf
          refine w_iald F hK hG 1 rfl g15 dX4_set_66 ?_
          obtain ⟨v16, ev16, hf⟩ := nm_o hf
          refine w_nm ev16 ?_
          refine lv_istore (lv' := [(5, .int v16), (4, .int v5), (0, .ref (a 0)), (1, .int p1), (2, .int p2), (3, .int v2)]) hx hb dX4_set_67 hl (by decide) rfl (fun ls hl => ?_)
          refine lv_aload_n hx hb dX4_set_69 rfl (lv_at hl 2 rfl) ?_
          refine w_get4 F hK hG k1 0 rfl 0 (by decide) k0 rfl dX4_set_70 ?_
          refine lv_iconst (v := nI 0) hx hb dX4_set_73 rfl ?_
          refine lv_iload_n hx hb dX4_set_74 rfl (lv_at hl 3 rfl) ?_
          refine lv_iadd hx hb dX4_set_75 ?_
          refine lv_iload_n hx hb dX4_set_76 rfl (lv_at hl 4 rfl) ?_
          obtain ⟨g17, hf⟩ := gd_e hf
          refine w_iast F hK hG 1 rfl g17 (w_X4 y a (upd q_s ((nI 0) + p1).toNatClampNeg p2) q_aside q_before_12 q_known_13 q_slots q_isSaved q_pad q_length q_letters q_heats q_reactions q_newSplits q_storiesThen q_heatThen q_place q_isWrong q_toldLetter q_toldHeat q_toldStory q_toldWords q_toldStories) rfl dX4_set_77 (fun H locs hG => ?_)
          refine lv_iload hx hb dX4_set_78 (lv_at hl 0 rfl) ?_
          have hf := so_e hf
          have e0 : v16 = ro := congrArg (fun z => z.1) hf
          have e1 : (upd q_s ((nI 0) + p1).toNatClampNeg p2) = q_s_o := congrArg (fun z => z.2.1) hf
          have e2 : q_before_12 = q_before_o := congrArg (fun z => z.2.2.1) hf
          have e3 : q_known_13 = q_known_o := congrArg (fun z => z.2.2.2) hf
          exact hret _ _ _ _ _ e0 (by rw [← e1, ← e2, ← e3]; exact hG) dX4_set_80
        · have hf := it_e c11 hf
          refine lv_bipush (v := -2) hx hb dX4_set_52 rfl ?_
          have hf := so_e hf
          have e0 : (-2) = ro := congrArg (fun z => z.1) hf
          have e1 : q_s = q_s_o := congrArg (fun z => z.2.1) hf
          have e2 : q_before = q_before_o := congrArg (fun z => z.2.2.1) hf
          have e3 : q_known = q_known_o := congrArg (fun z => z.2.2.2) hf
          exact hret _ _ _ _ _ e0 (by rw [← e1, ← e2, ← e3]; exact hG) dX4_set_54
    refine lv_if_ne (tgt := 20) hx hb dX4_set_12 (by decide) (fun c3 => ?_) (fun c3 => ?_)
    · refine lv_iload_n hx hb dX4_set_20 rfl (lv_at hl 2 rfl) ?_
      refine lv_iconst (v := nI 1) hx hb dX4_set_21 rfl ?_
      refine lv_icmp_ne (tgt := 29) hx hb dX4_set_22 (by decide) (fun c4 => ?_) (fun c4 => ?_)
      · refine lv_bipush (v := nI 20) hx hb dX4_set_29 rfl ?_
        have qv5 := ((ev5.trans (if_neg c3)).trans (if_neg c4))
        subst qv5
        exact hJ ls (lv_sub hl [1, 2, 3, 0] rfl)
      · refine lv_iconst (v := nI 4) hx hb dX4_set_25 rfl ?_
        refine lv_goto (tgt := 31) hx hb dX4_set_26 (by decide) ?_
        have qv5 := ((ev5.trans (if_neg c3)).trans (if_pos c4))
        subst qv5
        exact hJ ls (lv_sub hl [1, 2, 3, 0] rfl)
    · refine lv_bipush (v := nI 99) hx hb dX4_set_15 rfl ?_
      refine lv_goto (tgt := 31) hx hb dX4_set_17 (by decide) ?_
      have qv5 := (ev5.trans (if_pos c3))
      subst qv5
      exact hJ ls (lv_sub hl [1, 2, 3, 0] rfl)
  refine lv_if_ne (tgt := 9) hx hb dX4_set_1 (by decide) (fun c1 => ?_) (fun c1 => ?_)
  · refine lv_iconst (v := nI 0) hx hb dX4_set_9 rfl ?_
    have qv2 := (ev2.trans (if_neg c1))
    subst qv2
    exact hJ ls (lv_sub hl [0, 1, 2] rfl)
  · refine lv_bipush (v := nI 10) hx hb dX4_set_4 rfl ?_
    refine lv_goto (tgt := 10) hx hb dX4_set_6 (by decide) ?_
    have qv2 := (ev2.trans (if_pos c1))
    subst qv2
    exact hJ ls (lv_sub hl [0, 1, 2] rfl)
set_option maxHeartbeats 1000000 in
set_option maxRecDepth 100000 in
theorem c_X4_heat (l : Launch) (D : va_G) (y : Nat → ClassId) (a : Nat → Nat) (sz : Nat) (Fu : Nat) (q_s : Ar) (q_aside : Ar) (q_before : Ar) (q_known : Int32) (q_slots : Ar) (q_isSaved : Ar) (q_pad : Ar) (q_length : Int32) (q_letters : Ar) (q_heats : Ar) (q_reactions : Int32) (q_newSplits : Int32) (q_storiesThen : Int32) (q_heatThen : Int32) (q_place : Int32) (q_isWrong : Int32) (q_toldLetter : Ar) (q_toldHeat : Ar) (q_toldStory : Ar) (q_toldWords : Int32) (q_toldStories : Int32) (p1 : Int32) (p2 : Int32) (p3 : Int32) (ro : Int32) (q_s_o : Ar) (q_before_o : Ar) (q_known_o : Int32) (hf : f_X4_heat Fu q_s q_before q_known p1 p2 p3 = some (ro, q_s_o, q_before_o, q_known_o)) : MI l yX4_heat wsX4_heat 3 69 [.ref (a 0), .int p1, .int p2, .int p3] D y (w_X4 y a q_s q_aside q_before q_known q_slots q_isSaved q_pad q_length q_letters q_heats q_reactions q_newSplits q_storiesThen q_heatThen q_place q_isWrong q_toldLetter q_toldHeat q_toldStory q_toldWords q_toldStories) sz ro (w_X4 y a q_s_o q_aside q_before_o q_known_o q_slots q_isSaved q_pad q_length q_letters q_heats q_reactions q_newSplits q_storiesThen q_heatThen q_place q_isWrong q_toldLetter q_toldHeat q_toldStory q_toldWords q_toldStories) := by
  refine M_i (cc := cX4_heat) (maxL := 4) (own := RX4) (by decide) rfl rfl (Nat.le_of_ble_eq_true rfl) ?_
  intro p e s m args below meth c A Q F hK hA H locs hG hret ls hl
  have hx := F.1
  have hb := F.2.1
  have hl : lv_has ls 4 [(0, .ref (a 0)), (1, .int p1), (2, .int p2), (3, .int p3)] := hl
  unfold f_X4_heat at hf
  refine lv_aload_n hx hb dX4_heat_0 rfl (lv_at hl 0 rfl) ?_
  refine lv_iload_n hx hb dX4_heat_1 rfl (lv_at hl 1 rfl) ?_
  refine lv_iload_n hx hb dX4_heat_2 rfl (lv_at hl 2 rfl) ?_
  obtain ⟨r1, h2, hf⟩ := bd1_e hf
  refine k_Wi F hK hA hG (c_X4_isWord l D y a H.size Fu q_s q_aside q_before q_known q_slots q_isSaved q_pad q_length q_letters q_heats q_reactions q_newSplits q_storiesThen q_heatThen q_place q_isWrong q_toldLetter q_toldHeat q_toldStory q_toldWords q_toldStories p1 p2 r1 h2) (cwV 2 F.2.2.2.2 gX4_heat_X4_isWord rfl rfl rfl (by decide +kernel) ⟨Nat.le_of_ble_eq_true rfl, Nat.le_of_ble_eq_true rfl⟩) 0 rfl rfl rfl rfl rfl hl.1 (Nat.le_of_ble_eq_true rfl) dX4_heat_3 ⟨Nat.le_refl 0, Nat.le_refl 0⟩ (fun H locs hG => ?_)
  refine lv_if_ne (tgt := 11) hx hb dX4_heat_6 (by decide) (fun c3 => ?_) (fun c3 => ?_)
  · have hf := if_e c3 hf
    refine lv_iload_n hx hb dX4_heat_11 rfl (lv_at hl 3 rfl) ?_
    refine lv_iconst (v := nI 1) hx hb dX4_heat_12 rfl ?_
    refine lv_sipush (v := nI 500) hx hb dX4_heat_13 rfl ?_
    obtain ⟨r4, h5, hf⟩ := bd1_e hf
    refine k_Si F hK hA hG (c_X4_in l D y  H.size Fu  p3 (nI 1) (nI 500) r4 h5) (va_cwS 3 F.2.2.2.2 gX4_heat_X4_in rfl rfl rfl (by decide +kernel) ⟨Nat.le_of_ble_eq_true rfl, Nat.le_of_ble_eq_true rfl⟩) rfl rfl hl.1 (Nat.le_of_ble_eq_true rfl) dX4_heat_16 ⟨Nat.le_refl 0, Nat.le_refl 0⟩ (fun H locs hG => ?_)
    refine lv_if_ne (tgt := 25) hx hb dX4_heat_19 (by decide) (fun c6 => ?_) (fun c6 => ?_)
    · have hf := if_e c6 hf
      refine lv_aload_n hx hb dX4_heat_25 rfl (lv_at hl 0 rfl) ?_
      obtain ⟨q_before_7, q_known_8, h9, hf⟩ := bd2_e hf
      refine k_Wv F hK hA hG (c_X4_know l D y a H.size Fu q_s q_aside q_before q_known q_slots q_isSaved q_pad q_length q_letters q_heats q_reactions q_newSplits q_storiesThen q_heatThen q_place q_isWrong q_toldLetter q_toldHeat q_toldStory q_toldWords q_toldStories q_before_7 q_known_8 h9) (cwV 0 F.2.2.2.2 gX4_heat_X4_know rfl rfl rfl (by decide +kernel) ⟨Nat.le_of_ble_eq_true rfl, Nat.le_of_ble_eq_true rfl⟩) 0 rfl rfl rfl rfl rfl hl.1 (Nat.le_of_ble_eq_true rfl) dX4_heat_26 ⟨Nat.le_refl 0, Nat.le_refl 0⟩ (fun H locs hG => ?_)
      refine lv_aload_n hx hb dX4_heat_29 rfl (lv_at hl 0 rfl) ?_
      refine lv_aload_n hx hb dX4_heat_30 rfl (lv_at hl 0 rfl) ?_
      refine lv_iload_n hx hb dX4_heat_31 rfl (lv_at hl 1 rfl) ?_
      obtain ⟨r10, h11, hf⟩ := bd1_e hf
      refine k_Wi F hK hA hG (c_X4_first l D y a H.size Fu q_s q_aside q_before_7 q_known_8 q_slots q_isSaved q_pad q_length q_letters q_heats q_reactions q_newSplits q_storiesThen q_heatThen q_place q_isWrong q_toldLetter q_toldHeat q_toldStory q_toldWords q_toldStories p1 r10 h11) (cwV 1 F.2.2.2.2 gX4_heat_X4_first rfl rfl rfl (by decide +kernel) ⟨Nat.le_of_ble_eq_true rfl, Nat.le_of_ble_eq_true rfl⟩) 0 rfl rfl rfl rfl rfl hl.1 (Nat.le_of_ble_eq_true rfl) dX4_heat_32 ⟨Nat.le_refl 0, Nat.le_refl 0⟩ (fun H locs hG => ?_)
      refine lv_iload_n hx hb dX4_heat_35 rfl (lv_at hl 2 rfl) ?_
      refine lv_iadd hx hb dX4_heat_36 ?_
      refine lv_iload_n hx hb dX4_heat_37 rfl (lv_at hl 3 rfl) ?_
      obtain ⟨q_s_12, h13, hf⟩ := bd1_e hf
      refine k_Wv F hK hA hG (c_X4_warm l D y a H.size Fu q_s q_aside q_before_7 q_known_8 q_slots q_isSaved q_pad q_length q_letters q_heats q_reactions q_newSplits q_storiesThen q_heatThen q_place q_isWrong q_toldLetter q_toldHeat q_toldStory q_toldWords q_toldStories (r10 + p2) p3 q_s_12 h13) (cwV 2 F.2.2.2.2 gX4_heat_X4_warm rfl rfl rfl (by decide +kernel) ⟨Nat.le_of_ble_eq_true rfl, Nat.le_of_ble_eq_true rfl⟩) 0 rfl rfl rfl rfl rfl hl.1 (Nat.le_of_ble_eq_true rfl) dX4_heat_38 ⟨Nat.le_refl 0, Nat.le_refl 0⟩ (fun H locs hG => ?_)
      refine lv_aload_n hx hb dX4_heat_41 rfl (lv_at hl 0 rfl) ?_
      obtain ⟨r14, q_s_15, h16, hf⟩ := bd2_e hf
      refine k_Wi F hK hA hG (c_X4_react l D y a H.size Fu q_s_12 q_aside q_before_7 q_known_8 q_slots q_isSaved q_pad q_length q_letters q_heats q_reactions q_newSplits q_storiesThen q_heatThen q_place q_isWrong q_toldLetter q_toldHeat q_toldStory q_toldWords q_toldStories r14 q_s_15 h16) (cwV 0 F.2.2.2.2 gX4_heat_X4_react rfl rfl rfl (by decide +kernel) ⟨Nat.le_of_ble_eq_true rfl, Nat.le_of_ble_eq_true rfl⟩) 0 rfl rfl rfl rfl rfl hl.1 (Nat.le_of_ble_eq_true rfl) dX4_heat_42 ⟨Nat.le_refl 0, Nat.le_refl 0⟩ (fun H locs hG => ?_)
      have hf := so_e hf
      have e0 : r14 = ro := congrArg (fun z => z.1) hf
      have e1 : q_s_15 = q_s_o := congrArg (fun z => z.2.1) hf
      have e2 : q_before_7 = q_before_o := congrArg (fun z => z.2.2.1) hf
      have e3 : q_known_8 = q_known_o := congrArg (fun z => z.2.2.2) hf
      exact hret _ _ _ _ _ e0 (by rw [← e1, ← e2, ← e3]; exact hG) dX4_heat_45
    · have hf := it_e c6 hf
      refine lv_bipush (v := -2) hx hb dX4_heat_22 rfl ?_
      have hf := so_e hf
      have e0 : (-2) = ro := congrArg (fun z => z.1) hf
      have e1 : q_s = q_s_o := congrArg (fun z => z.2.1) hf
      have e2 : q_before = q_before_o := congrArg (fun z => z.2.2.1) hf
      have e3 : q_known = q_known_o := congrArg (fun z => z.2.2.2) hf
      exact hret _ _ _ _ _ e0 (by rw [← e1, ← e2, ← e3]; exact hG) dX4_heat_24
  · have hf := it_e c3 hf
    refine lv_iconst (v := -1) hx hb dX4_heat_9 rfl ?_
    have hf := so_e hf
    have e0 : (-1) = ro := congrArg (fun z => z.1) hf
    have e1 : q_s = q_s_o := congrArg (fun z => z.2.1) hf
    have e2 : q_before = q_before_o := congrArg (fun z => z.2.2.1) hf
    have e3 : q_known = q_known_o := congrArg (fun z => z.2.2.2) hf
    exact hret _ _ _ _ _ e0 (by rw [← e1, ← e2, ← e3]; exact hG) dX4_heat_10
set_option maxHeartbeats 1000000 in
set_option maxRecDepth 100000 in
theorem c_X4_read (l : Launch) (D : va_G) (y : Nat → ClassId) (a : Nat → Nat) (sz : Nat) (Fu : Nat) (q_s : Ar) (q_aside : Ar) (q_before : Ar) (q_known : Int32) (q_slots : Ar) (q_isSaved : Ar) (q_pad : Ar) (q_length : Int32) (q_letters : Ar) (q_heats : Ar) (q_reactions : Int32) (q_newSplits : Int32) (q_storiesThen : Int32) (q_heatThen : Int32) (q_place : Int32) (q_isWrong : Int32) (q_toldLetter : Ar) (q_toldHeat : Ar) (q_toldStory : Ar) (q_toldWords : Int32) (q_toldStories : Int32) (p1 : Int32) (p2 : Int32) (ro : Int32) (q_s_o : Ar) (q_before_o : Ar) (q_known_o : Int32) (hf : f_X4_read Fu q_s q_before q_known p1 p2 = some (ro, q_s_o, q_before_o, q_known_o)) : MI l yX4_read wsX4_read 3 69 [.ref (a 0), .int p1, .int p2] D y (w_X4 y a q_s q_aside q_before q_known q_slots q_isSaved q_pad q_length q_letters q_heats q_reactions q_newSplits q_storiesThen q_heatThen q_place q_isWrong q_toldLetter q_toldHeat q_toldStory q_toldWords q_toldStories) sz ro (w_X4 y a q_s_o q_aside q_before_o q_known_o q_slots q_isSaved q_pad q_length q_letters q_heats q_reactions q_newSplits q_storiesThen q_heatThen q_place q_isWrong q_toldLetter q_toldHeat q_toldStory q_toldWords q_toldStories) := by
  refine M_i (cc := cX4_read) (maxL := 4) (own := RX4) (by decide) rfl rfl (Nat.le_of_ble_eq_true rfl) ?_
  intro p e s m args below meth c A Q F hK hA H locs hG hret ls hl
  have hx := F.1
  have hb := F.2.1
  have hl : lv_has ls 4 [(0, .ref (a 0)), (1, .int p1), (2, .int p2)] := hl
  have k0 := F.2.2.2.2 (.fieldLink RX4 7 "HeatedStoriesModel" "s" "[I") (List.mem_of_getElem? (i := 1) rfl)
  have k1 : ∀ w ∈ wsX40, w ∈ wsX4_read := (fun w h => List.mem_cons_of_mem _ (List.mem_append_right _ (h)))
  unfold f_X4_read at hf
  refine lv_aload_n hx hb dX4_read_0 rfl (lv_at hl 0 rfl) ?_
  refine lv_iload_n hx hb dX4_read_1 rfl (lv_at hl 1 rfl) ?_
  obtain ⟨r1, h2, hf⟩ := bd1_e hf
  refine k_Wi F hK hA hG (c_X4_isStory l D y a H.size Fu q_s q_aside q_before q_known q_slots q_isSaved q_pad q_length q_letters q_heats q_reactions q_newSplits q_storiesThen q_heatThen q_place q_isWrong q_toldLetter q_toldHeat q_toldStory q_toldWords q_toldStories p1 r1 h2) (cwV 1 F.2.2.2.2 gX4_read_X4_isStory rfl rfl rfl (by decide +kernel) ⟨Nat.le_of_ble_eq_true rfl, Nat.le_of_ble_eq_true rfl⟩) 0 rfl rfl rfl rfl rfl hl.1 (Nat.le_of_ble_eq_true rfl) dX4_read_2 ⟨Nat.le_refl 0, Nat.le_refl 0⟩ (fun H locs hG => ?_)
  refine lv_if_ne (tgt := 10) hx hb dX4_read_5 (by decide) (fun c3 => ?_) (fun c3 => ?_)
  · have hf := if_e c3 hf
    refine lv_iload_n hx hb dX4_read_10 rfl (lv_at hl 2 rfl) ?_
    refine lv_iconst (v := nI 1) hx hb dX4_read_11 rfl ?_
    refine lv_bipush (v := nI 50) hx hb dX4_read_12 rfl ?_
    obtain ⟨r4, h5, hf⟩ := bd1_e hf
    refine k_Si F hK hA hG (c_X4_in l D y  H.size Fu  p2 (nI 1) (nI 50) r4 h5) (va_cwS 3 F.2.2.2.2 gX4_read_X4_in rfl rfl rfl (by decide +kernel) ⟨Nat.le_of_ble_eq_true rfl, Nat.le_of_ble_eq_true rfl⟩) rfl rfl hl.1 (Nat.le_of_ble_eq_true rfl) dX4_read_14 ⟨Nat.le_refl 0, Nat.le_refl 0⟩ (fun H locs hG => ?_)
    refine lv_if_ne (tgt := 23) hx hb dX4_read_17 (by decide) (fun c6 => ?_) (fun c6 => ?_)
    · have hf := if_e c6 hf
      refine lv_aload_n hx hb dX4_read_23 rfl (lv_at hl 0 rfl) ?_
      obtain ⟨q_before_7, q_known_8, h9, hf⟩ := bd2_e hf
      refine k_Wv F hK hA hG (c_X4_know l D y a H.size Fu q_s q_aside q_before q_known q_slots q_isSaved q_pad q_length q_letters q_heats q_reactions q_newSplits q_storiesThen q_heatThen q_place q_isWrong q_toldLetter q_toldHeat q_toldStory q_toldWords q_toldStories q_before_7 q_known_8 h9) (cwV 0 F.2.2.2.2 gX4_read_X4_know rfl rfl rfl (by decide +kernel) ⟨Nat.le_of_ble_eq_true rfl, Nat.le_of_ble_eq_true rfl⟩) 0 rfl rfl rfl rfl rfl hl.1 (Nat.le_of_ble_eq_true rfl) dX4_read_24 ⟨Nat.le_refl 0, Nat.le_refl 0⟩ (fun H locs hG => ?_)
      refine lv_iconst (v := nI 0) hx hb dX4_read_27 rfl ?_
      refine lv_istore_n (lv' := [(3, .int (nI 0)), (0, .ref (a 0)), (1, .int p1), (2, .int p2)]) hx hb dX4_read_28 rfl hl (by decide) rfl (fun ls hl => ?_)
      obtain ⟨k_29, ek_29, hf⟩ := jn_e hf
      have hk_29 : ∀ (q_s_18 : Ar) (H : Heap) (locs : List Loc) (ls : Array Slot), k_29 q_s_18 = some (ro, q_s_o, q_before_o, q_known_o) → GG D A s.heap (w_X4 y a q_s_18 q_aside q_before_7 q_known_8 q_slots q_isSaved q_pad q_length q_letters q_heats q_reactions q_newSplits q_storiesThen q_heatThen q_place q_isWrong q_toldLetter q_toldHeat q_toldStory q_toldWords q_toldStories) H locs → lv_has ls 4 [(0, .ref (a 0))] → W p l e (RM 3 69) s m args below meth c H locs 0 0 Q (F0 m 60 ls []) := by
        intro q_s_18 H locs ls hf hG hl
        rw [ek_29] at hf
        refine lv_aload_n hx hb dX4_read_60 rfl (lv_at hl 0 rfl) ?_
        obtain ⟨r19, q_s_20, h21, hf⟩ := bd2_e hf
        refine k_Wi F hK hA hG (c_X4_react l D y a H.size Fu q_s_18 q_aside q_before_7 q_known_8 q_slots q_isSaved q_pad q_length q_letters q_heats q_reactions q_newSplits q_storiesThen q_heatThen q_place q_isWrong q_toldLetter q_toldHeat q_toldStory q_toldWords q_toldStories r19 q_s_20 h21) (cwV 0 F.2.2.2.2 gX4_read_X4_react rfl rfl rfl (by decide +kernel) ⟨Nat.le_of_ble_eq_true rfl, Nat.le_of_ble_eq_true rfl⟩) 0 rfl rfl rfl rfl rfl hl.1 (Nat.le_of_ble_eq_true rfl) dX4_read_61 ⟨Nat.le_refl 0, Nat.le_refl 0⟩ (fun H locs hG => ?_)
        have hf := so_e hf
        have e0 : r19 = ro := congrArg (fun z => z.1) hf
        have e1 : q_s_20 = q_s_o := congrArg (fun z => z.2.1) hf
        have e2 : q_before_7 = q_before_o := congrArg (fun z => z.2.2.1) hf
        have e3 : q_known_8 = q_known_o := congrArg (fun z => z.2.2.2) hf
        exact hret _ _ _ _ _ e0 (by rw [← e1, ← e2, ← e3]; exact hG) dX4_read_64
      have hL29 : ∀ (fu : Nat) (x10 : Int32) (q_s_11 : Ar) (H : Heap) (locs : List Loc) (ls : Array Slot), f_X4_read_L29 Fu k_29 p1 p2 fu x10 q_s_11 = some (ro, q_s_o, q_before_o, q_known_o) → GG D A s.heap (w_X4 y a q_s_11 q_aside q_before_7 q_known_8 q_slots q_isSaved q_pad q_length q_letters q_heats q_reactions q_newSplits q_storiesThen q_heatThen q_place q_isWrong q_toldLetter q_toldHeat q_toldStory q_toldWords q_toldStories) H locs → lv_has ls 4 [(0, .ref (a 0)), (1, .int p1), (2, .int p2), (3, .int x10)] → W p l e (RM 3 69) s m args below meth c H locs 0 0 Q (F0 m 29 ls []) := by
        intro fu
        induction fu with
        | zero => intro x10 q_s_11 H locs ls hf hG hl; exact no_e hf
        | succ fu ih =>
          intro x10 q_s_11 H locs ls hf hG hl
          rw [f_X4_read_L29_s] at hf
          refine lv_iload_n hx hb dX4_read_29 rfl (lv_at hl 3 rfl) ?_
          refine lv_aload_n hx hb dX4_read_30 rfl (lv_at hl 0 rfl) ?_
          refine w_get4 F hK hG k1 0 rfl 0 (by decide) k0 rfl dX4_read_31 ?_
          refine lv_bipush (v := nI 9) hx hb dX4_read_34 rfl ?_
          refine lv_iload_n hx hb dX4_read_36 rfl (lv_at hl 1 rfl) ?_
          refine lv_iadd hx hb dX4_read_37 ?_
          obtain ⟨g12, hf⟩ := gd_e hf
          refine w_iald F hK hG 1 rfl g12 dX4_read_38 ?_
          refine lv_icmp_ge (tgt := 60) hx hb dX4_read_39 (by decide) (fun c13 => ?_) (fun c13 => ?_)
          · have hf := it_e c13 hf
            exact hk_29 q_s_11 _ _ ls hf hG (lv_sub hl [0] rfl)
          · have hf := if_e c13 hf
            refine lv_aload_n hx hb dX4_read_42 rfl (lv_at hl 0 rfl) ?_
            refine lv_aload_n hx hb dX4_read_43 rfl (lv_at hl 0 rfl) ?_
            refine lv_iload_n hx hb dX4_read_44 rfl (lv_at hl 1 rfl) ?_
            obtain ⟨r14, h15, hf⟩ := bd1_e hf
            refine k_Wi F hK hA hG (c_X4_first l D y a H.size Fu q_s_11 q_aside q_before_7 q_known_8 q_slots q_isSaved q_pad q_length q_letters q_heats q_reactions q_newSplits q_storiesThen q_heatThen q_place q_isWrong q_toldLetter q_toldHeat q_toldStory q_toldWords q_toldStories p1 r14 h15) (cwV 1 F.2.2.2.2 gX4_read_X4_first rfl rfl rfl (by decide +kernel) ⟨Nat.le_of_ble_eq_true rfl, Nat.le_of_ble_eq_true rfl⟩) 0 rfl rfl rfl rfl rfl hl.1 (Nat.le_of_ble_eq_true rfl) dX4_read_45 ⟨Nat.le_refl 0, Nat.le_refl 0⟩ (fun H locs hG => ?_)
            refine lv_iload_n hx hb dX4_read_48 rfl (lv_at hl 3 rfl) ?_
            refine lv_iadd hx hb dX4_read_49 ?_
            refine lv_iload_n hx hb dX4_read_50 rfl (lv_at hl 2 rfl) ?_
            obtain ⟨q_s_16, h17, hf⟩ := bd1_e hf
            refine k_Wv F hK hA hG (c_X4_warm l D y a H.size Fu q_s_11 q_aside q_before_7 q_known_8 q_slots q_isSaved q_pad q_length q_letters q_heats q_reactions q_newSplits q_storiesThen q_heatThen q_place q_isWrong q_toldLetter q_toldHeat q_toldStory q_toldWords q_toldStories (r14 + x10) p2 q_s_16 h17) (cwV 2 F.2.2.2.2 gX4_read_X4_warm rfl rfl rfl (by decide +kernel) ⟨Nat.le_of_ble_eq_true rfl, Nat.le_of_ble_eq_true rfl⟩) 0 rfl rfl rfl rfl rfl hl.1 (Nat.le_of_ble_eq_true rfl) dX4_read_51 ⟨Nat.le_refl 0, Nat.le_refl 0⟩ (fun H locs hG => ?_)
            refine lv_iinc (v := x10 + (nI 1)) (lv' := [(3, .int (x10 + (nI 1))), (0, .ref (a 0)), (1, .int p1), (2, .int p2)]) hx hb dX4_read_54 hl (k := 3) rfl rfl (by decide) rfl (fun ls hl => ?_)
            refine lv_goto (tgt := 29) hx hb dX4_read_57 (by decide) ?_
            exact ih (x10 + (nI 1)) q_s_16 _ _ ls hf hG (lv_sub hl [1, 2, 3, 0] rfl)
      exact hL29 Fu (nI 0) q_s _ _ ls hf hG (lv_sub hl [1, 2, 3, 0] rfl)
    · have hf := it_e c6 hf
      refine lv_bipush (v := -2) hx hb dX4_read_20 rfl ?_
      have hf := so_e hf
      have e0 : (-2) = ro := congrArg (fun z => z.1) hf
      have e1 : q_s = q_s_o := congrArg (fun z => z.2.1) hf
      have e2 : q_before = q_before_o := congrArg (fun z => z.2.2.1) hf
      have e3 : q_known = q_known_o := congrArg (fun z => z.2.2.2) hf
      exact hret _ _ _ _ _ e0 (by rw [← e1, ← e2, ← e3]; exact hG) dX4_read_22
  · have hf := it_e c3 hf
    refine lv_iconst (v := -1) hx hb dX4_read_8 rfl ?_
    have hf := so_e hf
    have e0 : (-1) = ro := congrArg (fun z => z.1) hf
    have e1 : q_s = q_s_o := congrArg (fun z => z.2.1) hf
    have e2 : q_before = q_before_o := congrArg (fun z => z.2.2.1) hf
    have e3 : q_known = q_known_o := congrArg (fun z => z.2.2.2) hf
    exact hret _ _ _ _ _ e0 (by rw [← e1, ← e2, ← e3]; exact hG) dX4_read_9
set_option maxHeartbeats 1000000 in
set_option maxRecDepth 100000 in
theorem c_X4_fuse (l : Launch) (D : va_G) (y : Nat → ClassId) (a : Nat → Nat) (sz : Nat) (Fu : Nat) (q_s : Ar) (q_aside : Ar) (q_before : Ar) (q_known : Int32) (q_slots : Ar) (q_isSaved : Ar) (q_pad : Ar) (q_length : Int32) (q_letters : Ar) (q_heats : Ar) (q_reactions : Int32) (q_newSplits : Int32) (q_storiesThen : Int32) (q_heatThen : Int32) (q_place : Int32) (q_isWrong : Int32) (q_toldLetter : Ar) (q_toldHeat : Ar) (q_toldStory : Ar) (q_toldWords : Int32) (q_toldStories : Int32) (p1 : Int32) (p2 : Int32) (ro : Int32) (q_s_o : Ar) (q_before_o : Ar) (q_known_o : Int32) (q_letters_o : Ar) (q_heats_o : Ar) (hf : f_X4_fuse Fu q_s q_before q_known q_letters q_heats p1 p2 = some (ro, q_s_o, q_before_o, q_known_o, q_letters_o, q_heats_o)) : MI l yX4_fuse wsX4_fuse 3 70 [.ref (a 0), .int p1, .int p2] D y (w_X4 y a q_s q_aside q_before q_known q_slots q_isSaved q_pad q_length q_letters q_heats q_reactions q_newSplits q_storiesThen q_heatThen q_place q_isWrong q_toldLetter q_toldHeat q_toldStory q_toldWords q_toldStories) sz ro (w_X4 y a q_s_o q_aside q_before_o q_known_o q_slots q_isSaved q_pad q_length q_letters_o q_heats_o q_reactions q_newSplits q_storiesThen q_heatThen q_place q_isWrong q_toldLetter q_toldHeat q_toldStory q_toldWords q_toldStories) := by
  refine M_i (cc := cX4_fuse) (maxL := 8) (own := RX4) (by decide) rfl rfl (Nat.le_of_ble_eq_true rfl) ?_
  intro p e s m args below meth c A Q F hK hA H locs hG hret ls hl
  have hx := F.1
  have hb := F.2.1
  have hl : lv_has ls 8 [(0, .ref (a 0)), (1, .int p1), (2, .int p2)] := hl
  have k0 := F.2.2.2.2 (.fieldLink RX4 7 "HeatedStoriesModel" "s" "[I") (List.mem_of_getElem? (i := 1) rfl)
  have k1 : ∀ w ∈ wsX40, w ∈ wsX4_fuse := (fun w h => List.mem_cons_of_mem _ (List.mem_append_right _ (h)))
  have k2 := F.2.2.2.2 (.fieldLink RX4 29 "HeatedStoriesModel" "letters" "[I") (List.mem_of_getElem? (i := 2) rfl)
  have k3 := F.2.2.2.2 (.fieldLink RX4 32 "HeatedStoriesModel" "heats" "[I") (List.mem_of_getElem? (i := 3) rfl)
  unfold f_X4_fuse at hf
  refine lv_aload_n hx hb dX4_fuse_0 rfl (lv_at hl 0 rfl) ?_
  refine lv_iload_n hx hb dX4_fuse_1 rfl (lv_at hl 1 rfl) ?_
  obtain ⟨r1, h2, hf⟩ := bd1_e hf
  refine k_Wi F hK hA hG (c_X4_isStory l D y a H.size Fu q_s q_aside q_before q_known q_slots q_isSaved q_pad q_length q_letters q_heats q_reactions q_newSplits q_storiesThen q_heatThen q_place q_isWrong q_toldLetter q_toldHeat q_toldStory q_toldWords q_toldStories p1 r1 h2) (cwV 1 F.2.2.2.2 gX4_fuse_X4_isStory rfl rfl rfl (by decide +kernel) ⟨Nat.le_of_ble_eq_true rfl, Nat.le_of_ble_eq_true rfl⟩) 0 rfl rfl rfl rfl rfl hl.1 (Nat.le_of_ble_eq_true rfl) dX4_fuse_2 ⟨Nat.le_refl 0, Nat.le_refl 0⟩ (fun H locs hG => ?_)
  refine lv_if_eq (tgt := 16) hx hb dX4_fuse_5 (by decide) (fun c3 => ?_) (fun c3 => ?_)
  · have hf := it_e c3 hf
    refine lv_iconst (v := -1) hx hb dX4_fuse_16 rfl ?_
    have hf := so_e hf
    have e0 : (-1) = ro := congrArg (fun z => z.1) hf
    have e1 : q_s = q_s_o := congrArg (fun z => z.2.1) hf
    have e2 : q_before = q_before_o := congrArg (fun z => z.2.2.1) hf
    have e3 : q_known = q_known_o := congrArg (fun z => z.2.2.2.1) hf
    have e4 : q_letters = q_letters_o := congrArg (fun z => z.2.2.2.2.1) hf
    have e5 : q_heats = q_heats_o := congrArg (fun z => z.2.2.2.2.2) hf
    exact hret _ _ _ _ _ e0 (by rw [← e1, ← e2, ← e3, ← e4, ← e5]; exact hG) dX4_fuse_17
  · have hf := if_e c3 hf
    refine lv_aload_n hx hb dX4_fuse_8 rfl (lv_at hl 0 rfl) ?_
    refine lv_iload_n hx hb dX4_fuse_9 rfl (lv_at hl 2 rfl) ?_
    obtain ⟨r4, h5, hf⟩ := bd1_e hf
    refine k_Wi F hK hA hG (c_X4_isStory l D y a H.size Fu q_s q_aside q_before q_known q_slots q_isSaved q_pad q_length q_letters q_heats q_reactions q_newSplits q_storiesThen q_heatThen q_place q_isWrong q_toldLetter q_toldHeat q_toldStory q_toldWords q_toldStories p2 r4 h5) (cwV 1 F.2.2.2.2 gX4_fuse_X4_isStory rfl rfl rfl (by decide +kernel) ⟨Nat.le_of_ble_eq_true rfl, Nat.le_of_ble_eq_true rfl⟩) 0 rfl rfl rfl rfl rfl hl.1 (Nat.le_of_ble_eq_true rfl) dX4_fuse_10 ⟨Nat.le_refl 0, Nat.le_refl 0⟩ (fun H locs hG => ?_)
    refine lv_if_ne (tgt := 18) hx hb dX4_fuse_13 (by decide) (fun c6 => ?_) (fun c6 => ?_)
    · have hf := if_e c6 hf
      refine lv_iload_n hx hb dX4_fuse_18 rfl (lv_at hl 1 rfl) ?_
      refine lv_iload_n hx hb dX4_fuse_19 rfl (lv_at hl 2 rfl) ?_
      refine lv_icmp_ne (tgt := 26) hx hb dX4_fuse_20 (by decide) (fun c7 => ?_) (fun c7 => ?_)
      · have hf := if_e c7 hf
        refine lv_aload_n hx hb dX4_fuse_26 rfl (lv_at hl 0 rfl) ?_
        refine lv_iload_n hx hb dX4_fuse_27 rfl (lv_at hl 1 rfl) ?_
        obtain ⟨r8, h9, hf⟩ := bd1_e hf
        refine k_Wi F hK hA hG (c_X4_theme l D y a H.size Fu q_s q_aside q_before q_known q_slots q_isSaved q_pad q_length q_letters q_heats q_reactions q_newSplits q_storiesThen q_heatThen q_place q_isWrong q_toldLetter q_toldHeat q_toldStory q_toldWords q_toldStories p1 r8 h9) (cwV 1 F.2.2.2.2 gX4_fuse_X4_theme rfl rfl rfl (by decide +kernel) ⟨Nat.le_of_ble_eq_true rfl, Nat.le_of_ble_eq_true rfl⟩) 0 rfl rfl rfl rfl rfl hl.1 (Nat.le_of_ble_eq_true rfl) dX4_fuse_28 ⟨Nat.le_refl 0, Nat.le_refl 0⟩ (fun H locs hG => ?_)
        refine lv_aload_n hx hb dX4_fuse_31 rfl (lv_at hl 0 rfl) ?_
        refine lv_iload_n hx hb dX4_fuse_32 rfl (lv_at hl 2 rfl) ?_
        obtain ⟨r10, h11, hf⟩ := bd1_e hf
        refine k_Wi F hK hA hG (c_X4_theme l D y a H.size Fu q_s q_aside q_before q_known q_slots q_isSaved q_pad q_length q_letters q_heats q_reactions q_newSplits q_storiesThen q_heatThen q_place q_isWrong q_toldLetter q_toldHeat q_toldStory q_toldWords q_toldStories p2 r10 h11) (cwV 1 F.2.2.2.2 gX4_fuse_X4_theme rfl rfl rfl (by decide +kernel) ⟨Nat.le_of_ble_eq_true rfl, Nat.le_of_ble_eq_true rfl⟩) 0 rfl rfl rfl rfl rfl hl.1 (Nat.le_of_ble_eq_true rfl) dX4_fuse_33 ⟨Nat.le_refl 0, Nat.le_refl 0⟩ (fun H locs hG => ?_)
        refine lv_icmp_eq (tgt := 42) hx hb dX4_fuse_36 (by decide) (fun c12 => ?_) (fun c12 => ?_)
        · have hf := it_e c12 hf
          refine lv_aload_n hx hb dX4_fuse_42 rfl (lv_at hl 0 rfl) ?_
          obtain ⟨q_before_13, q_known_14, h15, hf⟩ := bd2_e hf
          refine k_Wv F hK hA hG (c_X4_know l D y a H.size Fu q_s q_aside q_before q_known q_slots q_isSaved q_pad q_length q_letters q_heats q_reactions q_newSplits q_storiesThen q_heatThen q_place q_isWrong q_toldLetter q_toldHeat q_toldStory q_toldWords q_toldStories q_before_13 q_known_14 h15) (cwV 0 F.2.2.2.2 gX4_fuse_X4_know rfl rfl rfl (by decide +kernel) ⟨Nat.le_of_ble_eq_true rfl, Nat.le_of_ble_eq_true rfl⟩) 0 rfl rfl rfl rfl rfl hl.1 (Nat.le_of_ble_eq_true rfl) dX4_fuse_43 ⟨Nat.le_refl 0, Nat.le_refl 0⟩ (fun H locs hG => ?_)
          refine lv_aload_n hx hb dX4_fuse_46 rfl (lv_at hl 0 rfl) ?_
          refine w_get4 F hK hG k1 0 rfl 0 (by decide) k0 rfl dX4_fuse_47 ?_
          refine lv_bipush (v := nI 9) hx hb dX4_fuse_50 rfl ?_
          refine lv_iload_n hx hb dX4_fuse_52 rfl (lv_at hl 2 rfl) ?_
          refine lv_iadd hx hb dX4_fuse_53 ?_
          obtain ⟨g16, hf⟩ := gd_e hf
          refine w_iald F hK hG 1 rfl g16 dX4_fuse_54 ?_
          obtain ⟨v17, ev17, hf⟩ := nm_o hf
          refine w_nm ev17 ?_
          refine lv_istore_n (lv' := [(3, .int v17), (0, .ref (a 0)), (1, .int p1), (2, .int p2)]) hx hb dX4_fuse_55 rfl hl (by decide) rfl (fun ls hl => ?_)
          refine lv_iconst (v := nI 0) hx hb dX4_fuse_56 rfl ?_
          refine lv_istore (lv' := [(4, .int (nI 0)), (3, .int v17), (0, .ref (a 0)), (1, .int p1), (2, .int p2)]) hx hb dX4_fuse_57 hl (by decide) rfl (fun ls hl => ?_)
          obtain ⟨k_59, ek_59, hf⟩ := jn_e hf
          have hk_59 : ∀ (q_letters_32 : Ar) (q_heats_33 : Ar) (H : Heap) (locs : List Loc) (ls : Array Slot), k_59 q_letters_32 q_heats_33 = some (ro, q_s_o, q_before_o, q_known_o, q_letters_o, q_heats_o) → GG D A s.heap (w_X4 y a q_s q_aside q_before_13 q_known_14 q_slots q_isSaved q_pad q_length q_letters_32 q_heats_33 q_reactions q_newSplits q_storiesThen q_heatThen q_place q_isWrong q_toldLetter q_toldHeat q_toldStory q_toldWords q_toldStories) H locs → lv_has ls 8 [(0, .ref (a 0)), (1, .int p1), (2, .int p2), (3, .int v17)] → W p l e (RM 3 70) s m args below meth c H locs 0 0 Q (F0 m 118 ls []) := by
            intro q_letters_32 q_heats_33 H locs ls hf hG hl
            rw [ek_59] at hf
            refine lv_aload_n hx hb dX4_fuse_118 rfl (lv_at hl 0 rfl) ?_
            refine w_get4 F hK hG k1 0 rfl 0 (by decide) k0 rfl dX4_fuse_119 ?_
            refine lv_bipush (v := nI 33) hx hb dX4_fuse_122 rfl ?_
            refine lv_iload_n hx hb dX4_fuse_124 rfl (lv_at hl 1 rfl) ?_
            refine lv_iadd hx hb dX4_fuse_125 ?_
            obtain ⟨g34, hf⟩ := gd_e hf
            refine w_iald F hK hG 1 rfl g34 dX4_fuse_126 ?_
            refine lv_aload_n hx hb dX4_fuse_127 rfl (lv_at hl 0 rfl) ?_
            refine w_get4 F hK hG k1 0 rfl 0 (by decide) k0 rfl dX4_fuse_128 ?_
            refine lv_bipush (v := nI 33) hx hb dX4_fuse_131 rfl ?_
            refine lv_iload_n hx hb dX4_fuse_133 rfl (lv_at hl 2 rfl) ?_
            refine lv_iadd hx hb dX4_fuse_134 ?_
            obtain ⟨g35, hf⟩ := gd_e hf
            refine w_iald F hK hG 1 rfl g35 dX4_fuse_135 ?_
            obtain ⟨j40, ej40, hf⟩ := jn_e hf
            have hj40 : ∀ (v39 : Int32) (H : Heap) (locs : List Loc) (ls : Array Slot), j40 v39 = some (ro, q_s_o, q_before_o, q_known_o, q_letters_o, q_heats_o) → GG D A s.heap (w_X4 y a q_s q_aside q_before_13 q_known_14 q_slots q_isSaved q_pad q_length q_letters_32 q_heats_33 q_reactions q_newSplits q_storiesThen q_heatThen q_place q_isWrong q_toldLetter q_toldHeat q_toldStory q_toldWords q_toldStories) H locs → lv_has ls 8 [(0, .ref (a 0)), (1, .int p1), (2, .int p2), (3, .int v17)] → W p l e (RM 3 70) s m args below meth c H locs 0 0 Q (F0 m 160 ls [.int v39]) := by
              intro v39 H locs ls hf hG hl
              rw [ej40] at hf
              refine lv_istore (lv' := [(4, .int v39), (0, .ref (a 0)), (1, .int p1), (2, .int p2), (3, .int v17)]) hx hb dX4_fuse_160 hl (by decide) rfl (fun ls hl => ?_)
              refine lv_aload_n hx hb dX4_fuse_162 rfl (lv_at hl 1 rfl) ?_
              refine lv_aload_n hx hb dX4_fuse_163 rfl (lv_at hl 1 rfl) ?_
              refine lv_iload_n hx hb dX4_fuse_164 rfl (lv_at hl 3 rfl) ?_
              obtain ⟨r41, h42, hf⟩ := bd1_e hf
              refine k_Wi F hK hA hG (c_X4_first l D y a H.size Fu q_s q_aside q_before_13 q_known_14 q_slots q_isSaved q_pad q_length q_letters_32 q_heats_33 q_reactions q_newSplits q_storiesThen q_heatThen q_place q_isWrong q_toldLetter q_toldHeat q_toldStory q_toldWords q_toldStories p2 r41 h42) (cwV 1 F.2.2.2.2 gX4_fuse_X4_first rfl rfl rfl (by decide +kernel) ⟨Nat.le_of_ble_eq_true rfl, Nat.le_of_ble_eq_true rfl⟩) 0 rfl rfl rfl rfl rfl hl.1 (Nat.le_of_ble_eq_true rfl) dX4_fuse_165 ⟨Nat.le_refl 0, Nat.le_refl 0⟩ (fun H locs hG => ?_)
              refine lv_iload_n hx hb dX4_fuse_168 rfl (lv_at hl 4 rfl) ?_
              obtain ⟨q_s_43, h44, hf⟩ := bd1_e hf
              refine k_Wv F hK hA hG (c_X4_removeWords l D y a H.size Fu q_s q_aside q_before_13 q_known_14 q_slots q_isSaved q_pad q_length q_letters_32 q_heats_33 q_reactions q_newSplits q_storiesThen q_heatThen q_place q_isWrong q_toldLetter q_toldHeat q_toldStory q_toldWords q_toldStories r41 v17 q_s_43 h44) (cwV 2 F.2.2.2.2 gX4_fuse_X4_removeWords rfl rfl rfl (by decide +kernel) ⟨Nat.le_of_ble_eq_true rfl, Nat.le_of_ble_eq_true rfl⟩) 0 rfl rfl rfl rfl rfl hl.1 (Nat.le_of_ble_eq_true rfl) dX4_fuse_169 ⟨Nat.le_refl 0, Nat.le_refl 0⟩ (fun H locs hG => ?_)
              refine lv_aload_n hx hb dX4_fuse_172 rfl (lv_at hl 1 rfl) ?_
              refine lv_iload_n hx hb dX4_fuse_173 rfl (lv_at hl 3 rfl) ?_
              obtain ⟨q_s_45, h46, hf⟩ := bd1_e hf
              refine k_Wv F hK hA hG (c_X4_removeStory l D y a H.size Fu q_s_43 q_aside q_before_13 q_known_14 q_slots q_isSaved q_pad q_length q_letters_32 q_heats_33 q_reactions q_newSplits q_storiesThen q_heatThen q_place q_isWrong q_toldLetter q_toldHeat q_toldStory q_toldWords q_toldStories p2 q_s_45 h46) (cwV 1 F.2.2.2.2 gX4_fuse_X4_removeStory rfl rfl rfl (by decide +kernel) ⟨Nat.le_of_ble_eq_true rfl, Nat.le_of_ble_eq_true rfl⟩) 0 rfl rfl rfl rfl rfl hl.1 (Nat.le_of_ble_eq_true rfl) dX4_fuse_174 ⟨Nat.le_refl 0, Nat.le_refl 0⟩ (fun H locs hG => ?_)
              refine lv_iload_n hx hb dX4_fuse_177 rfl (lv_at hl 3 rfl) ?_
              refine lv_iload_n hx hb dX4_fuse_178 rfl (lv_at hl 2 rfl) ?_
              obtain ⟨v48, ev48, hf⟩ := nm_o hf
              have hJ : ∀ (ls : Array Slot), lv_has ls 8 [(0, .ref (a 0)), (3, .int v17), (4, .int v39)] → W p l e (RM 3 70) s m args below meth c H locs 0 0 Q (F0 m 189 ls [.int v48]) := by
                intro ls hl
                refine lv_istore (lv' := [(5, .int v48), (0, .ref (a 0)), (3, .int v17), (4, .int v39)]) hx hb dX4_fuse_189 hl (by decide) rfl (fun ls hl => ?_)
                refine lv_aload_n hx hb dX4_fuse_191 rfl (lv_at hl 1 rfl) ?_
                refine lv_iload hx hb dX4_fuse_192 (lv_at hl 0 rfl) ?_
                obtain ⟨r49, h50, hf⟩ := bd1_e hf
                refine k_Wi F hK hA hG (c_X4_first l D y a H.size Fu q_s_45 q_aside q_before_13 q_known_14 q_slots q_isSaved q_pad q_length q_letters_32 q_heats_33 q_reactions q_newSplits q_storiesThen q_heatThen q_place q_isWrong q_toldLetter q_toldHeat q_toldStory q_toldWords q_toldStories v48 r49 h50) (cwV 1 F.2.2.2.2 gX4_fuse_X4_first rfl rfl rfl (by decide +kernel) ⟨Nat.le_of_ble_eq_true rfl, Nat.le_of_ble_eq_true rfl⟩) 0 rfl rfl rfl rfl rfl hl.1 (Nat.le_of_ble_eq_true rfl) dX4_fuse_194 ⟨Nat.le_refl 0, Nat.le_refl 0⟩ (fun H locs hG => ?_)
                refine lv_aload_n hx hb dX4_fuse_197 rfl (lv_at hl 1 rfl) ?_
                refine w_get4 F hK hG k1 0 rfl 0 (by decide) k0 rfl dX4_fuse_198 ?_
                refine lv_bipush (v := nI 9) hx hb dX4_fuse_201 rfl ?_
                refine lv_iload hx hb dX4_fuse_203 (lv_at hl 0 rfl) ?_
                refine lv_iadd hx hb dX4_fuse_205 ?_
                obtain ⟨g51, hf⟩ := gd_e hf
                refine w_iald F hK hG 1 rfl g51 dX4_fuse_206 ?_
                refine lv_iadd hx hb dX4_fuse_207 ?_
                obtain ⟨v52, ev52, hf⟩ := nm_o hf
                refine w_nm ev52 ?_
                refine lv_istore (lv' := [(6, .int v52), (5, .int v48), (0, .ref (a 0)), (3, .int v17), (4, .int v39)]) hx hb dX4_fuse_208 hl (by decide) rfl (fun ls hl => ?_)
                refine lv_aload_n hx hb dX4_fuse_210 rfl (lv_at hl 2 rfl) ?_
                refine w_get4 F hK hG k1 0 rfl 0 (by decide) k0 rfl dX4_fuse_211 ?_
                refine lv_iconst (v := nI 4) hx hb dX4_fuse_214 rfl ?_
                refine w_ialdk F hK hG 1 rfl (Nat.le_of_ble_eq_true rfl) (Nat.le_of_ble_eq_true rfl) dX4_fuse_215 ?_
                refine lv_iconst (v := nI 1) hx hb dX4_fuse_216 rfl ?_
                refine lv_isub hx hb dX4_fuse_217 ?_
                refine lv_istore (lv' := [(7, .int ((q_s_45 4) - (nI 1))), (6, .int v52), (5, .int v48), (0, .ref (a 0)), (3, .int v17), (4, .int v39)]) hx hb dX4_fuse_218 hl (by decide) rfl (fun ls hl => ?_)
                obtain ⟨k_220, ek_220, hf⟩ := jn_e hf
                have hk_220 : ∀ (q_s_62 : Ar) (H : Heap) (locs : List Loc) (ls : Array Slot), k_220 q_s_62 = some (ro, q_s_o, q_before_o, q_known_o, q_letters_o, q_heats_o) → GG D A s.heap (w_X4 y a q_s_62 q_aside q_before_13 q_known_14 q_slots q_isSaved q_pad q_length q_letters_32 q_heats_33 q_reactions q_newSplits q_storiesThen q_heatThen q_place q_isWrong q_toldLetter q_toldHeat q_toldStory q_toldWords q_toldStories) H locs → lv_has ls 8 [(0, .ref (a 0)), (3, .int v17), (4, .int v39), (5, .int v48), (6, .int v52)] → W p l e (RM 3 70) s m args below meth c H locs 0 0 Q (F0 m 279 ls []) := by
                  intro q_s_62 H locs ls hf hG hl
                  rw [ek_220] at hf
                  refine lv_iconst (v := nI 0) hx hb dX4_fuse_279 rfl ?_
                  refine lv_istore (lv' := [(7, .int (nI 0)), (0, .ref (a 0)), (3, .int v17), (4, .int v39), (5, .int v48), (6, .int v52)]) hx hb dX4_fuse_280 hl (by decide) rfl (fun ls hl => ?_)
                  obtain ⟨k_282, ek_282, hf⟩ := jn_e hf
                  have hk_282 : ∀ (q_s_72 : Ar) (H : Heap) (locs : List Loc) (ls : Array Slot), k_282 q_s_72 = some (ro, q_s_o, q_before_o, q_known_o, q_letters_o, q_heats_o) → GG D A s.heap (w_X4 y a q_s_72 q_aside q_before_13 q_known_14 q_slots q_isSaved q_pad q_length q_letters_32 q_heats_33 q_reactions q_newSplits q_storiesThen q_heatThen q_place q_isWrong q_toldLetter q_toldHeat q_toldStory q_toldWords q_toldStories) H locs → lv_has ls 8 [(0, .ref (a 0)), (3, .int v17), (4, .int v39), (5, .int v48), (6, .int v52)] → W p l e (RM 3 70) s m args below meth c H locs 0 0 Q (F0 m 335 ls []) := by
                    intro q_s_72 H locs ls hf hG hl
                    rw [ek_282] at hf
                    refine lv_aload_n hx hb dX4_fuse_335 rfl (lv_at hl 0 rfl) ?_
                    refine w_get4 F hK hG k1 0 rfl 0 (by decide) k0 rfl dX4_fuse_336 ?_
                    refine lv_iconst (v := nI 4) hx hb dX4_fuse_339 rfl ?_
                    refine lv_dup2_11 hx hb dX4_fuse_340 rfl rfl ?_
                    refine w_ialdk F hK hG 1 rfl (Nat.le_of_ble_eq_true rfl) (Nat.le_of_ble_eq_true rfl) dX4_fuse_341 ?_
                    refine lv_iload_n hx hb dX4_fuse_342 rfl (lv_at hl 1 rfl) ?_
                    refine lv_iadd hx hb dX4_fuse_343 ?_
                    refine w_iastk F hK hG 1 rfl (Nat.le_of_ble_eq_true rfl) (Nat.le_of_ble_eq_true rfl) (w_X4 y a (upd q_s_72 4 ((q_s_72 4) + v17)) q_aside q_before_13 q_known_14 q_slots q_isSaved q_pad q_length q_letters_32 q_heats_33 q_reactions q_newSplits q_storiesThen q_heatThen q_place q_isWrong q_toldLetter q_toldHeat q_toldStory q_toldWords q_toldStories) rfl dX4_fuse_344 (fun H locs hG => ?_)
                    refine lv_aload_n hx hb dX4_fuse_345 rfl (lv_at hl 0 rfl) ?_
                    refine w_get4 F hK hG k1 0 rfl 0 (by decide) k0 rfl dX4_fuse_346 ?_
                    refine lv_bipush (v := nI 9) hx hb dX4_fuse_349 rfl ?_
                    refine lv_iload hx hb dX4_fuse_351 (lv_at hl 3 rfl) ?_
                    refine lv_iadd hx hb dX4_fuse_353 ?_
                    refine lv_dup2_11 hx hb dX4_fuse_354 rfl rfl ?_
                    obtain ⟨g73, hf⟩ := gd_e hf
                    refine w_iald F hK hG 1 rfl g73 dX4_fuse_355 ?_
                    refine lv_iload_n hx hb dX4_fuse_356 rfl (lv_at hl 1 rfl) ?_
                    refine lv_iadd hx hb dX4_fuse_357 ?_
                    obtain ⟨g74, hf⟩ := gd_e hf
                    refine w_iast F hK hG 1 rfl g74 (w_X4 y a (upd (upd q_s_72 4 ((q_s_72 4) + v17)) ((nI 9) + v48).toNatClampNeg (((upd q_s_72 4 ((q_s_72 4) + v17)) ((nI 9) + v48).toNatClampNeg) + v17)) q_aside q_before_13 q_known_14 q_slots q_isSaved q_pad q_length q_letters_32 q_heats_33 q_reactions q_newSplits q_storiesThen q_heatThen q_place q_isWrong q_toldLetter q_toldHeat q_toldStory q_toldWords q_toldStories) rfl dX4_fuse_358 (fun H locs hG => ?_)
                    obtain ⟨q_s_75, eq_s_75, hf⟩ := nm_o hf
                    rw [← eq_s_75] at hG
                    refine lv_aload_n hx hb dX4_fuse_359 rfl (lv_at hl 0 rfl) ?_
                    refine w_get4 F hK hG k1 0 rfl 0 (by decide) k0 rfl dX4_fuse_360 ?_
                    refine lv_bipush (v := nI 33) hx hb dX4_fuse_363 rfl ?_
                    refine lv_iload hx hb dX4_fuse_365 (lv_at hl 3 rfl) ?_
                    refine lv_iadd hx hb dX4_fuse_367 ?_
                    refine lv_iload hx hb dX4_fuse_368 (lv_at hl 2 rfl) ?_
                    refine lv_iconst (v := nI 1) hx hb dX4_fuse_370 rfl ?_
                    refine lv_iadd hx hb dX4_fuse_371 ?_
                    obtain ⟨g76, hf⟩ := gd_e hf
                    refine w_iast F hK hG 1 rfl g76 (w_X4 y a (upd q_s_75 ((nI 33) + v48).toNatClampNeg (v39 + (nI 1))) q_aside q_before_13 q_known_14 q_slots q_isSaved q_pad q_length q_letters_32 q_heats_33 q_reactions q_newSplits q_storiesThen q_heatThen q_place q_isWrong q_toldLetter q_toldHeat q_toldStory q_toldWords q_toldStories) rfl dX4_fuse_372 (fun H locs hG => ?_)
                    refine lv_aload_n hx hb dX4_fuse_373 rfl (lv_at hl 0 rfl) ?_
                    refine lv_iload hx hb dX4_fuse_374 (lv_at hl 4 rfl) ?_
                    refine lv_iconst (v := nI 1) hx hb dX4_fuse_376 rfl ?_
                    refine lv_isub hx hb dX4_fuse_377 ?_
                    refine lv_aload_n hx hb dX4_fuse_378 rfl (lv_at hl 0 rfl) ?_
                    refine w_get4 F hK hG k1 0 rfl 0 (by decide) k0 rfl dX4_fuse_379 ?_
                    refine lv_iconst (v := nI 1) hx hb dX4_fuse_382 rfl ?_
                    refine w_ialdk F hK hG 1 rfl (Nat.le_of_ble_eq_true rfl) (Nat.le_of_ble_eq_true rfl) dX4_fuse_383 ?_
                    obtain ⟨q_s_77, h78, hf⟩ := bd1_e hf
                    refine k_Wv F hK hA hG (c_X4_warm l D y a H.size Fu (upd q_s_75 ((nI 33) + v48).toNatClampNeg (v39 + (nI 1))) q_aside q_before_13 q_known_14 q_slots q_isSaved q_pad q_length q_letters_32 q_heats_33 q_reactions q_newSplits q_storiesThen q_heatThen q_place q_isWrong q_toldLetter q_toldHeat q_toldStory q_toldWords q_toldStories (v52 - (nI 1)) ((upd q_s_75 ((nI 33) + v48).toNatClampNeg (v39 + (nI 1))) 1) q_s_77 h78) (cwV 2 F.2.2.2.2 gX4_fuse_X4_warm rfl rfl rfl (by decide +kernel) ⟨Nat.le_of_ble_eq_true rfl, Nat.le_of_ble_eq_true rfl⟩) 0 rfl rfl rfl rfl rfl hl.1 (Nat.le_of_ble_eq_true rfl) dX4_fuse_384 ⟨Nat.le_refl 0, Nat.le_refl 0⟩ (fun H locs hG => ?_)
                    refine lv_aload_n hx hb dX4_fuse_387 rfl (lv_at hl 0 rfl) ?_
                    refine lv_iload hx hb dX4_fuse_388 (lv_at hl 4 rfl) ?_
                    refine lv_aload_n hx hb dX4_fuse_390 rfl (lv_at hl 0 rfl) ?_
                    refine w_get4 F hK hG k1 0 rfl 0 (by decide) k0 rfl dX4_fuse_391 ?_
                    refine lv_iconst (v := nI 1) hx hb dX4_fuse_394 rfl ?_
                    refine w_ialdk F hK hG 1 rfl (Nat.le_of_ble_eq_true rfl) (Nat.le_of_ble_eq_true rfl) dX4_fuse_395 ?_
                    obtain ⟨q_s_79, h80, hf⟩ := bd1_e hf
                    refine k_Wv F hK hA hG (c_X4_warm l D y a H.size Fu q_s_77 q_aside q_before_13 q_known_14 q_slots q_isSaved q_pad q_length q_letters_32 q_heats_33 q_reactions q_newSplits q_storiesThen q_heatThen q_place q_isWrong q_toldLetter q_toldHeat q_toldStory q_toldWords q_toldStories v52 (q_s_77 1) q_s_79 h80) (cwV 2 F.2.2.2.2 gX4_fuse_X4_warm rfl rfl rfl (by decide +kernel) ⟨Nat.le_of_ble_eq_true rfl, Nat.le_of_ble_eq_true rfl⟩) 0 rfl rfl rfl rfl rfl hl.1 (Nat.le_of_ble_eq_true rfl) dX4_fuse_396 ⟨Nat.le_refl 0, Nat.le_refl 0⟩ (fun H locs hG => ?_)
                    refine lv_aload_n hx hb dX4_fuse_399 rfl (lv_at hl 0 rfl) ?_
                    obtain ⟨r81, q_s_82, h83, hf⟩ := bd2_e hf
                    refine k_Wi F hK hA hG (c_X4_react l D y a H.size Fu q_s_79 q_aside q_before_13 q_known_14 q_slots q_isSaved q_pad q_length q_letters_32 q_heats_33 q_reactions q_newSplits q_storiesThen q_heatThen q_place q_isWrong q_toldLetter q_toldHeat q_toldStory q_toldWords q_toldStories r81 q_s_82 h83) (cwV 0 F.2.2.2.2 gX4_fuse_X4_react rfl rfl rfl (by decide +kernel) ⟨Nat.le_of_ble_eq_true rfl, Nat.le_of_ble_eq_true rfl⟩) 0 rfl rfl rfl rfl rfl hl.1 (Nat.le_of_ble_eq_true rfl) dX4_fuse_400 ⟨Nat.le_refl 0, Nat.le_refl 0⟩ (fun H locs hG => ?_)
                    have hf := so_e hf
                    have e0 : r81 = ro := congrArg (fun z => z.1) hf
                    have e1 : q_s_82 = q_s_o := congrArg (fun z => z.2.1) hf
                    have e2 : q_before_13 = q_before_o := congrArg (fun z => z.2.2.1) hf
                    have e3 : q_known_14 = q_known_o := congrArg (fun z => z.2.2.2.1) hf
                    have e4 : q_letters_32 = q_letters_o := congrArg (fun z => z.2.2.2.2.1) hf
                    have e5 : q_heats_33 = q_heats_o := congrArg (fun z => z.2.2.2.2.2) hf
                    exact hret _ _ _ _ _ e0 (by rw [← e1, ← e2, ← e3, ← e4, ← e5]; exact hG) dX4_fuse_403
                  have hL282 : ∀ (fu : Nat) (x63 : Int32) (q_s_64 : Ar) (H : Heap) (locs : List Loc) (ls : Array Slot), f_X4_fuse_L282 Fu k_282 v17 q_letters_32 q_heats_33 v52 fu x63 q_s_64 = some (ro, q_s_o, q_before_o, q_known_o, q_letters_o, q_heats_o) → GG D A s.heap (w_X4 y a q_s_64 q_aside q_before_13 q_known_14 q_slots q_isSaved q_pad q_length q_letters_32 q_heats_33 q_reactions q_newSplits q_storiesThen q_heatThen q_place q_isWrong q_toldLetter q_toldHeat q_toldStory q_toldWords q_toldStories) H locs → lv_has ls 8 [(0, .ref (a 0)), (3, .int v17), (4, .int v39), (5, .int v48), (6, .int v52), (7, .int x63)] → W p l e (RM 3 70) s m args below meth c H locs 0 0 Q (F0 m 282 ls []) := by
                    intro fu
                    induction fu with
                    | zero => intro x63 q_s_64 H locs ls hf hG hl; exact no_e hf
                    | succ fu ih =>
                      intro x63 q_s_64 H locs ls hf hG hl
                      rw [f_X4_fuse_L282_s] at hf
                      refine lv_iload hx hb dX4_fuse_282 (lv_at hl 5 rfl) ?_
                      refine lv_iload_n hx hb dX4_fuse_284 rfl (lv_at hl 1 rfl) ?_
                      refine lv_icmp_ge (tgt := 335) hx hb dX4_fuse_285 (by decide) (fun c65 => ?_) (fun c65 => ?_)
                      · have hf := it_e c65 hf
                        exact hk_282 q_s_64 _ _ ls hf hG (lv_sub hl [0, 1, 2, 3, 4] rfl)
                      · have hf := if_e c65 hf
                        refine lv_aload_n hx hb dX4_fuse_288 rfl (lv_at hl 0 rfl) ?_
                        refine w_get4 F hK hG k1 0 rfl 0 (by decide) k0 rfl dX4_fuse_289 ?_
                        refine lv_bipush (v := nI 45) hx hb dX4_fuse_292 rfl ?_
                        refine lv_iload hx hb dX4_fuse_294 (lv_at hl 4 rfl) ?_
                        refine lv_iadd hx hb dX4_fuse_296 ?_
                        refine lv_iload hx hb dX4_fuse_297 (lv_at hl 5 rfl) ?_
                        refine lv_iadd hx hb dX4_fuse_299 ?_
                        refine lv_aload_n hx hb dX4_fuse_300 rfl (lv_at hl 0 rfl) ?_
                        refine w_get4 F hK hG k1 0 rfl 8 (by decide) k2 rfl dX4_fuse_301 ?_
                        refine lv_iload hx hb dX4_fuse_304 (lv_at hl 5 rfl) ?_
                        obtain ⟨g66, hf⟩ := gd_e hf
                        refine w_iald F hK hG 7 rfl g66 dX4_fuse_306 ?_
                        obtain ⟨g67, hf⟩ := gd_e hf
                        refine w_iast F hK hG 1 rfl g67 (w_X4 y a (upd q_s_64 (((nI 45) + v52) + x63).toNatClampNeg (q_letters_32 (x63).toNatClampNeg)) q_aside q_before_13 q_known_14 q_slots q_isSaved q_pad q_length q_letters_32 q_heats_33 q_reactions q_newSplits q_storiesThen q_heatThen q_place q_isWrong q_toldLetter q_toldHeat q_toldStory q_toldWords q_toldStories) rfl dX4_fuse_307 (fun H locs hG => ?_)
                        obtain ⟨q_s_68, eq_s_68, hf⟩ := nm_o hf
                        rw [← eq_s_68] at hG
                        refine lv_aload_n hx hb dX4_fuse_308 rfl (lv_at hl 0 rfl) ?_
                        refine w_get4 F hK hG k1 0 rfl 0 (by decide) k0 rfl dX4_fuse_309 ?_
                        refine lv_sipush (v := nI 195) hx hb dX4_fuse_312 rfl ?_
                        refine lv_iload hx hb dX4_fuse_315 (lv_at hl 4 rfl) ?_
                        refine lv_iadd hx hb dX4_fuse_317 ?_
                        refine lv_iload hx hb dX4_fuse_318 (lv_at hl 5 rfl) ?_
                        refine lv_iadd hx hb dX4_fuse_320 ?_
                        refine lv_aload_n hx hb dX4_fuse_321 rfl (lv_at hl 0 rfl) ?_
                        refine w_get4 F hK hG k1 0 rfl 9 (by decide) k3 rfl dX4_fuse_322 ?_
                        refine lv_iload hx hb dX4_fuse_325 (lv_at hl 5 rfl) ?_
                        obtain ⟨g69, hf⟩ := gd_e hf
                        refine w_iald F hK hG 8 rfl g69 dX4_fuse_327 ?_
                        obtain ⟨g70, hf⟩ := gd_e hf
                        refine w_iast F hK hG 1 rfl g70 (w_X4 y a (upd q_s_68 (((nI 195) + v52) + x63).toNatClampNeg (q_heats_33 (x63).toNatClampNeg)) q_aside q_before_13 q_known_14 q_slots q_isSaved q_pad q_length q_letters_32 q_heats_33 q_reactions q_newSplits q_storiesThen q_heatThen q_place q_isWrong q_toldLetter q_toldHeat q_toldStory q_toldWords q_toldStories) rfl dX4_fuse_328 (fun H locs hG => ?_)
                        obtain ⟨q_s_71, eq_s_71, hf⟩ := nm_o hf
                        rw [← eq_s_71] at hG
                        refine lv_iinc (v := x63 + (nI 1)) (lv' := [(7, .int (x63 + (nI 1))), (0, .ref (a 0)), (3, .int v17), (4, .int v39), (5, .int v48), (6, .int v52)]) hx hb dX4_fuse_329 hl (k := 5) rfl rfl (by decide) rfl (fun ls hl => ?_)
                        refine lv_goto (tgt := 282) hx hb dX4_fuse_332 (by decide) ?_
                        exact ih (x63 + (nI 1)) q_s_71 _ _ ls hf hG (lv_sub hl [1, 2, 3, 4, 5, 0] rfl)
                  exact hL282 Fu (nI 0) q_s_62 _ _ ls hf hG (lv_sub hl [1, 2, 3, 4, 5, 0] rfl)
                have hL220 : ∀ (fu : Nat) (x53 : Int32) (q_s_54 : Ar) (H : Heap) (locs : List Loc) (ls : Array Slot), f_X4_fuse_L220 Fu k_220 v17 v52 fu x53 q_s_54 = some (ro, q_s_o, q_before_o, q_known_o, q_letters_o, q_heats_o) → GG D A s.heap (w_X4 y a q_s_54 q_aside q_before_13 q_known_14 q_slots q_isSaved q_pad q_length q_letters_32 q_heats_33 q_reactions q_newSplits q_storiesThen q_heatThen q_place q_isWrong q_toldLetter q_toldHeat q_toldStory q_toldWords q_toldStories) H locs → lv_has ls 8 [(0, .ref (a 0)), (3, .int v17), (4, .int v39), (5, .int v48), (6, .int v52), (7, .int x53)] → W p l e (RM 3 70) s m args below meth c H locs 0 0 Q (F0 m 220 ls []) := by
                  intro fu
                  induction fu with
                  | zero => intro x53 q_s_54 H locs ls hf hG hl; exact no_e hf
                  | succ fu ih =>
                    intro x53 q_s_54 H locs ls hf hG hl
                    rw [f_X4_fuse_L220_s] at hf
                    refine lv_iload hx hb dX4_fuse_220 (lv_at hl 5 rfl) ?_
                    refine lv_iload hx hb dX4_fuse_222 (lv_at hl 4 rfl) ?_
                    refine lv_icmp_lt (tgt := 279) hx hb dX4_fuse_224 (by decide) (fun c55 => ?_) (fun c55 => ?_)
                    · have hf := it_e c55 hf
                      exact hk_220 q_s_54 _ _ ls hf hG (lv_sub hl [0, 1, 2, 3, 4] rfl)
                    · have hf := if_e c55 hf
                      refine lv_aload_n hx hb dX4_fuse_227 rfl (lv_at hl 0 rfl) ?_
                      refine w_get4 F hK hG k1 0 rfl 0 (by decide) k0 rfl dX4_fuse_228 ?_
                      refine lv_bipush (v := nI 45) hx hb dX4_fuse_231 rfl ?_
                      refine lv_iload hx hb dX4_fuse_233 (lv_at hl 5 rfl) ?_
                      refine lv_iadd hx hb dX4_fuse_235 ?_
                      refine lv_iload_n hx hb dX4_fuse_236 rfl (lv_at hl 1 rfl) ?_
                      refine lv_iadd hx hb dX4_fuse_237 ?_
                      refine lv_aload_n hx hb dX4_fuse_238 rfl (lv_at hl 0 rfl) ?_
                      refine w_get4 F hK hG k1 0 rfl 0 (by decide) k0 rfl dX4_fuse_239 ?_
                      refine lv_bipush (v := nI 45) hx hb dX4_fuse_242 rfl ?_
                      refine lv_iload hx hb dX4_fuse_244 (lv_at hl 5 rfl) ?_
                      refine lv_iadd hx hb dX4_fuse_246 ?_
                      obtain ⟨g56, hf⟩ := gd_e hf
                      refine w_iald F hK hG 1 rfl g56 dX4_fuse_247 ?_
                      obtain ⟨g57, hf⟩ := gd_e hf
                      refine w_iast F hK hG 1 rfl g57 (w_X4 y a (upd q_s_54 (((nI 45) + x53) + v17).toNatClampNeg (q_s_54 ((nI 45) + x53).toNatClampNeg)) q_aside q_before_13 q_known_14 q_slots q_isSaved q_pad q_length q_letters_32 q_heats_33 q_reactions q_newSplits q_storiesThen q_heatThen q_place q_isWrong q_toldLetter q_toldHeat q_toldStory q_toldWords q_toldStories) rfl dX4_fuse_248 (fun H locs hG => ?_)
                      obtain ⟨q_s_58, eq_s_58, hf⟩ := nm_o hf
                      rw [← eq_s_58] at hG
                      refine lv_aload_n hx hb dX4_fuse_249 rfl (lv_at hl 0 rfl) ?_
                      refine w_get4 F hK hG k1 0 rfl 0 (by decide) k0 rfl dX4_fuse_250 ?_
                      refine lv_sipush (v := nI 195) hx hb dX4_fuse_253 rfl ?_
                      refine lv_iload hx hb dX4_fuse_256 (lv_at hl 5 rfl) ?_
                      refine lv_iadd hx hb dX4_fuse_258 ?_
                      refine lv_iload_n hx hb dX4_fuse_259 rfl (lv_at hl 1 rfl) ?_
                      refine lv_iadd hx hb dX4_fuse_260 ?_
                      refine lv_aload_n hx hb dX4_fuse_261 rfl (lv_at hl 0 rfl) ?_
                      refine w_get4 F hK hG k1 0 rfl 0 (by decide) k0 rfl dX4_fuse_262 ?_
                      refine lv_sipush (v := nI 195) hx hb dX4_fuse_265 rfl ?_
                      refine lv_iload hx hb dX4_fuse_268 (lv_at hl 5 rfl) ?_
                      refine lv_iadd hx hb dX4_fuse_270 ?_
                      obtain ⟨g59, hf⟩ := gd_e hf
                      refine w_iald F hK hG 1 rfl g59 dX4_fuse_271 ?_
                      obtain ⟨g60, hf⟩ := gd_e hf
                      refine w_iast F hK hG 1 rfl g60 (w_X4 y a (upd q_s_58 (((nI 195) + x53) + v17).toNatClampNeg (q_s_58 ((nI 195) + x53).toNatClampNeg)) q_aside q_before_13 q_known_14 q_slots q_isSaved q_pad q_length q_letters_32 q_heats_33 q_reactions q_newSplits q_storiesThen q_heatThen q_place q_isWrong q_toldLetter q_toldHeat q_toldStory q_toldWords q_toldStories) rfl dX4_fuse_272 (fun H locs hG => ?_)
                      obtain ⟨q_s_61, eq_s_61, hf⟩ := nm_o hf
                      rw [← eq_s_61] at hG
                      refine lv_iinc (v := x53 + (-1)) (lv' := [(7, .int (x53 + (-1))), (0, .ref (a 0)), (3, .int v17), (4, .int v39), (5, .int v48), (6, .int v52)]) hx hb dX4_fuse_273 hl (k := 5) rfl rfl (by decide) rfl (fun ls hl => ?_)
                      refine lv_goto (tgt := 220) hx hb dX4_fuse_276 (by decide) ?_
                      exact ih (x53 + (-1)) q_s_61 _ _ ls hf hG (lv_sub hl [1, 2, 3, 4, 5, 0] rfl)
                exact hL220 Fu ((q_s_45 4) - (nI 1)) q_s_45 _ _ ls hf hG (lv_sub hl [3, 4, 5, 2, 1, 0] rfl)
              refine lv_icmp_ge (tgt := 188) hx hb dX4_fuse_179 (by decide) (fun c47 => ?_) (fun c47 => ?_)
              · refine lv_iload_n hx hb dX4_fuse_188 rfl (lv_at hl 2 rfl) ?_
                have qv48 := (ev48.trans (if_pos c47))
                subst qv48
                exact hJ ls (lv_sub hl [1, 4, 0] rfl)
              · refine lv_iload_n hx hb dX4_fuse_182 rfl (lv_at hl 2 rfl) ?_
                refine lv_iconst (v := nI 1) hx hb dX4_fuse_183 rfl ?_
                refine lv_isub hx hb dX4_fuse_184 ?_
                refine lv_goto (tgt := 189) hx hb dX4_fuse_185 (by decide) ?_
                have qv48 := (ev48.trans (if_neg c47))
                subst qv48
                exact hJ ls (lv_sub hl [1, 4, 0] rfl)
            refine lv_icmp_le (tgt := 151) hx hb dX4_fuse_136 (by decide) (fun c36 => ?_) (fun c36 => ?_)
            · have hf := it_e c36 hf
              refine lv_aload_n hx hb dX4_fuse_151 rfl (lv_at hl 0 rfl) ?_
              refine w_get4 F hK hG k1 0 rfl 0 (by decide) k0 rfl dX4_fuse_152 ?_
              refine lv_bipush (v := nI 33) hx hb dX4_fuse_155 rfl ?_
              refine lv_iload_n hx hb dX4_fuse_157 rfl (lv_at hl 2 rfl) ?_
              refine lv_iadd hx hb dX4_fuse_158 ?_
              obtain ⟨g37, hf⟩ := gd_e hf
              refine w_iald F hK hG 1 rfl g37 dX4_fuse_159 ?_
              exact hj40 (q_s ((nI 33) + p2).toNatClampNeg) _ _ ls hf hG (lv_sub hl [0, 1, 2, 3] rfl)
            · have hf := if_e c36 hf
              refine lv_aload_n hx hb dX4_fuse_139 rfl (lv_at hl 0 rfl) ?_
              refine w_get4 F hK hG k1 0 rfl 0 (by decide) k0 rfl dX4_fuse_140 ?_
              refine lv_bipush (v := nI 33) hx hb dX4_fuse_143 rfl ?_
              refine lv_iload_n hx hb dX4_fuse_145 rfl (lv_at hl 1 rfl) ?_
              refine lv_iadd hx hb dX4_fuse_146 ?_
              obtain ⟨g38, hf⟩ := gd_e hf
              refine w_iald F hK hG 1 rfl g38 dX4_fuse_147 ?_
              refine lv_goto (tgt := 160) hx hb dX4_fuse_148 (by decide) ?_
              exact hj40 (q_s ((nI 33) + p1).toNatClampNeg) _ _ ls hf hG (lv_sub hl [0, 1, 2, 3] rfl)
          have hL59 : ∀ (fu : Nat) (x18 : Int32) (q_letters_19 : Ar) (q_heats_20 : Ar) (H : Heap) (locs : List Loc) (ls : Array Slot), f_X4_fuse_L59 Fu k_59 q_s p2 v17 fu x18 q_letters_19 q_heats_20 = some (ro, q_s_o, q_before_o, q_known_o, q_letters_o, q_heats_o) → GG D A s.heap (w_X4 y a q_s q_aside q_before_13 q_known_14 q_slots q_isSaved q_pad q_length q_letters_19 q_heats_20 q_reactions q_newSplits q_storiesThen q_heatThen q_place q_isWrong q_toldLetter q_toldHeat q_toldStory q_toldWords q_toldStories) H locs → lv_has ls 8 [(0, .ref (a 0)), (1, .int p1), (2, .int p2), (3, .int v17), (4, .int x18)] → W p l e (RM 3 70) s m args below meth c H locs 0 0 Q (F0 m 59 ls []) := by
            intro fu
            induction fu with
            | zero => intro x18 q_letters_19 q_heats_20 H locs ls hf hG hl; exact no_e hf
            | succ fu ih =>
              intro x18 q_letters_19 q_heats_20 H locs ls hf hG hl
              rw [f_X4_fuse_L59_s] at hf
              refine lv_iload hx hb dX4_fuse_59 (lv_at hl 4 rfl) ?_
              refine lv_iload_n hx hb dX4_fuse_61 rfl (lv_at hl 3 rfl) ?_
              refine lv_icmp_ge (tgt := 118) hx hb dX4_fuse_62 (by decide) (fun c21 => ?_) (fun c21 => ?_)
              · have hf := it_e c21 hf
                exact hk_59 q_letters_19 q_heats_20 _ _ ls hf hG (lv_sub hl [0, 1, 2, 3] rfl)
              · have hf := if_e c21 hf
                refine lv_aload_n hx hb dX4_fuse_65 rfl (lv_at hl 0 rfl) ?_
                refine w_get4 F hK hG k1 0 rfl 8 (by decide) k2 rfl dX4_fuse_66 ?_
                refine lv_iload hx hb dX4_fuse_69 (lv_at hl 4 rfl) ?_
                refine lv_aload_n hx hb dX4_fuse_71 rfl (lv_at hl 0 rfl) ?_
                refine w_get4 F hK hG k1 0 rfl 0 (by decide) k0 rfl dX4_fuse_72 ?_
                refine lv_bipush (v := nI 45) hx hb dX4_fuse_75 rfl ?_
                refine lv_aload_n hx hb dX4_fuse_77 rfl (lv_at hl 0 rfl) ?_
                refine lv_iload_n hx hb dX4_fuse_78 rfl (lv_at hl 2 rfl) ?_
                obtain ⟨r22, h23, hf⟩ := bd1_e hf
                refine k_Wi F hK hA hG (c_X4_first l D y a H.size Fu q_s q_aside q_before_13 q_known_14 q_slots q_isSaved q_pad q_length q_letters_19 q_heats_20 q_reactions q_newSplits q_storiesThen q_heatThen q_place q_isWrong q_toldLetter q_toldHeat q_toldStory q_toldWords q_toldStories p2 r22 h23) (cwV 1 F.2.2.2.2 gX4_fuse_X4_first rfl rfl rfl (by decide +kernel) ⟨Nat.le_of_ble_eq_true rfl, Nat.le_of_ble_eq_true rfl⟩) 0 rfl rfl rfl rfl rfl hl.1 (Nat.le_of_ble_eq_true rfl) dX4_fuse_79 ⟨Nat.le_refl 0, Nat.le_refl 0⟩ (fun H locs hG => ?_)
                refine lv_iadd hx hb dX4_fuse_82 ?_
                refine lv_iload hx hb dX4_fuse_83 (lv_at hl 4 rfl) ?_
                refine lv_iadd hx hb dX4_fuse_85 ?_
                obtain ⟨g24, hf⟩ := gd_e hf
                refine w_iald F hK hG 1 rfl g24 dX4_fuse_86 ?_
                obtain ⟨g25, hf⟩ := gd_e hf
                refine w_iast F hK hG 7 rfl g25 (w_X4 y a q_s q_aside q_before_13 q_known_14 q_slots q_isSaved q_pad q_length (upd q_letters_19 (x18).toNatClampNeg (q_s (((nI 45) + r22) + x18).toNatClampNeg)) q_heats_20 q_reactions q_newSplits q_storiesThen q_heatThen q_place q_isWrong q_toldLetter q_toldHeat q_toldStory q_toldWords q_toldStories) rfl dX4_fuse_87 (fun H locs hG => ?_)
                obtain ⟨q_letters_26, eq_letters_26, hf⟩ := nm_o hf
                rw [← eq_letters_26] at hG
                refine lv_aload_n hx hb dX4_fuse_88 rfl (lv_at hl 0 rfl) ?_
                refine w_get4 F hK hG k1 0 rfl 9 (by decide) k3 rfl dX4_fuse_89 ?_
                refine lv_iload hx hb dX4_fuse_92 (lv_at hl 4 rfl) ?_
                refine lv_aload_n hx hb dX4_fuse_94 rfl (lv_at hl 0 rfl) ?_
                refine w_get4 F hK hG k1 0 rfl 0 (by decide) k0 rfl dX4_fuse_95 ?_
                refine lv_sipush (v := nI 195) hx hb dX4_fuse_98 rfl ?_
                refine lv_aload_n hx hb dX4_fuse_101 rfl (lv_at hl 0 rfl) ?_
                refine lv_iload_n hx hb dX4_fuse_102 rfl (lv_at hl 2 rfl) ?_
                obtain ⟨r27, h28, hf⟩ := bd1_e hf
                refine k_Wi F hK hA hG (c_X4_first l D y a H.size Fu q_s q_aside q_before_13 q_known_14 q_slots q_isSaved q_pad q_length q_letters_26 q_heats_20 q_reactions q_newSplits q_storiesThen q_heatThen q_place q_isWrong q_toldLetter q_toldHeat q_toldStory q_toldWords q_toldStories p2 r27 h28) (cwV 1 F.2.2.2.2 gX4_fuse_X4_first rfl rfl rfl (by decide +kernel) ⟨Nat.le_of_ble_eq_true rfl, Nat.le_of_ble_eq_true rfl⟩) 0 rfl rfl rfl rfl rfl hl.1 (Nat.le_of_ble_eq_true rfl) dX4_fuse_103 ⟨Nat.le_refl 0, Nat.le_refl 0⟩ (fun H locs hG => ?_)
                refine lv_iadd hx hb dX4_fuse_106 ?_
                refine lv_iload hx hb dX4_fuse_107 (lv_at hl 4 rfl) ?_
                refine lv_iadd hx hb dX4_fuse_109 ?_
                obtain ⟨g29, hf⟩ := gd_e hf
                refine w_iald F hK hG 1 rfl g29 dX4_fuse_110 ?_
                obtain ⟨g30, hf⟩ := gd_e hf
                refine w_iast F hK hG 8 rfl g30 (w_X4 y a q_s q_aside q_before_13 q_known_14 q_slots q_isSaved q_pad q_length q_letters_26 (upd q_heats_20 (x18).toNatClampNeg (q_s (((nI 195) + r27) + x18).toNatClampNeg)) q_reactions q_newSplits q_storiesThen q_heatThen q_place q_isWrong q_toldLetter q_toldHeat q_toldStory q_toldWords q_toldStories) rfl dX4_fuse_111 (fun H locs hG => ?_)
                obtain ⟨q_heats_31, eq_heats_31, hf⟩ := nm_o hf
                rw [← eq_heats_31] at hG
                refine lv_iinc (v := x18 + (nI 1)) (lv' := [(4, .int (x18 + (nI 1))), (0, .ref (a 0)), (1, .int p1), (2, .int p2), (3, .int v17)]) hx hb dX4_fuse_112 hl (k := 4) rfl rfl (by decide) rfl (fun ls hl => ?_)
                refine lv_goto (tgt := 59) hx hb dX4_fuse_115 (by decide) ?_
                exact ih (x18 + (nI 1)) q_letters_26 q_heats_31 _ _ ls hf hG (lv_sub hl [1, 2, 3, 4, 0] rfl)
          exact hL59 Fu (nI 0) q_letters q_heats _ _ ls hf hG (lv_sub hl [2, 3, 4, 1, 0] rfl)
        · have hf := if_e c12 hf
          refine lv_bipush (v := -5) hx hb dX4_fuse_39 rfl ?_
          have hf := so_e hf
          have e0 : (-5) = ro := congrArg (fun z => z.1) hf
          have e1 : q_s = q_s_o := congrArg (fun z => z.2.1) hf
          have e2 : q_before = q_before_o := congrArg (fun z => z.2.2.1) hf
          have e3 : q_known = q_known_o := congrArg (fun z => z.2.2.2.1) hf
          have e4 : q_letters = q_letters_o := congrArg (fun z => z.2.2.2.2.1) hf
          have e5 : q_heats = q_heats_o := congrArg (fun z => z.2.2.2.2.2) hf
          exact hret _ _ _ _ _ e0 (by rw [← e1, ← e2, ← e3, ← e4, ← e5]; exact hG) dX4_fuse_41
      · have hf := it_e c7 hf
        refine lv_bipush (v := -2) hx hb dX4_fuse_23 rfl ?_
        have hf := so_e hf
        have e0 : (-2) = ro := congrArg (fun z => z.1) hf
        have e1 : q_s = q_s_o := congrArg (fun z => z.2.1) hf
        have e2 : q_before = q_before_o := congrArg (fun z => z.2.2.1) hf
        have e3 : q_known = q_known_o := congrArg (fun z => z.2.2.2.1) hf
        have e4 : q_letters = q_letters_o := congrArg (fun z => z.2.2.2.2.1) hf
        have e5 : q_heats = q_heats_o := congrArg (fun z => z.2.2.2.2.2) hf
        exact hret _ _ _ _ _ e0 (by rw [← e1, ← e2, ← e3, ← e4, ← e5]; exact hG) dX4_fuse_25
    · have hf := it_e c6 hf
      refine lv_iconst (v := -1) hx hb dX4_fuse_16 rfl ?_
      have hf := so_e hf
      have e0 : (-1) = ro := congrArg (fun z => z.1) hf
      have e1 : q_s = q_s_o := congrArg (fun z => z.2.1) hf
      have e2 : q_before = q_before_o := congrArg (fun z => z.2.2.1) hf
      have e3 : q_known = q_known_o := congrArg (fun z => z.2.2.2.1) hf
      have e4 : q_letters = q_letters_o := congrArg (fun z => z.2.2.2.2.1) hf
      have e5 : q_heats = q_heats_o := congrArg (fun z => z.2.2.2.2.2) hf
      exact hret _ _ _ _ _ e0 (by rw [← e1, ← e2, ← e3, ← e4, ← e5]; exact hG) dX4_fuse_17
