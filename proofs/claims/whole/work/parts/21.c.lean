set_option maxHeartbeats 1000000 in
set_option maxRecDepth 100000 in
theorem c_X4_pass (l : Launch) (D : va_G) (y : Nat → ClassId) (a : Nat → Nat) (sz : Nat) (Fu : Nat) (q_s : Ar) (q_aside : Ar) (q_before : Ar) (q_known : Int32) (q_slots : Ar) (q_isSaved : Ar) (q_pad : Ar) (q_length : Int32) (q_letters : Ar) (q_heats : Ar) (q_reactions : Int32) (q_newSplits : Int32) (q_storiesThen : Int32) (q_heatThen : Int32) (q_place : Int32) (q_isWrong : Int32) (q_toldLetter : Ar) (q_toldHeat : Ar) (q_toldStory : Ar) (q_toldWords : Int32) (q_toldStories : Int32) (p1 : Int32) (ro : Int32) (q_s_o : Ar) (q_before_o : Ar) (q_known_o : Int32) (hf : f_X4_pass Fu q_s q_before q_known p1 = some (ro, q_s_o, q_before_o, q_known_o)) : MI l yX4_pass wsX4_pass 1 22 [.ref (a 0), .int p1] D y (w_X4 y a q_s q_aside q_before q_known q_slots q_isSaved q_pad q_length q_letters q_heats q_reactions q_newSplits q_storiesThen q_heatThen q_place q_isWrong q_toldLetter q_toldHeat q_toldStory q_toldWords q_toldStories) sz ro (w_X4 y a q_s_o q_aside q_before_o q_known_o q_slots q_isSaved q_pad q_length q_letters q_heats q_reactions q_newSplits q_storiesThen q_heatThen q_place q_isWrong q_toldLetter q_toldHeat q_toldStory q_toldWords q_toldStories) := by
  refine M_i (cc := cX4_pass) (maxL := 4) (own := RX4) (by decide) rfl rfl (Nat.le_of_ble_eq_true rfl) ?_
  intro p e s m args below meth c A Q F hK hA H locs hG hret ls hl
  have hx := F.1
  have hb := F.2.1
  have hl : lv_has ls 4 [(0, .ref (a 0)), (1, .int p1)] := hl
  have k0 := F.2.2.2.2 (.fieldLink RX4 7 "HeatedStoriesModel" "s" "[I") (List.mem_of_getElem? (i := 1) rfl)
  have k1 : ∀ w ∈ wsX40, w ∈ wsX4_pass := (fun w h => List.mem_cons_of_mem _ (List.mem_append_right _ (h)))
  unfold f_X4_pass at hf
  refine lv_iload_n hx hb dX4_pass_0 rfl (lv_at hl 1 rfl) ?_
  refine lv_iconst (v := nI 1) hx hb dX4_pass_1 rfl ?_
  refine lv_bipush (v := nI 30) hx hb dX4_pass_2 rfl ?_
  obtain ⟨r1, h2, hf⟩ := bd1_e hf
  refine k_Si F hK hA hG (c_X4_in l D y  H.size Fu  p1 (nI 1) (nI 30) r1 h2) (va_cwS 3 F.2.2.2.2 gX4_pass_X4_in rfl rfl rfl (by decide +kernel) ⟨Nat.le_of_ble_eq_true rfl, Nat.le_of_ble_eq_true rfl⟩) rfl rfl hl.1 (Nat.le_of_ble_eq_true rfl) dX4_pass_4 ⟨Nat.le_refl 0, Nat.le_refl 0⟩ (fun H locs hG => ?_)
  refine lv_if_ne (tgt := 13) hx hb dX4_pass_7 (by decide) (fun c3 => ?_) (fun c3 => ?_)
  · have hf := if_e c3 hf
    refine lv_aload_n hx hb dX4_pass_13 rfl (lv_at hl 0 rfl) ?_
    obtain ⟨q_before_4, q_known_5, h6, hf⟩ := bd2_e hf
    refine k_Wv F hK hA hG (c_X4_know l D y a H.size Fu q_s q_aside q_before q_known q_slots q_isSaved q_pad q_length q_letters q_heats q_reactions q_newSplits q_storiesThen q_heatThen q_place q_isWrong q_toldLetter q_toldHeat q_toldStory q_toldWords q_toldStories q_before_4 q_known_5 h6) (cwV 0 F.2.2.2.2 gX4_pass_X4_know rfl rfl rfl (by decide +kernel) ⟨Nat.le_of_ble_eq_true rfl, Nat.le_of_ble_eq_true rfl⟩) 0 rfl rfl rfl rfl rfl hl.1 (Nat.le_of_ble_eq_true rfl) dX4_pass_14 ⟨Nat.le_refl 0, Nat.le_refl 0⟩ (fun H locs hG => ?_)
    refine lv_iload_n hx hb dX4_pass_17 rfl (lv_at hl 1 rfl) ?_
    refine lv_aload_n hx hb dX4_pass_18 rfl (lv_at hl 0 rfl) ?_
    refine w_get4 F hK hG k1 0 rfl 0 (by decide) k0 rfl dX4_pass_19 ?_
    refine lv_iconst (v := nI 2) hx hb dX4_pass_22 rfl ?_
    refine w_ialdk F hK hG 1 rfl (Nat.le_of_ble_eq_true rfl) (Nat.le_of_ble_eq_true rfl) dX4_pass_23 ?_
    refine lv_imul hx hb dX4_pass_24 ?_
    refine lv_istore_n (lv' := [(2, .int (p1 * (q_s 2))), (0, .ref (a 0)), (1, .int p1)]) hx hb dX4_pass_25 rfl hl (by decide) rfl (fun ls hl => ?_)
    refine lv_iconst (v := nI 0) hx hb dX4_pass_26 rfl ?_
    refine lv_istore_n (lv' := [(3, .int (nI 0)), (2, .int (p1 * (q_s 2))), (0, .ref (a 0)), (1, .int p1)]) hx hb dX4_pass_27 rfl hl (by decide) rfl (fun ls hl => ?_)
    obtain ⟨k_28, ek_28, hf⟩ := jn_e hf
    have hk_28 : ∀ (q_s_18 : Ar) (H : Heap) (locs : List Loc) (ls : Array Slot), k_28 q_s_18 = some (ro, q_s_o, q_before_o, q_known_o) → GG D A s.heap (w_X4 y a q_s_18 q_aside q_before_4 q_known_5 q_slots q_isSaved q_pad q_length q_letters q_heats q_reactions q_newSplits q_storiesThen q_heatThen q_place q_isWrong q_toldLetter q_toldHeat q_toldStory q_toldWords q_toldStories) H locs → lv_has ls 4 [(0, .ref (a 0))] → W p l e (RM 1 22) s m args below meth c H locs 0 0 Q (F0 m 85 ls []) := by
      intro q_s_18 H locs ls hf hG hl
      rw [ek_28] at hf
      refine lv_aload_n hx hb dX4_pass_85 rfl (lv_at hl 0 rfl) ?_
      obtain ⟨r19, h20, hf⟩ := bd1_e hf
      refine k_Wi F hK hA hG (c_X4_allHeat l D y a H.size Fu q_s_18 q_aside q_before_4 q_known_5 q_slots q_isSaved q_pad q_length q_letters q_heats q_reactions q_newSplits q_storiesThen q_heatThen q_place q_isWrong q_toldLetter q_toldHeat q_toldStory q_toldWords q_toldStories r19 h20) (cwV 0 F.2.2.2.2 gX4_pass_X4_allHeat rfl rfl rfl (by decide +kernel) ⟨Nat.le_of_ble_eq_true rfl, Nat.le_of_ble_eq_true rfl⟩) 0 rfl rfl rfl rfl rfl hl.1 (Nat.le_of_ble_eq_true rfl) dX4_pass_86 ⟨Nat.le_refl 0, Nat.le_refl 0⟩ (fun H locs hG => ?_)
      have hf := so_e hf
      have e0 : r19 = ro := congrArg (fun z => z.1) hf
      have e1 : q_s_18 = q_s_o := congrArg (fun z => z.2.1) hf
      have e2 : q_before_4 = q_before_o := congrArg (fun z => z.2.2.1) hf
      have e3 : q_known_5 = q_known_o := congrArg (fun z => z.2.2.2) hf
      exact hret _ _ _ _ _ e0 (by rw [← e1, ← e2, ← e3]; exact hG) dX4_pass_89
    have hL28 : ∀ (fu : Nat) (x7 : Int32) (q_s_8 : Ar) (H : Heap) (locs : List Loc) (ls : Array Slot), f_X4_pass_L28 Fu k_28 q_s p1 fu x7 q_s_8 = some (ro, q_s_o, q_before_o, q_known_o) → GG D A s.heap (w_X4 y a q_s_8 q_aside q_before_4 q_known_5 q_slots q_isSaved q_pad q_length q_letters q_heats q_reactions q_newSplits q_storiesThen q_heatThen q_place q_isWrong q_toldLetter q_toldHeat q_toldStory q_toldWords q_toldStories) H locs → lv_has ls 4 [(0, .ref (a 0)), (2, .int (p1 * (q_s 2))), (3, .int x7)] → W p l e (RM 1 22) s m args below meth c H locs 0 0 Q (F0 m 28 ls []) := by
      intro fu
      induction fu with
      | zero => intro x7 q_s_8 H locs ls hf hG hl; exact no_e hf
      | succ fu ih =>
        intro x7 q_s_8 H locs ls hf hG hl
        rw [f_X4_pass_L28_s] at hf
        refine lv_iload_n hx hb dX4_pass_28 rfl (lv_at hl 2 rfl) ?_
        refine lv_aload_n hx hb dX4_pass_29 rfl (lv_at hl 0 rfl) ?_
        refine w_get4 F hK hG k1 0 rfl 0 (by decide) k0 rfl dX4_pass_30 ?_
        refine lv_iconst (v := nI 4) hx hb dX4_pass_33 rfl ?_
        refine w_ialdk F hK hG 1 rfl (Nat.le_of_ble_eq_true rfl) (Nat.le_of_ble_eq_true rfl) dX4_pass_34 ?_
        refine lv_icmp_ge (tgt := 85) hx hb dX4_pass_35 (by decide) (fun c9 => ?_) (fun c9 => ?_)
        · have hf := it_e c9 hf
          exact hk_28 q_s_8 _ _ ls hf hG (lv_sub hl [0] rfl)
        · have hf := if_e c9 hf
          refine lv_aload_n hx hb dX4_pass_38 rfl (lv_at hl 0 rfl) ?_
          refine w_get4 F hK hG k1 0 rfl 0 (by decide) k0 rfl dX4_pass_39 ?_
          refine lv_sipush (v := nI 195) hx hb dX4_pass_42 rfl ?_
          refine lv_iload_n hx hb dX4_pass_45 rfl (lv_at hl 2 rfl) ?_
          refine lv_iadd hx hb dX4_pass_46 ?_
          refine lv_dup2_11 hx hb dX4_pass_47 rfl rfl ?_
          obtain ⟨g10, hf⟩ := gd_e hf
          refine w_iald F hK hG 1 rfl g10 dX4_pass_48 ?_
          refine lv_iload_n hx hb dX4_pass_49 rfl (lv_at hl 1 rfl) ?_
          refine lv_aload_n hx hb dX4_pass_50 rfl (lv_at hl 0 rfl) ?_
          refine w_get4 F hK hG k1 0 rfl 0 (by decide) k0 rfl dX4_pass_51 ?_
          refine lv_sipush (v := nI 195) hx hb dX4_pass_54 rfl ?_
          refine lv_iload_n hx hb dX4_pass_57 rfl (lv_at hl 2 rfl) ?_
          refine lv_iadd hx hb dX4_pass_58 ?_
          obtain ⟨g11, hf⟩ := gd_e hf
          refine w_iald F hK hG 1 rfl g11 dX4_pass_59 ?_
          obtain ⟨j15, ej15, hf⟩ := jn_e hf
          have hj15 : ∀ (v14 : Int32) (H : Heap) (locs : List Loc) (ls : Array Slot), j15 v14 = some (ro, q_s_o, q_before_o, q_known_o) → GG D A s.heap (w_X4 y a q_s_8 q_aside q_before_4 q_known_5 q_slots q_isSaved q_pad q_length q_letters q_heats q_reactions q_newSplits q_storiesThen q_heatThen q_place q_isWrong q_toldLetter q_toldHeat q_toldStory q_toldWords q_toldStories) H locs → lv_has ls 4 [(0, .ref (a 0)), (2, .int (p1 * (q_s 2))), (3, .int x7)] → W p l e (RM 1 22) s m args below meth c H locs 0 0 Q (F0 m 77 ls [.int v14, .int (q_s_8 ((nI 195) + x7).toNatClampNeg), .int ((nI 195) + x7), .ref (a 1)]) := by
            intro v14 H locs ls hf hG hl
            rw [ej15] at hf
            refine lv_isub hx hb dX4_pass_77 ?_
            obtain ⟨g16, hf⟩ := gd_e hf
            refine w_iast F hK hG 1 rfl g16 (w_X4 y a (upd q_s_8 ((nI 195) + x7).toNatClampNeg ((q_s_8 ((nI 195) + x7).toNatClampNeg) - v14)) q_aside q_before_4 q_known_5 q_slots q_isSaved q_pad q_length q_letters q_heats q_reactions q_newSplits q_storiesThen q_heatThen q_place q_isWrong q_toldLetter q_toldHeat q_toldStory q_toldWords q_toldStories) rfl dX4_pass_78 (fun H locs hG => ?_)
            obtain ⟨q_s_17, eq_s_17, hf⟩ := nm_o hf
            rw [← eq_s_17] at hG
            refine lv_iinc (v := x7 + (nI 1)) (lv' := [(3, .int (x7 + (nI 1))), (0, .ref (a 0)), (2, .int (p1 * (q_s 2)))]) hx hb dX4_pass_79 hl (k := 2) rfl rfl (by decide) rfl (fun ls hl => ?_)
            refine lv_goto (tgt := 28) hx hb dX4_pass_82 (by decide) ?_
            exact ih (x7 + (nI 1)) q_s_17 _ _ ls hf hG (lv_sub hl [1, 2, 0] rfl)
          refine lv_icmp_ge (tgt := 67) hx hb dX4_pass_60 (by decide) (fun c12 => ?_) (fun c12 => ?_)
          · have hf := it_e c12 hf
            refine lv_aload_n hx hb dX4_pass_67 rfl (lv_at hl 0 rfl) ?_
            refine w_get4 F hK hG k1 0 rfl 0 (by decide) k0 rfl dX4_pass_68 ?_
            refine lv_sipush (v := nI 195) hx hb dX4_pass_71 rfl ?_
            refine lv_iload_n hx hb dX4_pass_74 rfl (lv_at hl 2 rfl) ?_
            refine lv_iadd hx hb dX4_pass_75 ?_
            obtain ⟨g13, hf⟩ := gd_e hf
            refine w_iald F hK hG 1 rfl g13 dX4_pass_76 ?_
            exact hj15 (q_s_8 ((nI 195) + x7).toNatClampNeg) _ _ ls hf hG (lv_sub hl [0, 1, 2] rfl)
          · have hf := if_e c12 hf
            refine lv_iload_n hx hb dX4_pass_63 rfl (lv_at hl 1 rfl) ?_
            refine lv_goto (tgt := 77) hx hb dX4_pass_64 (by decide) ?_
            exact hj15 (p1 * (q_s 2)) _ _ ls hf hG (lv_sub hl [0, 1, 2] rfl)
    exact hL28 Fu (nI 0) q_s _ _ ls hf hG (lv_sub hl [2, 1, 0] rfl)
  · have hf := it_e c3 hf
    refine lv_bipush (v := -2) hx hb dX4_pass_10 rfl ?_
    have hf := so_e hf
    have e0 : (-2) = ro := congrArg (fun z => z.1) hf
    have e1 : q_s = q_s_o := congrArg (fun z => z.2.1) hf
    have e2 : q_before = q_before_o := congrArg (fun z => z.2.2.1) hf
    have e3 : q_known = q_known_o := congrArg (fun z => z.2.2.2) hf
    exact hret _ _ _ _ _ e0 (by rw [← e1, ← e2, ← e3]; exact hG) dX4_pass_12
set_option maxHeartbeats 1000000 in
set_option maxRecDepth 100000 in
theorem c_X4_burn (l : Launch) (D : va_G) (y : Nat → ClassId) (a : Nat → Nat) (sz : Nat) (Fu : Nat) (q_s : Ar) (q_aside : Ar) (q_before : Ar) (q_known : Int32) (q_slots : Ar) (q_isSaved : Ar) (q_pad : Ar) (q_length : Int32) (q_letters : Ar) (q_heats : Ar) (q_reactions : Int32) (q_newSplits : Int32) (q_storiesThen : Int32) (q_heatThen : Int32) (q_place : Int32) (q_isWrong : Int32) (q_toldLetter : Ar) (q_toldHeat : Ar) (q_toldStory : Ar) (q_toldWords : Int32) (q_toldStories : Int32) (p1 : Int32) (ro : Int32) (q_s_o : Ar) (q_before_o : Ar) (q_known_o : Int32) (hf : f_X4_burn Fu q_s q_before q_known p1 = some (ro, q_s_o, q_before_o, q_known_o)) : MI l yX4_burn wsX4_burn 2 43 [.ref (a 0), .int p1] D y (w_X4 y a q_s q_aside q_before q_known q_slots q_isSaved q_pad q_length q_letters q_heats q_reactions q_newSplits q_storiesThen q_heatThen q_place q_isWrong q_toldLetter q_toldHeat q_toldStory q_toldWords q_toldStories) sz ro (w_X4 y a q_s_o q_aside q_before_o q_known_o q_slots q_isSaved q_pad q_length q_letters q_heats q_reactions q_newSplits q_storiesThen q_heatThen q_place q_isWrong q_toldLetter q_toldHeat q_toldStory q_toldWords q_toldStories) := by
  refine M_i (cc := cX4_burn) (maxL := 3) (own := RX4) (by decide) rfl rfl (Nat.le_of_ble_eq_true rfl) ?_
  intro p e s m args below meth c A Q F hK hA H locs hG hret ls hl
  have hx := F.1
  have hb := F.2.1
  have hl : lv_has ls 3 [(0, .ref (a 0)), (1, .int p1)] := hl
  have k0 := F.2.2.2.2 (.fieldLink RX4 7 "HeatedStoriesModel" "s" "[I") (List.mem_of_getElem? (i := 1) rfl)
  have k1 : ∀ w ∈ wsX40, w ∈ wsX4_burn := (fun w h => List.mem_cons_of_mem _ (List.mem_append_right _ (h)))
  unfold f_X4_burn at hf
  refine lv_aload_n hx hb dX4_burn_0 rfl (lv_at hl 0 rfl) ?_
  refine lv_iload_n hx hb dX4_burn_1 rfl (lv_at hl 1 rfl) ?_
  obtain ⟨r1, h2, hf⟩ := bd1_e hf
  refine k_Wi F hK hA hG (c_X4_isStory l D y a H.size Fu q_s q_aside q_before q_known q_slots q_isSaved q_pad q_length q_letters q_heats q_reactions q_newSplits q_storiesThen q_heatThen q_place q_isWrong q_toldLetter q_toldHeat q_toldStory q_toldWords q_toldStories p1 r1 h2) (cwV 1 F.2.2.2.2 gX4_burn_X4_isStory rfl rfl rfl (by decide +kernel) ⟨Nat.le_of_ble_eq_true rfl, Nat.le_of_ble_eq_true rfl⟩) 0 rfl rfl rfl rfl rfl hl.1 (Nat.le_of_ble_eq_true rfl) dX4_burn_2 ⟨Nat.le_refl 0, Nat.le_refl 0⟩ (fun H locs hG => ?_)
  refine lv_if_ne (tgt := 10) hx hb dX4_burn_5 (by decide) (fun c3 => ?_) (fun c3 => ?_)
  · have hf := if_e c3 hf
    refine lv_aload_n hx hb dX4_burn_10 rfl (lv_at hl 0 rfl) ?_
    obtain ⟨q_before_4, q_known_5, h6, hf⟩ := bd2_e hf
    refine k_Wv F hK hA hG (c_X4_know l D y a H.size Fu q_s q_aside q_before q_known q_slots q_isSaved q_pad q_length q_letters q_heats q_reactions q_newSplits q_storiesThen q_heatThen q_place q_isWrong q_toldLetter q_toldHeat q_toldStory q_toldWords q_toldStories q_before_4 q_known_5 h6) (cwV 0 F.2.2.2.2 gX4_burn_X4_know rfl rfl rfl (by decide +kernel) ⟨Nat.le_of_ble_eq_true rfl, Nat.le_of_ble_eq_true rfl⟩) 0 rfl rfl rfl rfl rfl hl.1 (Nat.le_of_ble_eq_true rfl) dX4_burn_11 ⟨Nat.le_refl 0, Nat.le_refl 0⟩ (fun H locs hG => ?_)
    refine lv_aload_n hx hb dX4_burn_14 rfl (lv_at hl 0 rfl) ?_
    refine w_get4 F hK hG k1 0 rfl 0 (by decide) k0 rfl dX4_burn_15 ?_
    refine lv_bipush (v := nI 9) hx hb dX4_burn_18 rfl ?_
    refine lv_iload_n hx hb dX4_burn_20 rfl (lv_at hl 1 rfl) ?_
    refine lv_iadd hx hb dX4_burn_21 ?_
    obtain ⟨g7, hf⟩ := gd_e hf
    refine w_iald F hK hG 1 rfl g7 dX4_burn_22 ?_
    obtain ⟨v8, ev8, hf⟩ := nm_o hf
    refine w_nm ev8 ?_
    refine lv_istore_n (lv' := [(2, .int v8), (0, .ref (a 0)), (1, .int p1)]) hx hb dX4_burn_23 rfl hl (by decide) rfl (fun ls hl => ?_)
    refine lv_aload_n hx hb dX4_burn_24 rfl (lv_at hl 1 rfl) ?_
    refine lv_aload_n hx hb dX4_burn_25 rfl (lv_at hl 1 rfl) ?_
    refine lv_iload_n hx hb dX4_burn_26 rfl (lv_at hl 2 rfl) ?_
    obtain ⟨r9, h10, hf⟩ := bd1_e hf
    refine k_Wi F hK hA hG (c_X4_first l D y a H.size Fu q_s q_aside q_before_4 q_known_5 q_slots q_isSaved q_pad q_length q_letters q_heats q_reactions q_newSplits q_storiesThen q_heatThen q_place q_isWrong q_toldLetter q_toldHeat q_toldStory q_toldWords q_toldStories p1 r9 h10) (cwV 1 F.2.2.2.2 gX4_burn_X4_first rfl rfl rfl (by decide +kernel) ⟨Nat.le_of_ble_eq_true rfl, Nat.le_of_ble_eq_true rfl⟩) 0 rfl rfl rfl rfl rfl hl.1 (Nat.le_of_ble_eq_true rfl) dX4_burn_27 ⟨Nat.le_refl 0, Nat.le_refl 0⟩ (fun H locs hG => ?_)
    refine lv_iload_n hx hb dX4_burn_30 rfl (lv_at hl 0 rfl) ?_
    obtain ⟨q_s_11, h12, hf⟩ := bd1_e hf
    refine k_Wv F hK hA hG (c_X4_removeWords l D y a H.size Fu q_s q_aside q_before_4 q_known_5 q_slots q_isSaved q_pad q_length q_letters q_heats q_reactions q_newSplits q_storiesThen q_heatThen q_place q_isWrong q_toldLetter q_toldHeat q_toldStory q_toldWords q_toldStories r9 v8 q_s_11 h12) (cwV 2 F.2.2.2.2 gX4_burn_X4_removeWords rfl rfl rfl (by decide +kernel) ⟨Nat.le_of_ble_eq_true rfl, Nat.le_of_ble_eq_true rfl⟩) 0 rfl rfl rfl rfl rfl hl.1 (Nat.le_of_ble_eq_true rfl) dX4_burn_31 ⟨Nat.le_refl 0, Nat.le_refl 0⟩ (fun H locs hG => ?_)
    refine lv_aload_n hx hb dX4_burn_34 rfl (lv_at hl 1 rfl) ?_
    refine lv_iload_n hx hb dX4_burn_35 rfl (lv_at hl 2 rfl) ?_
    obtain ⟨q_s_13, h14, hf⟩ := bd1_e hf
    refine k_Wv F hK hA hG (c_X4_removeStory l D y a H.size Fu q_s_11 q_aside q_before_4 q_known_5 q_slots q_isSaved q_pad q_length q_letters q_heats q_reactions q_newSplits q_storiesThen q_heatThen q_place q_isWrong q_toldLetter q_toldHeat q_toldStory q_toldWords q_toldStories p1 q_s_13 h14) (cwV 1 F.2.2.2.2 gX4_burn_X4_removeStory rfl rfl rfl (by decide +kernel) ⟨Nat.le_of_ble_eq_true rfl, Nat.le_of_ble_eq_true rfl⟩) 0 rfl rfl rfl rfl rfl hl.1 (Nat.le_of_ble_eq_true rfl) dX4_burn_36 ⟨Nat.le_refl 0, Nat.le_refl 0⟩ (fun H locs hG => ?_)
    refine lv_iload_n hx hb dX4_burn_39 rfl (lv_at hl 0 rfl) ?_
    have hf := so_e hf
    have e0 : v8 = ro := congrArg (fun z => z.1) hf
    have e1 : q_s_13 = q_s_o := congrArg (fun z => z.2.1) hf
    have e2 : q_before_4 = q_before_o := congrArg (fun z => z.2.2.1) hf
    have e3 : q_known_5 = q_known_o := congrArg (fun z => z.2.2.2) hf
    exact hret _ _ _ _ _ e0 (by rw [← e1, ← e2, ← e3]; exact hG) dX4_burn_40
  · have hf := it_e c3 hf
    refine lv_iconst (v := -1) hx hb dX4_burn_8 rfl ?_
    have hf := so_e hf
    have e0 : (-1) = ro := congrArg (fun z => z.1) hf
    have e1 : q_s = q_s_o := congrArg (fun z => z.2.1) hf
    have e2 : q_before = q_before_o := congrArg (fun z => z.2.2.1) hf
    have e3 : q_known = q_known_o := congrArg (fun z => z.2.2.2) hf
    exact hret _ _ _ _ _ e0 (by rw [← e1, ← e2, ← e3]; exact hG) dX4_burn_9
set_option maxHeartbeats 1000000 in
set_option maxRecDepth 100000 in
theorem c_X4_word (l : Launch) (D : va_G) (y : Nat → ClassId) (a : Nat → Nat) (sz : Nat) (Fu : Nat) (q_s : Ar) (q_aside : Ar) (q_before : Ar) (q_known : Int32) (q_slots : Ar) (q_isSaved : Ar) (q_pad : Ar) (q_length : Int32) (q_letters : Ar) (q_heats : Ar) (q_reactions : Int32) (q_newSplits : Int32) (q_storiesThen : Int32) (q_heatThen : Int32) (q_place : Int32) (q_isWrong : Int32) (q_toldLetter : Ar) (q_toldHeat : Ar) (q_toldStory : Ar) (q_toldWords : Int32) (q_toldStories : Int32) (p1 : Int32) (p2 : Int32) (p3 : Int32) (ro : Int32) (hf : f_X4_word Fu q_s p1 p2 p3 = some (ro)) : MI l yX4_word wsX4_word 3 65 [.ref (a 0), .int p1, .int p2, .int p3] D y (w_X4 y a q_s q_aside q_before q_known q_slots q_isSaved q_pad q_length q_letters q_heats q_reactions q_newSplits q_storiesThen q_heatThen q_place q_isWrong q_toldLetter q_toldHeat q_toldStory q_toldWords q_toldStories) sz ro (w_X4 y a q_s q_aside q_before q_known q_slots q_isSaved q_pad q_length q_letters q_heats q_reactions q_newSplits q_storiesThen q_heatThen q_place q_isWrong q_toldLetter q_toldHeat q_toldStory q_toldWords q_toldStories) := by
  refine M_i (cc := cX4_word) (maxL := 5) (own := RX4) (by decide) rfl rfl (Nat.le_of_ble_eq_true rfl) ?_
  intro p e s m args below meth c A Q F hK hA H locs hG hret ls hl
  have hx := F.1
  have hb := F.2.1
  have hl : lv_has ls 5 [(0, .ref (a 0)), (1, .int p1), (2, .int p2), (3, .int p3)] := hl
  have k0 := F.2.2.2.2 (.fieldLink RX4 7 "HeatedStoriesModel" "s" "[I") (List.mem_of_getElem? (i := 1) rfl)
  have k1 : ∀ w ∈ wsX40, w ∈ wsX4_word := (fun w h => List.mem_cons_of_mem _ (List.mem_append_right _ (h)))
  unfold f_X4_word at hf
  refine lv_aload_n hx hb dX4_word_0 rfl (lv_at hl 0 rfl) ?_
  refine lv_iload_n hx hb dX4_word_1 rfl (lv_at hl 1 rfl) ?_
  refine lv_iload_n hx hb dX4_word_2 rfl (lv_at hl 2 rfl) ?_
  obtain ⟨r1, h2, hf⟩ := bd1_e hf
  refine k_Wi F hK hA hG (c_X4_isWord l D y a H.size Fu q_s q_aside q_before q_known q_slots q_isSaved q_pad q_length q_letters q_heats q_reactions q_newSplits q_storiesThen q_heatThen q_place q_isWrong q_toldLetter q_toldHeat q_toldStory q_toldWords q_toldStories p1 p2 r1 h2) (cwV 2 F.2.2.2.2 gX4_word_X4_isWord rfl rfl rfl (by decide +kernel) ⟨Nat.le_of_ble_eq_true rfl, Nat.le_of_ble_eq_true rfl⟩) 0 rfl rfl rfl rfl rfl hl.1 (Nat.le_of_ble_eq_true rfl) dX4_word_3 ⟨Nat.le_refl 0, Nat.le_refl 0⟩ (fun H locs hG => ?_)
  refine lv_if_ne (tgt := 11) hx hb dX4_word_6 (by decide) (fun c3 => ?_) (fun c3 => ?_)
  · have hf := if_e c3 hf
    refine lv_aload_n hx hb dX4_word_11 rfl (lv_at hl 0 rfl) ?_
    refine lv_iload_n hx hb dX4_word_12 rfl (lv_at hl 1 rfl) ?_
    obtain ⟨r4, h5, hf⟩ := bd1_e hf
    refine k_Wi F hK hA hG (c_X4_first l D y a H.size Fu q_s q_aside q_before q_known q_slots q_isSaved q_pad q_length q_letters q_heats q_reactions q_newSplits q_storiesThen q_heatThen q_place q_isWrong q_toldLetter q_toldHeat q_toldStory q_toldWords q_toldStories p1 r4 h5) (cwV 1 F.2.2.2.2 gX4_word_X4_first rfl rfl rfl (by decide +kernel) ⟨Nat.le_of_ble_eq_true rfl, Nat.le_of_ble_eq_true rfl⟩) 0 rfl rfl rfl rfl rfl hl.1 (Nat.le_of_ble_eq_true rfl) dX4_word_13 ⟨Nat.le_refl 0, Nat.le_refl 0⟩ (fun H locs hG => ?_)
    refine lv_iload_n hx hb dX4_word_16 rfl (lv_at hl 2 rfl) ?_
    refine lv_iadd hx hb dX4_word_17 ?_
    refine lv_istore (lv' := [(4, .int (r4 + p2)), (0, .ref (a 0)), (1, .int p1), (2, .int p2), (3, .int p3)]) hx hb dX4_word_18 hl (by decide) rfl (fun ls hl => ?_)
    refine lv_iload_n hx hb dX4_word_20 rfl (lv_at hl 4 rfl) ?_
    obtain ⟨j15, ej15, hf⟩ := jn_e hf
    have hj15 : ∀ (v14 : Int32) (H : Heap) (locs : List Loc) (ls : Array Slot), j15 v14 = some (ro) → GG D A s.heap (w_X4 y a q_s q_aside q_before q_known q_slots q_isSaved q_pad q_length q_letters q_heats q_reactions q_newSplits q_storiesThen q_heatThen q_place q_isWrong q_toldLetter q_toldHeat q_toldStory q_toldWords q_toldStories) H locs → lv_has ls 5 [] → W p l e (RM 3 65) s m args below meth c H locs 0 0 Q (F0 m 81 ls [.int v14]) := by
      intro v14 H locs ls hf hG hl
      rw [ej15] at hf
      have hf := so_e hf
      have e0 : v14 = ro := hf
      exact hret _ _ _ _ _ e0 hG dX4_word_81
    refine lv_if_ne (tgt := 37) hx hb dX4_word_21 (by decide) (fun c6 => ?_) (fun c6 => ?_)
    · have hf := if_e c6 hf
      refine lv_iload_n hx hb dX4_word_37 rfl (lv_at hl 4 rfl) ?_
      refine lv_iconst (v := nI 1) hx hb dX4_word_38 rfl ?_
      refine lv_icmp_ne (tgt := 56) hx hb dX4_word_39 (by decide) (fun c7 => ?_) (fun c7 => ?_)
      · have hf := if_e c7 hf
        refine lv_iload_n hx hb dX4_word_56 rfl (lv_at hl 4 rfl) ?_
        refine lv_iconst (v := nI 2) hx hb dX4_word_57 rfl ?_
        refine lv_icmp_ne (tgt := 79) hx hb dX4_word_58 (by decide) (fun c8 => ?_) (fun c8 => ?_)
        · have hf := if_e c8 hf
          refine lv_bipush (v := -2) hx hb dX4_word_79 rfl ?_
          exact hj15 (-2) _ _ ls hf hG (lv_sub hl [] rfl)
        · have hf := it_e c8 hf
          refine lv_aload_n hx hb dX4_word_61 rfl (lv_at hl 1 rfl) ?_
          refine lv_iload_n hx hb dX4_word_62 rfl (lv_at hl 2 rfl) ?_
          refine lv_aload_n hx hb dX4_word_63 rfl (lv_at hl 1 rfl) ?_
          refine w_get4 F hK hG k1 0 rfl 0 (by decide) k0 rfl dX4_word_64 ?_
          refine lv_bipush (v := nI 45) hx hb dX4_word_67 rfl ?_
          refine lv_iload hx hb dX4_word_69 (lv_at hl 0 rfl) ?_
          refine lv_iadd hx hb dX4_word_71 ?_
          obtain ⟨g9, hf⟩ := gd_e hf
          refine w_iald F hK hG 1 rfl g9 dX4_word_72 ?_
          obtain ⟨r10, h11, hf⟩ := bd1_e hf
          refine k_Wi F hK hA hG (c_X4_times l D y a H.size Fu q_s q_aside q_before q_known q_slots q_isSaved q_pad q_length q_letters q_heats q_reactions q_newSplits q_storiesThen q_heatThen q_place q_isWrong q_toldLetter q_toldHeat q_toldStory q_toldWords q_toldStories p1 (q_s ((nI 45) + (r4 + p2)).toNatClampNeg) r10 h11) (cwV 2 F.2.2.2.2 gX4_word_X4_times rfl rfl rfl (by decide +kernel) ⟨Nat.le_of_ble_eq_true rfl, Nat.le_of_ble_eq_true rfl⟩) 0 rfl rfl rfl rfl rfl hl.1 (Nat.le_of_ble_eq_true rfl) dX4_word_73 ⟨Nat.le_refl 0, Nat.le_refl 0⟩ (fun H locs hG => ?_)
          refine lv_goto (tgt := 81) hx hb dX4_word_76 (by decide) ?_
          exact hj15 r10 _ _ ls hf hG (lv_sub hl [] rfl)
      · have hf := it_e c7 hf
        refine lv_aload_n hx hb dX4_word_42 rfl (lv_at hl 1 rfl) ?_
        refine w_get4 F hK hG k1 0 rfl 0 (by decide) k0 rfl dX4_word_43 ?_
        refine lv_sipush (v := nI 195) hx hb dX4_word_46 rfl ?_
        refine lv_iload hx hb dX4_word_49 (lv_at hl 0 rfl) ?_
        refine lv_iadd hx hb dX4_word_51 ?_
        obtain ⟨g12, hf⟩ := gd_e hf
        refine w_iald F hK hG 1 rfl g12 dX4_word_52 ?_
        refine lv_goto (tgt := 81) hx hb dX4_word_53 (by decide) ?_
        exact hj15 (q_s ((nI 195) + (r4 + p2)).toNatClampNeg) _ _ ls hf hG (lv_sub hl [] rfl)
    · have hf := it_e c6 hf
      refine lv_aload_n hx hb dX4_word_24 rfl (lv_at hl 1 rfl) ?_
      refine w_get4 F hK hG k1 0 rfl 0 (by decide) k0 rfl dX4_word_25 ?_
      refine lv_bipush (v := nI 45) hx hb dX4_word_28 rfl ?_
      refine lv_iload hx hb dX4_word_30 (lv_at hl 0 rfl) ?_
      refine lv_iadd hx hb dX4_word_32 ?_
      obtain ⟨g13, hf⟩ := gd_e hf
      refine w_iald F hK hG 1 rfl g13 dX4_word_33 ?_
      refine lv_goto (tgt := 81) hx hb dX4_word_34 (by decide) ?_
      exact hj15 (q_s ((nI 45) + (r4 + p2)).toNatClampNeg) _ _ ls hf hG (lv_sub hl [] rfl)
  · have hf := it_e c3 hf
    refine lv_iconst (v := -1) hx hb dX4_word_9 rfl ?_
    have hf := so_e hf
    have e0 : (-1) = ro := hf
    exact hret _ _ _ _ _ e0 hG dX4_word_10
set_option maxHeartbeats 1000000 in
set_option maxRecDepth 100000 in
theorem c_X4_hottest (l : Launch) (D : va_G) (y : Nat → ClassId) (a : Nat → Nat) (sz : Nat) (Fu : Nat) (q_s : Ar) (q_aside : Ar) (q_before : Ar) (q_known : Int32) (q_slots : Ar) (q_isSaved : Ar) (q_pad : Ar) (q_length : Int32) (q_letters : Ar) (q_heats : Ar) (q_reactions : Int32) (q_newSplits : Int32) (q_storiesThen : Int32) (q_heatThen : Int32) (q_place : Int32) (q_isWrong : Int32) (q_toldLetter : Ar) (q_toldHeat : Ar) (q_toldStory : Ar) (q_toldWords : Int32) (q_toldStories : Int32) (p1 : Int32) (ro : Int32) (hf : f_X4_hottest Fu q_s p1 = some (ro)) : MI l yX4_hottest wsX4_hottest 1 23 [.ref (a 0), .int p1] D y (w_X4 y a q_s q_aside q_before q_known q_slots q_isSaved q_pad q_length q_letters q_heats q_reactions q_newSplits q_storiesThen q_heatThen q_place q_isWrong q_toldLetter q_toldHeat q_toldStory q_toldWords q_toldStories) sz ro (w_X4 y a q_s q_aside q_before q_known q_slots q_isSaved q_pad q_length q_letters q_heats q_reactions q_newSplits q_storiesThen q_heatThen q_place q_isWrong q_toldLetter q_toldHeat q_toldStory q_toldWords q_toldStories) := by
  refine M_i (cc := cX4_hottest) (maxL := 4) (own := RX4) (by decide) rfl rfl (Nat.le_of_ble_eq_true rfl) ?_
  intro p e s m args below meth c A Q F hK hA H locs hG hret ls hl
  have hx := F.1
  have hb := F.2.1
  have hl : lv_has ls 4 [(0, .ref (a 0)), (1, .int p1)] := hl
  have k0 := F.2.2.2.2 (.fieldLink RX4 7 "HeatedStoriesModel" "s" "[I") (List.mem_of_getElem? (i := 1) rfl)
  have k1 : ∀ w ∈ wsX40, w ∈ wsX4_hottest := (fun w h => List.mem_cons_of_mem _ (List.mem_append_right _ (h)))
  unfold f_X4_hottest at hf
  refine lv_iconst (v := nI 0) hx hb dX4_hottest_0 rfl ?_
  refine lv_istore_n (lv' := [(2, .int (nI 0)), (0, .ref (a 0)), (1, .int p1)]) hx hb dX4_hottest_1 rfl hl (by decide) rfl (fun ls hl => ?_)
  refine lv_iconst (v := nI 1) hx hb dX4_hottest_2 rfl ?_
  refine lv_istore_n (lv' := [(3, .int (nI 1)), (2, .int (nI 0)), (0, .ref (a 0)), (1, .int p1)]) hx hb dX4_hottest_3 rfl hl (by decide) rfl (fun ls hl => ?_)
  obtain ⟨k_4, ek_4, hf⟩ := jn_e hf
  have hk_4 : ∀ (v13 : Int32) (H : Heap) (locs : List Loc) (ls : Array Slot), k_4 v13 = some (ro) → GG D A s.heap (w_X4 y a q_s q_aside q_before q_known q_slots q_isSaved q_pad q_length q_letters q_heats q_reactions q_newSplits q_storiesThen q_heatThen q_place q_isWrong q_toldLetter q_toldHeat q_toldStory q_toldWords q_toldStories) H locs → lv_has ls 4 [(2, .int v13)] → W p l e (RM 1 23) s m args below meth c H locs 0 0 Q (F0 m 64 ls []) := by
    intro v13 H locs ls hf hG hl
    rw [ek_4] at hf
    refine lv_iload_n hx hb dX4_hottest_64 rfl (lv_at hl 0 rfl) ?_
    have hf := so_e hf
    have e0 : v13 = ro := hf
    exact hret _ _ _ _ _ e0 hG dX4_hottest_65
  have hL4 : ∀ (fu : Nat) (x1 : Int32) (x2 : Int32) (H : Heap) (locs : List Loc) (ls : Array Slot), f_X4_hottest_L4 Fu k_4 q_s p1 fu x1 x2 = some (ro) → GG D A s.heap (w_X4 y a q_s q_aside q_before q_known q_slots q_isSaved q_pad q_length q_letters q_heats q_reactions q_newSplits q_storiesThen q_heatThen q_place q_isWrong q_toldLetter q_toldHeat q_toldStory q_toldWords q_toldStories) H locs → lv_has ls 4 [(0, .ref (a 0)), (1, .int p1), (2, .int x1), (3, .int x2)] → W p l e (RM 1 23) s m args below meth c H locs 0 0 Q (F0 m 4 ls []) := by
    intro fu
    induction fu with
    | zero => intro x1 x2 H locs ls hf hG hl; exact no_e hf
    | succ fu ih =>
      intro x1 x2 H locs ls hf hG hl
      rw [f_X4_hottest_L4_s] at hf
      refine lv_iload_n hx hb dX4_hottest_4 rfl (lv_at hl 3 rfl) ?_
      refine lv_aload_n hx hb dX4_hottest_5 rfl (lv_at hl 0 rfl) ?_
      refine w_get4 F hK hG k1 0 rfl 0 (by decide) k0 rfl dX4_hottest_6 ?_
      refine lv_bipush (v := nI 9) hx hb dX4_hottest_9 rfl ?_
      refine lv_iload_n hx hb dX4_hottest_11 rfl (lv_at hl 1 rfl) ?_
      refine lv_iadd hx hb dX4_hottest_12 ?_
      obtain ⟨g3, hf⟩ := gd_e hf
      refine w_iald F hK hG 1 rfl g3 dX4_hottest_13 ?_
      refine lv_icmp_ge (tgt := 64) hx hb dX4_hottest_14 (by decide) (fun c4 => ?_) (fun c4 => ?_)
      · have hf := it_e c4 hf
        exact hk_4 x1 _ _ ls hf hG (lv_sub hl [2] rfl)
      · have hf := if_e c4 hf
        refine lv_aload_n hx hb dX4_hottest_17 rfl (lv_at hl 0 rfl) ?_
        refine w_get4 F hK hG k1 0 rfl 0 (by decide) k0 rfl dX4_hottest_18 ?_
        refine lv_sipush (v := nI 195) hx hb dX4_hottest_21 rfl ?_
        refine lv_aload_n hx hb dX4_hottest_24 rfl (lv_at hl 0 rfl) ?_
        refine lv_iload_n hx hb dX4_hottest_25 rfl (lv_at hl 1 rfl) ?_
        obtain ⟨r5, h6, hf⟩ := bd1_e hf
        refine k_Wi F hK hA hG (c_X4_first l D y a H.size Fu q_s q_aside q_before q_known q_slots q_isSaved q_pad q_length q_letters q_heats q_reactions q_newSplits q_storiesThen q_heatThen q_place q_isWrong q_toldLetter q_toldHeat q_toldStory q_toldWords q_toldStories p1 r5 h6) (cwV 1 F.2.2.2.2 gX4_hottest_X4_first rfl rfl rfl (by decide +kernel) ⟨Nat.le_of_ble_eq_true rfl, Nat.le_of_ble_eq_true rfl⟩) 0 rfl rfl rfl rfl rfl hl.1 (Nat.le_of_ble_eq_true rfl) dX4_hottest_26 ⟨Nat.le_refl 0, Nat.le_refl 0⟩ (fun H locs hG => ?_)
        refine lv_iadd hx hb dX4_hottest_29 ?_
        refine lv_iload_n hx hb dX4_hottest_30 rfl (lv_at hl 3 rfl) ?_
        refine lv_iadd hx hb dX4_hottest_31 ?_
        obtain ⟨g7, hf⟩ := gd_e hf
        refine w_iald F hK hG 1 rfl g7 dX4_hottest_32 ?_
        refine lv_aload_n hx hb dX4_hottest_33 rfl (lv_at hl 0 rfl) ?_
        refine w_get4 F hK hG k1 0 rfl 0 (by decide) k0 rfl dX4_hottest_34 ?_
        refine lv_sipush (v := nI 195) hx hb dX4_hottest_37 rfl ?_
        refine lv_aload_n hx hb dX4_hottest_40 rfl (lv_at hl 0 rfl) ?_
        refine lv_iload_n hx hb dX4_hottest_41 rfl (lv_at hl 1 rfl) ?_
        obtain ⟨r8, h9, hf⟩ := bd1_e hf
        refine k_Wi F hK hA hG (c_X4_first l D y a H.size Fu q_s q_aside q_before q_known q_slots q_isSaved q_pad q_length q_letters q_heats q_reactions q_newSplits q_storiesThen q_heatThen q_place q_isWrong q_toldLetter q_toldHeat q_toldStory q_toldWords q_toldStories p1 r8 h9) (cwV 1 F.2.2.2.2 gX4_hottest_X4_first rfl rfl rfl (by decide +kernel) ⟨Nat.le_of_ble_eq_true rfl, Nat.le_of_ble_eq_true rfl⟩) 0 rfl rfl rfl rfl rfl hl.1 (Nat.le_of_ble_eq_true rfl) dX4_hottest_42 ⟨Nat.le_refl 0, Nat.le_refl 0⟩ (fun H locs hG => ?_)
        refine lv_iadd hx hb dX4_hottest_45 ?_
        refine lv_iload_n hx hb dX4_hottest_46 rfl (lv_at hl 2 rfl) ?_
        refine lv_iadd hx hb dX4_hottest_47 ?_
        obtain ⟨g10, hf⟩ := gd_e hf
        refine w_iald F hK hG 1 rfl g10 dX4_hottest_48 ?_
        obtain ⟨v12, ev12, hf⟩ := nm_o hf
        have hJ : ∀ (ls : Array Slot), lv_has ls 4 [(0, .ref (a 0)), (1, .int p1), (3, .int x2)] → W p l e (RM 1 23) s m args below meth c H locs 0 0 Q (F0 m 57 ls [.int v12]) := by
          intro ls hl
          refine lv_istore_n (lv' := [(2, .int v12), (0, .ref (a 0)), (1, .int p1), (3, .int x2)]) hx hb dX4_hottest_57 rfl hl (by decide) rfl (fun ls hl => ?_)
          refine lv_iinc (v := x2 + (nI 1)) (lv' := [(3, .int (x2 + (nI 1))), (2, .int v12), (0, .ref (a 0)), (1, .int p1)]) hx hb dX4_hottest_58 hl (k := 3) rfl rfl (by decide) rfl (fun ls hl => ?_)
          refine lv_goto (tgt := 4) hx hb dX4_hottest_61 (by decide) ?_
          exact ih v12 (x2 + (nI 1)) _ _ ls hf hG (lv_sub hl [2, 3, 1, 0] rfl)
        refine lv_icmp_le (tgt := 56) hx hb dX4_hottest_49 (by decide) (fun c11 => ?_) (fun c11 => ?_)
        · refine lv_iload_n hx hb dX4_hottest_56 rfl (lv_at hl 2 rfl) ?_
          have qv12 := (ev12.trans (if_pos c11))
          subst qv12
          exact hJ ls (lv_sub hl [0, 1, 3] rfl)
        · refine lv_iload_n hx hb dX4_hottest_52 rfl (lv_at hl 3 rfl) ?_
          refine lv_goto (tgt := 57) hx hb dX4_hottest_53 (by decide) ?_
          have qv12 := (ev12.trans (if_neg c11))
          subst qv12
          exact hJ ls (lv_sub hl [0, 1, 3] rfl)
  exact hL4 Fu (nI 0) (nI 1) _ _ ls hf hG (lv_sub hl [2, 3, 1, 0] rfl)
set_option maxHeartbeats 1000000 in
set_option maxRecDepth 100000 in
theorem c_X4_unlike (l : Launch) (D : va_G) (y : Nat → ClassId) (a : Nat → Nat) (sz : Nat) (Fu : Nat) (q_s : Ar) (q_aside : Ar) (q_before : Ar) (q_known : Int32) (q_slots : Ar) (q_isSaved : Ar) (q_pad : Ar) (q_length : Int32) (q_letters : Ar) (q_heats : Ar) (q_reactions : Int32) (q_newSplits : Int32) (q_storiesThen : Int32) (q_heatThen : Int32) (q_place : Int32) (q_isWrong : Int32) (q_toldLetter : Ar) (q_toldHeat : Ar) (q_toldStory : Ar) (q_toldWords : Int32) (q_toldStories : Int32) (p1 : Int32) (ro : Int32) (hf : f_X4_unlike Fu q_s p1 = some (ro)) : MI l yX4_unlike wsX4_unlike 2 47 [.ref (a 0), .int p1] D y (w_X4 y a q_s q_aside q_before q_known q_slots q_isSaved q_pad q_length q_letters q_heats q_reactions q_newSplits q_storiesThen q_heatThen q_place q_isWrong q_toldLetter q_toldHeat q_toldStory q_toldWords q_toldStories) sz ro (w_X4 y a q_s q_aside q_before q_known q_slots q_isSaved q_pad q_length q_letters q_heats q_reactions q_newSplits q_storiesThen q_heatThen q_place q_isWrong q_toldLetter q_toldHeat q_toldStory q_toldWords q_toldStories) := by
  refine M_i (cc := cX4_unlike) (maxL := 4) (own := RX4) (by decide) rfl rfl (Nat.le_of_ble_eq_true rfl) ?_
  intro p e s m args below meth c A Q F hK hA H locs hG hret ls hl
  have hx := F.1
  have hb := F.2.1
  have hl : lv_has ls 4 [(0, .ref (a 0)), (1, .int p1)] := hl
  unfold f_X4_unlike at hf
  refine lv_iconst (v := nI 0) hx hb dX4_unlike_0 rfl ?_
  refine lv_istore_n (lv' := [(2, .int (nI 0)), (0, .ref (a 0)), (1, .int p1)]) hx hb dX4_unlike_1 rfl hl (by decide) rfl (fun ls hl => ?_)
  refine lv_iconst (v := nI 0) hx hb dX4_unlike_2 rfl ?_
  refine lv_istore_n (lv' := [(3, .int (nI 0)), (2, .int (nI 0)), (0, .ref (a 0)), (1, .int p1)]) hx hb dX4_unlike_3 rfl hl (by decide) rfl (fun ls hl => ?_)
  obtain ⟨k_4, ek_4, hf⟩ := jn_e hf
  have hk_4 : ∀ (v8 : Int32) (H : Heap) (locs : List Loc) (ls : Array Slot), k_4 v8 = some (ro) → GG D A s.heap (w_X4 y a q_s q_aside q_before q_known q_slots q_isSaved q_pad q_length q_letters q_heats q_reactions q_newSplits q_storiesThen q_heatThen q_place q_isWrong q_toldLetter q_toldHeat q_toldStory q_toldWords q_toldStories) H locs → lv_has ls 4 [(2, .int v8)] → W p l e (RM 2 47) s m args below meth c H locs 0 0 Q (F0 m 33 ls []) := by
    intro v8 H locs ls hf hG hl
    rw [ek_4] at hf
    refine lv_iload_n hx hb dX4_unlike_33 rfl (lv_at hl 0 rfl) ?_
    have hf := so_e hf
    have e0 : v8 = ro := hf
    exact hret _ _ _ _ _ e0 hG dX4_unlike_34
  have hL4 : ∀ (fu : Nat) (x1 : Int32) (x2 : Int32) (H : Heap) (locs : List Loc) (ls : Array Slot), f_X4_unlike_L4 Fu k_4 q_s p1 fu x1 x2 = some (ro) → GG D A s.heap (w_X4 y a q_s q_aside q_before q_known q_slots q_isSaved q_pad q_length q_letters q_heats q_reactions q_newSplits q_storiesThen q_heatThen q_place q_isWrong q_toldLetter q_toldHeat q_toldStory q_toldWords q_toldStories) H locs → lv_has ls 4 [(0, .ref (a 0)), (1, .int p1), (2, .int x1), (3, .int x2)] → W p l e (RM 2 47) s m args below meth c H locs 0 0 Q (F0 m 4 ls []) := by
    intro fu
    induction fu with
    | zero => intro x1 x2 H locs ls hf hG hl; exact no_e hf
    | succ fu ih =>
      intro x1 x2 H locs ls hf hG hl
      rw [f_X4_unlike_L4_s] at hf
      refine lv_iload_n hx hb dX4_unlike_4 rfl (lv_at hl 3 rfl) ?_
      refine lv_bipush (v := nI 26) hx hb dX4_unlike_5 rfl ?_
      refine lv_icmp_ge (tgt := 33) hx hb dX4_unlike_7 (by decide) (fun c3 => ?_) (fun c3 => ?_)
      · have hf := it_e c3 hf
        exact hk_4 x1 _ _ ls hf hG (lv_sub hl [2] rfl)
      · have hf := if_e c3 hf
        refine lv_iload_n hx hb dX4_unlike_10 rfl (lv_at hl 2 rfl) ?_
        refine lv_aload_n hx hb dX4_unlike_11 rfl (lv_at hl 0 rfl) ?_
        refine lv_iload_n hx hb dX4_unlike_12 rfl (lv_at hl 1 rfl) ?_
        refine lv_iload_n hx hb dX4_unlike_13 rfl (lv_at hl 3 rfl) ?_
        obtain ⟨r4, h5, hf⟩ := bd1_e hf
        refine k_Wi F hK hA hG (c_X4_times l D y a H.size Fu q_s q_aside q_before q_known q_slots q_isSaved q_pad q_length q_letters q_heats q_reactions q_newSplits q_storiesThen q_heatThen q_place q_isWrong q_toldLetter q_toldHeat q_toldStory q_toldWords q_toldStories p1 x2 r4 h5) (cwV 2 F.2.2.2.2 gX4_unlike_X4_times rfl rfl rfl (by decide +kernel) ⟨Nat.le_of_ble_eq_true rfl, Nat.le_of_ble_eq_true rfl⟩) 0 rfl rfl rfl rfl rfl hl.1 (Nat.le_of_ble_eq_true rfl) dX4_unlike_14 ⟨Nat.le_refl 0, Nat.le_refl 0⟩ (fun H locs hG => ?_)
        obtain ⟨v7, ev7, hf⟩ := nm_o hf
        have hJ : ∀ (ls : Array Slot), lv_has ls 4 [(0, .ref (a 0)), (1, .int p1), (3, .int x2)] → W p l e (RM 2 47) s m args below meth c H locs 0 0 Q (F0 m 25 ls [.int v7, .int x1]) := by
          intro ls hl
          refine lv_iadd hx hb dX4_unlike_25 ?_
          refine lv_istore_n (lv' := [(2, .int (x1 + v7)), (0, .ref (a 0)), (1, .int p1), (3, .int x2)]) hx hb dX4_unlike_26 rfl hl (by decide) rfl (fun ls hl => ?_)
          refine lv_iinc (v := x2 + (nI 1)) (lv' := [(3, .int (x2 + (nI 1))), (2, .int (x1 + v7)), (0, .ref (a 0)), (1, .int p1)]) hx hb dX4_unlike_27 hl (k := 3) rfl rfl (by decide) rfl (fun ls hl => ?_)
          refine lv_goto (tgt := 4) hx hb dX4_unlike_30 (by decide) ?_
          exact ih (x1 + v7) (x2 + (nI 1)) _ _ ls hf hG (lv_sub hl [2, 3, 1, 0] rfl)
        refine lv_if_le (tgt := 24) hx hb dX4_unlike_17 (by decide) (fun c6 => ?_) (fun c6 => ?_)
        · refine lv_iconst (v := nI 0) hx hb dX4_unlike_24 rfl ?_
          have qv7 := (ev7.trans (if_pos c6))
          subst qv7
          exact hJ ls (lv_sub hl [0, 1, 3] rfl)
        · refine lv_iconst (v := nI 1) hx hb dX4_unlike_20 rfl ?_
          refine lv_goto (tgt := 25) hx hb dX4_unlike_21 (by decide) ?_
          have qv7 := (ev7.trans (if_neg c6))
          subst qv7
          exact hJ ls (lv_sub hl [0, 1, 3] rfl)
  exact hL4 Fu (nI 0) (nI 0) _ _ ls hf hG (lv_sub hl [2, 3, 1, 0] rfl)
set_option maxHeartbeats 1000000 in
set_option maxRecDepth 100000 in
theorem c_X4_isSameBackwards (l : Launch) (D : va_G) (y : Nat → ClassId) (a : Nat → Nat) (sz : Nat) (Fu : Nat) (q_s : Ar) (q_aside : Ar) (q_before : Ar) (q_known : Int32) (q_slots : Ar) (q_isSaved : Ar) (q_pad : Ar) (q_length : Int32) (q_letters : Ar) (q_heats : Ar) (q_reactions : Int32) (q_newSplits : Int32) (q_storiesThen : Int32) (q_heatThen : Int32) (q_place : Int32) (q_isWrong : Int32) (q_toldLetter : Ar) (q_toldHeat : Ar) (q_toldStory : Ar) (q_toldWords : Int32) (q_toldStories : Int32) (p1 : Int32) (ro : Int32) (hf : f_X4_isSameBackwards Fu q_s p1 = some (ro)) : MI l yX4_isSameBackwards wsX4_isSameBackwards 1 23 [.ref (a 0), .int p1] D y (w_X4 y a q_s q_aside q_before q_known q_slots q_isSaved q_pad q_length q_letters q_heats q_reactions q_newSplits q_storiesThen q_heatThen q_place q_isWrong q_toldLetter q_toldHeat q_toldStory q_toldWords q_toldStories) sz ro (w_X4 y a q_s q_aside q_before q_known q_slots q_isSaved q_pad q_length q_letters q_heats q_reactions q_newSplits q_storiesThen q_heatThen q_place q_isWrong q_toldLetter q_toldHeat q_toldStory q_toldWords q_toldStories) := by
  refine M_i (cc := cX4_isSameBackwards) (maxL := 6) (own := RX4) (by decide) rfl rfl (Nat.le_of_ble_eq_true rfl) ?_
  intro p e s m args below meth c A Q F hK hA H locs hG hret ls hl
  have hx := F.1
  have hb := F.2.1
  have hl : lv_has ls 6 [(0, .ref (a 0)), (1, .int p1)] := hl
  have k0 := F.2.2.2.2 (.fieldLink RX4 7 "HeatedStoriesModel" "s" "[I") (List.mem_of_getElem? (i := 1) rfl)
  have k1 : ∀ w ∈ wsX40, w ∈ wsX4_isSameBackwards := (fun w h => List.mem_cons_of_mem _ (List.mem_append_right _ (h)))
  unfold f_X4_isSameBackwards at hf
  refine lv_aload_n hx hb dX4_isSameBackwards_0 rfl (lv_at hl 0 rfl) ?_
  refine lv_iload_n hx hb dX4_isSameBackwards_1 rfl (lv_at hl 1 rfl) ?_
  obtain ⟨r1, h2, hf⟩ := bd1_e hf
  refine k_Wi F hK hA hG (c_X4_first l D y a H.size Fu q_s q_aside q_before q_known q_slots q_isSaved q_pad q_length q_letters q_heats q_reactions q_newSplits q_storiesThen q_heatThen q_place q_isWrong q_toldLetter q_toldHeat q_toldStory q_toldWords q_toldStories p1 r1 h2) (cwV 1 F.2.2.2.2 gX4_isSameBackwards_X4_first rfl rfl rfl (by decide +kernel) ⟨Nat.le_of_ble_eq_true rfl, Nat.le_of_ble_eq_true rfl⟩) 0 rfl rfl rfl rfl rfl hl.1 (Nat.le_of_ble_eq_true rfl) dX4_isSameBackwards_2 ⟨Nat.le_refl 0, Nat.le_refl 0⟩ (fun H locs hG => ?_)
  refine lv_istore_n (lv' := [(2, .int r1), (0, .ref (a 0)), (1, .int p1)]) hx hb dX4_isSameBackwards_5 rfl hl (by decide) rfl (fun ls hl => ?_)
  refine lv_iload_n hx hb dX4_isSameBackwards_6 rfl (lv_at hl 0 rfl) ?_
  refine lv_aload_n hx hb dX4_isSameBackwards_7 rfl (lv_at hl 1 rfl) ?_
  refine w_get4 F hK hG k1 0 rfl 0 (by decide) k0 rfl dX4_isSameBackwards_8 ?_
  refine lv_bipush (v := nI 9) hx hb dX4_isSameBackwards_11 rfl ?_
  refine lv_iload_n hx hb dX4_isSameBackwards_13 rfl (lv_at hl 2 rfl) ?_
  refine lv_iadd hx hb dX4_isSameBackwards_14 ?_
  obtain ⟨g3, hf⟩ := gd_e hf
  refine w_iald F hK hG 1 rfl g3 dX4_isSameBackwards_15 ?_
  refine lv_iadd hx hb dX4_isSameBackwards_16 ?_
  refine lv_iconst (v := nI 1) hx hb dX4_isSameBackwards_17 rfl ?_
  refine lv_isub hx hb dX4_isSameBackwards_18 ?_
  obtain ⟨v4, ev4, hf⟩ := nm_o hf
  refine w_nm ev4 ?_
  refine lv_istore_n (lv' := [(3, .int v4), (2, .int r1), (0, .ref (a 0)), (1, .int p1)]) hx hb dX4_isSameBackwards_19 rfl hl (by decide) rfl (fun ls hl => ?_)
  refine lv_iconst (v := nI 1) hx hb dX4_isSameBackwards_20 rfl ?_
  refine lv_istore (lv' := [(4, .int (nI 1)), (3, .int v4), (2, .int r1), (0, .ref (a 0)), (1, .int p1)]) hx hb dX4_isSameBackwards_21 hl (by decide) rfl (fun ls hl => ?_)
  refine lv_iconst (v := nI 0) hx hb dX4_isSameBackwards_23 rfl ?_
  refine lv_istore (lv' := [(5, .int (nI 0)), (4, .int (nI 1)), (3, .int v4), (2, .int r1), (0, .ref (a 0)), (1, .int p1)]) hx hb dX4_isSameBackwards_24 hl (by decide) rfl (fun ls hl => ?_)
  obtain ⟨k_26, ek_26, hf⟩ := jn_e hf
  have hk_26 : ∀ (v15 : Int32) (H : Heap) (locs : List Loc) (ls : Array Slot), k_26 v15 = some (ro) → GG D A s.heap (w_X4 y a q_s q_aside q_before q_known q_slots q_isSaved q_pad q_length q_letters q_heats q_reactions q_newSplits q_storiesThen q_heatThen q_place q_isWrong q_toldLetter q_toldHeat q_toldStory q_toldWords q_toldStories) H locs → lv_has ls 6 [(4, .int v15)] → W p l e (RM 1 23) s m args below meth c H locs 0 0 Q (F0 m 85 ls []) := by
    intro v15 H locs ls hf hG hl
    rw [ek_26] at hf
    refine lv_iload hx hb dX4_isSameBackwards_85 (lv_at hl 0 rfl) ?_
    obtain ⟨v17, ev17, hf⟩ := nm_o hf
    have hJ : ∀ (ls : Array Slot), lv_has ls 6 [] → W p l e (RM 1 23) s m args below meth c H locs 0 0 Q (F0 m 95 ls [.int v17]) := by
      intro ls hl
      have hf := so_e hf
      have e0 : v17 = ro := hf
      exact hret _ _ _ _ _ e0 hG dX4_isSameBackwards_95
    refine lv_if_eq (tgt := 94) hx hb dX4_isSameBackwards_87 (by decide) (fun c16 => ?_) (fun c16 => ?_)
    · refine lv_iconst (v := nI 0) hx hb dX4_isSameBackwards_94 rfl ?_
      have qv17 := (ev17.trans (if_pos c16))
      subst qv17
      exact hJ ls (lv_sub hl [] rfl)
    · refine lv_iconst (v := nI 1) hx hb dX4_isSameBackwards_90 rfl ?_
      refine lv_goto (tgt := 95) hx hb dX4_isSameBackwards_91 (by decide) ?_
      have qv17 := (ev17.trans (if_neg c16))
      subst qv17
      exact hJ ls (lv_sub hl [] rfl)
  have hL26 : ∀ (fu : Nat) (x5 : Int32) (x6 : Int32) (H : Heap) (locs : List Loc) (ls : Array Slot), f_X4_isSameBackwards_L26 Fu k_26 q_s p1 r1 v4 fu x5 x6 = some (ro) → GG D A s.heap (w_X4 y a q_s q_aside q_before q_known q_slots q_isSaved q_pad q_length q_letters q_heats q_reactions q_newSplits q_storiesThen q_heatThen q_place q_isWrong q_toldLetter q_toldHeat q_toldStory q_toldWords q_toldStories) H locs → lv_has ls 6 [(0, .ref (a 0)), (1, .int p1), (2, .int r1), (3, .int v4), (4, .int x5), (5, .int x6)] → W p l e (RM 1 23) s m args below meth c H locs 0 0 Q (F0 m 26 ls []) := by
    intro fu
    induction fu with
    | zero => intro x5 x6 H locs ls hf hG hl; exact no_e hf
    | succ fu ih =>
      intro x5 x6 H locs ls hf hG hl
      rw [f_X4_isSameBackwards_L26_s] at hf
      refine lv_iload hx hb dX4_isSameBackwards_26 (lv_at hl 5 rfl) ?_
      refine lv_aload_n hx hb dX4_isSameBackwards_28 rfl (lv_at hl 0 rfl) ?_
      refine w_get4 F hK hG k1 0 rfl 0 (by decide) k0 rfl dX4_isSameBackwards_29 ?_
      refine lv_bipush (v := nI 9) hx hb dX4_isSameBackwards_32 rfl ?_
      refine lv_iload_n hx hb dX4_isSameBackwards_34 rfl (lv_at hl 1 rfl) ?_
      refine lv_iadd hx hb dX4_isSameBackwards_35 ?_
      obtain ⟨g7, hf⟩ := gd_e hf
      refine w_iald F hK hG 1 rfl g7 dX4_isSameBackwards_36 ?_
      refine lv_icmp_ge (tgt := 85) hx hb dX4_isSameBackwards_37 (by decide) (fun c8 => ?_) (fun c8 => ?_)
      · have hf := it_e c8 hf
        exact hk_26 x5 _ _ ls hf hG (lv_sub hl [4] rfl)
      · have hf := if_e c8 hf
        refine lv_iload hx hb dX4_isSameBackwards_40 (lv_at hl 4 rfl) ?_
        obtain ⟨j14, ej14, hf⟩ := jn_e hf
        have hj14 : ∀ (v13 : Int32) (H : Heap) (locs : List Loc) (ls : Array Slot), j14 v13 = some (ro) → GG D A s.heap (w_X4 y a q_s q_aside q_before q_known q_slots q_isSaved q_pad q_length q_letters q_heats q_reactions q_newSplits q_storiesThen q_heatThen q_place q_isWrong q_toldLetter q_toldHeat q_toldStory q_toldWords q_toldStories) H locs → lv_has ls 6 [(0, .ref (a 0)), (1, .int p1), (2, .int r1), (3, .int v4), (5, .int x6)] → W p l e (RM 1 23) s m args below meth c H locs 0 0 Q (F0 m 77 ls [.int v13]) := by
          intro v13 H locs ls hf hG hl
          rw [ej14] at hf
          refine lv_istore (lv' := [(4, .int v13), (0, .ref (a 0)), (1, .int p1), (2, .int r1), (3, .int v4), (5, .int x6)]) hx hb dX4_isSameBackwards_77 hl (by decide) rfl (fun ls hl => ?_)
          refine lv_iinc (v := x6 + (nI 1)) (lv' := [(5, .int (x6 + (nI 1))), (4, .int v13), (0, .ref (a 0)), (1, .int p1), (2, .int r1), (3, .int v4)]) hx hb dX4_isSameBackwards_79 hl (k := 5) rfl rfl (by decide) rfl (fun ls hl => ?_)
          refine lv_goto (tgt := 26) hx hb dX4_isSameBackwards_82 (by decide) ?_
          exact ih v13 (x6 + (nI 1)) _ _ ls hf hG (lv_sub hl [2, 3, 4, 5, 1, 0] rfl)
        refine lv_if_eq (tgt := 76) hx hb dX4_isSameBackwards_42 (by decide) (fun c9 => ?_) (fun c9 => ?_)
        · have hf := it_e c9 hf
          refine lv_iconst (v := nI 0) hx hb dX4_isSameBackwards_76 rfl ?_
          exact hj14 (nI 0) _ _ ls hf hG (lv_sub hl [0, 1, 2, 3, 5] rfl)
        · have hf := if_e c9 hf
          refine lv_aload_n hx hb dX4_isSameBackwards_45 rfl (lv_at hl 0 rfl) ?_
          refine w_get4 F hK hG k1 0 rfl 0 (by decide) k0 rfl dX4_isSameBackwards_46 ?_
          refine lv_bipush (v := nI 45) hx hb dX4_isSameBackwards_49 rfl ?_
          refine lv_iload_n hx hb dX4_isSameBackwards_51 rfl (lv_at hl 2 rfl) ?_
          refine lv_iadd hx hb dX4_isSameBackwards_52 ?_
          refine lv_iload hx hb dX4_isSameBackwards_53 (lv_at hl 5 rfl) ?_
          refine lv_iadd hx hb dX4_isSameBackwards_55 ?_
          obtain ⟨g10, hf⟩ := gd_e hf
          refine w_iald F hK hG 1 rfl g10 dX4_isSameBackwards_56 ?_
          refine lv_aload_n hx hb dX4_isSameBackwards_57 rfl (lv_at hl 0 rfl) ?_
          refine w_get4 F hK hG k1 0 rfl 0 (by decide) k0 rfl dX4_isSameBackwards_58 ?_
          refine lv_bipush (v := nI 45) hx hb dX4_isSameBackwards_61 rfl ?_
          refine lv_iload_n hx hb dX4_isSameBackwards_63 rfl (lv_at hl 3 rfl) ?_
          refine lv_iadd hx hb dX4_isSameBackwards_64 ?_
          refine lv_iload hx hb dX4_isSameBackwards_65 (lv_at hl 5 rfl) ?_
          refine lv_isub hx hb dX4_isSameBackwards_67 ?_
          obtain ⟨g11, hf⟩ := gd_e hf
          refine w_iald F hK hG 1 rfl g11 dX4_isSameBackwards_68 ?_
          refine lv_icmp_ne (tgt := 76) hx hb dX4_isSameBackwards_69 (by decide) (fun c12 => ?_) (fun c12 => ?_)
          · have hf := if_e c12 hf
            refine lv_iconst (v := nI 0) hx hb dX4_isSameBackwards_76 rfl ?_
            exact hj14 (nI 0) _ _ ls hf hG (lv_sub hl [0, 1, 2, 3, 5] rfl)
          · have hf := it_e c12 hf
            refine lv_iconst (v := nI 1) hx hb dX4_isSameBackwards_72 rfl ?_
            refine lv_goto (tgt := 77) hx hb dX4_isSameBackwards_73 (by decide) ?_
            exact hj14 (nI 1) _ _ ls hf hG (lv_sub hl [0, 1, 2, 3, 5] rfl)
  exact hL26 Fu (nI 1) (nI 0) _ _ ls hf hG (lv_sub hl [4, 5, 3, 2, 1, 0] rfl)
set_option maxHeartbeats 1000000 in
set_option maxRecDepth 100000 in
theorem c_X4_story (l : Launch) (D : va_G) (y : Nat → ClassId) (a : Nat → Nat) (sz : Nat) (Fu : Nat) (q_s : Ar) (q_aside : Ar) (q_before : Ar) (q_known : Int32) (q_slots : Ar) (q_isSaved : Ar) (q_pad : Ar) (q_length : Int32) (q_letters : Ar) (q_heats : Ar) (q_reactions : Int32) (q_newSplits : Int32) (q_storiesThen : Int32) (q_heatThen : Int32) (q_place : Int32) (q_isWrong : Int32) (q_toldLetter : Ar) (q_toldHeat : Ar) (q_toldStory : Ar) (q_toldWords : Int32) (q_toldStories : Int32) (p1 : Int32) (p2 : Int32) (ro : Int32) (hf : f_X4_story Fu q_s p1 p2 = some (ro)) : MI l yX4_story wsX4_story 3 70 [.ref (a 0), .int p1, .int p2] D y (w_X4 y a q_s q_aside q_before q_known q_slots q_isSaved q_pad q_length q_letters q_heats q_reactions q_newSplits q_storiesThen q_heatThen q_place q_isWrong q_toldLetter q_toldHeat q_toldStory q_toldWords q_toldStories) sz ro (w_X4 y a q_s q_aside q_before q_known q_slots q_isSaved q_pad q_length q_letters q_heats q_reactions q_newSplits q_storiesThen q_heatThen q_place q_isWrong q_toldLetter q_toldHeat q_toldStory q_toldWords q_toldStories) := by
  refine M_i (cc := cX4_story) (maxL := 3) (own := RX4) (by decide) rfl rfl (Nat.le_of_ble_eq_true rfl) ?_
  intro p e s m args below meth c A Q F hK hA H locs hG hret ls hl
  have hx := F.1
  have hb := F.2.1
  have hl : lv_has ls 3 [(0, .ref (a 0)), (1, .int p1), (2, .int p2)] := hl
  have k0 := F.2.2.2.2 (.fieldLink RX4 7 "HeatedStoriesModel" "s" "[I") (List.mem_of_getElem? (i := 1) rfl)
  have k1 : ∀ w ∈ wsX40, w ∈ wsX4_story := (fun w h => List.mem_cons_of_mem _ (List.mem_append_right _ (h)))
  unfold f_X4_story at hf
  refine lv_aload_n hx hb dX4_story_0 rfl (lv_at hl 0 rfl) ?_
  refine lv_iload_n hx hb dX4_story_1 rfl (lv_at hl 1 rfl) ?_
  obtain ⟨r1, h2, hf⟩ := bd1_e hf
  refine k_Wi F hK hA hG (c_X4_isStory l D y a H.size Fu q_s q_aside q_before q_known q_slots q_isSaved q_pad q_length q_letters q_heats q_reactions q_newSplits q_storiesThen q_heatThen q_place q_isWrong q_toldLetter q_toldHeat q_toldStory q_toldWords q_toldStories p1 r1 h2) (cwV 1 F.2.2.2.2 gX4_story_X4_isStory rfl rfl rfl (by decide +kernel) ⟨Nat.le_of_ble_eq_true rfl, Nat.le_of_ble_eq_true rfl⟩) 0 rfl rfl rfl rfl rfl hl.1 (Nat.le_of_ble_eq_true rfl) dX4_story_2 ⟨Nat.le_refl 0, Nat.le_refl 0⟩ (fun H locs hG => ?_)
  refine lv_if_ne (tgt := 10) hx hb dX4_story_5 (by decide) (fun c3 => ?_) (fun c3 => ?_)
  · have hf := if_e c3 hf
    refine lv_iload_n hx hb dX4_story_10 rfl (lv_at hl 2 rfl) ?_
    obtain ⟨v4, ev4, hf⟩ := nm_o hf
    refine w_nm ev4 ?_
    by_cases cv4_0 : v4 = nI 0
    · subst cv4_0
      have hf := it_e rfl hf
      refine lv_tableIn (tgt := 56) hx hb dX4_story_11 (by decide) (by decide) rfl (by decide) ?_
      refine lv_aload_n hx hb dX4_story_56 rfl (lv_at hl 0 rfl) ?_
      refine w_get4 F hK hG k1 0 rfl 0 (by decide) k0 rfl dX4_story_57 ?_
      refine lv_bipush (v := nI 9) hx hb dX4_story_60 rfl ?_
      refine lv_iload_n hx hb dX4_story_62 rfl (lv_at hl 1 rfl) ?_
      refine lv_iadd hx hb dX4_story_63 ?_
      obtain ⟨g5, hf⟩ := gd_e hf
      refine w_iald F hK hG 1 rfl g5 dX4_story_64 ?_
      have hf := so_e hf
      have e0 : (q_s ((nI 9) + p1).toNatClampNeg) = ro := hf
      exact hret _ _ _ _ _ e0 hG dX4_story_65
    have hf := if_e cv4_0 hf
    by_cases cv4_1 : v4 = nI 1
    · subst cv4_1
      have hf := it_e rfl hf
      refine lv_tableIn (tgt := 66) hx hb dX4_story_11 (by decide) (by decide) rfl (by decide) ?_
      refine lv_aload_n hx hb dX4_story_66 rfl (lv_at hl 0 rfl) ?_
      refine lv_iload_n hx hb dX4_story_67 rfl (lv_at hl 1 rfl) ?_
      obtain ⟨r6, h7, hf⟩ := bd1_e hf
      refine k_Wi F hK hA hG (c_X4_heatOf l D y a H.size Fu q_s q_aside q_before q_known q_slots q_isSaved q_pad q_length q_letters q_heats q_reactions q_newSplits q_storiesThen q_heatThen q_place q_isWrong q_toldLetter q_toldHeat q_toldStory q_toldWords q_toldStories p1 r6 h7) (cwV 1 F.2.2.2.2 gX4_story_X4_heatOf rfl rfl rfl (by decide +kernel) ⟨Nat.le_of_ble_eq_true rfl, Nat.le_of_ble_eq_true rfl⟩) 0 rfl rfl rfl rfl rfl hl.1 (Nat.le_of_ble_eq_true rfl) dX4_story_68 ⟨Nat.le_refl 0, Nat.le_refl 0⟩ (fun H locs hG => ?_)
      have hf := so_e hf
      have e0 : r6 = ro := hf
      exact hret _ _ _ _ _ e0 hG dX4_story_71
    have hf := if_e cv4_1 hf
    by_cases cv4_2 : v4 = nI 2
    · subst cv4_2
      have hf := it_e rfl hf
      refine lv_tableIn (tgt := 72) hx hb dX4_story_11 (by decide) (by decide) rfl (by decide) ?_
      refine lv_aload_n hx hb dX4_story_72 rfl (lv_at hl 0 rfl) ?_
      refine lv_iload_n hx hb dX4_story_73 rfl (lv_at hl 1 rfl) ?_
      obtain ⟨r8, h9, hf⟩ := bd1_e hf
      refine k_Wi F hK hA hG (c_X4_theme l D y a H.size Fu q_s q_aside q_before q_known q_slots q_isSaved q_pad q_length q_letters q_heats q_reactions q_newSplits q_storiesThen q_heatThen q_place q_isWrong q_toldLetter q_toldHeat q_toldStory q_toldWords q_toldStories p1 r8 h9) (cwV 1 F.2.2.2.2 gX4_story_X4_theme rfl rfl rfl (by decide +kernel) ⟨Nat.le_of_ble_eq_true rfl, Nat.le_of_ble_eq_true rfl⟩) 0 rfl rfl rfl rfl rfl hl.1 (Nat.le_of_ble_eq_true rfl) dX4_story_74 ⟨Nat.le_refl 0, Nat.le_refl 0⟩ (fun H locs hG => ?_)
      have hf := so_e hf
      have e0 : r8 = ro := hf
      exact hret _ _ _ _ _ e0 hG dX4_story_77
    have hf := if_e cv4_2 hf
    by_cases cv4_3 : v4 = nI 3
    · subst cv4_3
      have hf := it_e rfl hf
      refine lv_tableIn (tgt := 78) hx hb dX4_story_11 (by decide) (by decide) rfl (by decide) ?_
      refine lv_aload_n hx hb dX4_story_78 rfl (lv_at hl 0 rfl) ?_
      refine w_get4 F hK hG k1 0 rfl 0 (by decide) k0 rfl dX4_story_79 ?_
      refine lv_bipush (v := nI 21) hx hb dX4_story_82 rfl ?_
      refine lv_iload_n hx hb dX4_story_84 rfl (lv_at hl 1 rfl) ?_
      refine lv_iadd hx hb dX4_story_85 ?_
      obtain ⟨g10, hf⟩ := gd_e hf
      refine w_iald F hK hG 1 rfl g10 dX4_story_86 ?_
      have hf := so_e hf
      have e0 : (q_s ((nI 21) + p1).toNatClampNeg) = ro := hf
      exact hret _ _ _ _ _ e0 hG dX4_story_87
    have hf := if_e cv4_3 hf
    by_cases cv4_4 : v4 = nI 4
    · subst cv4_4
      have hf := it_e rfl hf
      refine lv_tableIn (tgt := 88) hx hb dX4_story_11 (by decide) (by decide) rfl (by decide) ?_
      refine lv_aload_n hx hb dX4_story_88 rfl (lv_at hl 0 rfl) ?_
      refine w_get4 F hK hG k1 0 rfl 0 (by decide) k0 rfl dX4_story_89 ?_
      refine lv_bipush (v := nI 33) hx hb dX4_story_92 rfl ?_
      refine lv_iload_n hx hb dX4_story_94 rfl (lv_at hl 1 rfl) ?_
      refine lv_iadd hx hb dX4_story_95 ?_
      obtain ⟨g11, hf⟩ := gd_e hf
      refine w_iald F hK hG 1 rfl g11 dX4_story_96 ?_
      have hf := so_e hf
      have e0 : (q_s ((nI 33) + p1).toNatClampNeg) = ro := hf
      exact hret _ _ _ _ _ e0 hG dX4_story_97
    have hf := if_e cv4_4 hf
    by_cases cv4_5 : v4 = nI 5
    · subst cv4_5
      have hf := it_e rfl hf
      refine lv_tableIn (tgt := 98) hx hb dX4_story_11 (by decide) (by decide) rfl (by decide) ?_
      refine lv_aload_n hx hb dX4_story_98 rfl (lv_at hl 0 rfl) ?_
      refine lv_iload_n hx hb dX4_story_99 rfl (lv_at hl 1 rfl) ?_
      obtain ⟨r12, h13, hf⟩ := bd1_e hf
      refine k_Wi F hK hA hG (c_X4_hottest l D y a H.size Fu q_s q_aside q_before q_known q_slots q_isSaved q_pad q_length q_letters q_heats q_reactions q_newSplits q_storiesThen q_heatThen q_place q_isWrong q_toldLetter q_toldHeat q_toldStory q_toldWords q_toldStories p1 r12 h13) (cwV 1 F.2.2.2.2 gX4_story_X4_hottest rfl rfl rfl (by decide +kernel) ⟨Nat.le_of_ble_eq_true rfl, Nat.le_of_ble_eq_true rfl⟩) 0 rfl rfl rfl rfl rfl hl.1 (Nat.le_of_ble_eq_true rfl) dX4_story_100 ⟨Nat.le_refl 0, Nat.le_refl 0⟩ (fun H locs hG => ?_)
      have hf := so_e hf
      have e0 : r12 = ro := hf
      exact hret _ _ _ _ _ e0 hG dX4_story_103
    have hf := if_e cv4_5 hf
    by_cases cv4_6 : v4 = nI 6
    · subst cv4_6
      have hf := it_e rfl hf
      refine lv_tableIn (tgt := 104) hx hb dX4_story_11 (by decide) (by decide) rfl (by decide) ?_
      refine lv_aload_n hx hb dX4_story_104 rfl (lv_at hl 0 rfl) ?_
      refine lv_iload_n hx hb dX4_story_105 rfl (lv_at hl 1 rfl) ?_
      obtain ⟨r14, h15, hf⟩ := bd1_e hf
      refine k_Wi F hK hA hG (c_X4_unlike l D y a H.size Fu q_s q_aside q_before q_known q_slots q_isSaved q_pad q_length q_letters q_heats q_reactions q_newSplits q_storiesThen q_heatThen q_place q_isWrong q_toldLetter q_toldHeat q_toldStory q_toldWords q_toldStories p1 r14 h15) (cwV 1 F.2.2.2.2 gX4_story_X4_unlike rfl rfl rfl (by decide +kernel) ⟨Nat.le_of_ble_eq_true rfl, Nat.le_of_ble_eq_true rfl⟩) 0 rfl rfl rfl rfl rfl hl.1 (Nat.le_of_ble_eq_true rfl) dX4_story_106 ⟨Nat.le_refl 0, Nat.le_refl 0⟩ (fun H locs hG => ?_)
      have hf := so_e hf
      have e0 : r14 = ro := hf
      exact hret _ _ _ _ _ e0 hG dX4_story_109
    have hf := if_e cv4_6 hf
    by_cases cv4_7 : v4 = nI 7
    · subst cv4_7
      have hf := it_e rfl hf
      refine lv_tableIn (tgt := 110) hx hb dX4_story_11 (by decide) (by decide) rfl (by decide) ?_
      refine lv_aload_n hx hb dX4_story_110 rfl (lv_at hl 0 rfl) ?_
      refine lv_iload_n hx hb dX4_story_111 rfl (lv_at hl 1 rfl) ?_
      obtain ⟨r16, h17, hf⟩ := bd1_e hf
      refine k_Wi F hK hA hG (c_X4_isSameBackwards l D y a H.size Fu q_s q_aside q_before q_known q_slots q_isSaved q_pad q_length q_letters q_heats q_reactions q_newSplits q_storiesThen q_heatThen q_place q_isWrong q_toldLetter q_toldHeat q_toldStory q_toldWords q_toldStories p1 r16 h17) (cwV 1 F.2.2.2.2 gX4_story_X4_isSameBackwards rfl rfl rfl (by decide +kernel) ⟨Nat.le_of_ble_eq_true rfl, Nat.le_of_ble_eq_true rfl⟩) 0 rfl rfl rfl rfl rfl hl.1 (Nat.le_of_ble_eq_true rfl) dX4_story_112 ⟨Nat.le_refl 0, Nat.le_refl 0⟩ (fun H locs hG => ?_)
      have hf := so_e hf
      have e0 : r16 = ro := hf
      exact hret _ _ _ _ _ e0 hG dX4_story_115
    have hf := if_e cv4_7 hf
    refine lv_tableOut (tgt := 116) hx hb dX4_story_11 (tsw 7 (by decide) (fun k hk => ?_)) (by decide) ?_
    · rcases (show k = 0 ∨ k = 1 ∨ k = 2 ∨ k = 3 ∨ k = 4 ∨ k = 5 ∨ k = 6 ∨ k = 7 by omega) with rfl | rfl | rfl | rfl | rfl | rfl | rfl | rfl
      · exact cv4_0
      · exact cv4_1
      · exact cv4_2
      · exact cv4_3
      · exact cv4_4
      · exact cv4_5
      · exact cv4_6
      · exact cv4_7
    refine lv_bipush (v := -2) hx hb dX4_story_116 rfl ?_
    have hf := so_e hf
    have e0 : (-2) = ro := hf
    exact hret _ _ _ _ _ e0 hG dX4_story_118
  · have hf := it_e c3 hf
    refine lv_iconst (v := -1) hx hb dX4_story_8 rfl ?_
    have hf := so_e hf
    have e0 : (-1) = ro := hf
    exact hret _ _ _ _ _ e0 hG dX4_story_9
set_option maxHeartbeats 1000000 in
set_option maxRecDepth 100000 in
theorem c_X4_families (l : Launch) (D : va_G) (y : Nat → ClassId) (a : Nat → Nat) (sz : Nat) (Fu : Nat) (q_s : Ar) (q_aside : Ar) (q_before : Ar) (q_known : Int32) (q_slots : Ar) (q_isSaved : Ar) (q_pad : Ar) (q_length : Int32) (q_letters : Ar) (q_heats : Ar) (q_reactions : Int32) (q_newSplits : Int32) (q_storiesThen : Int32) (q_heatThen : Int32) (q_place : Int32) (q_isWrong : Int32) (q_toldLetter : Ar) (q_toldHeat : Ar) (q_toldStory : Ar) (q_toldWords : Int32) (q_toldStories : Int32) (ro : Int32) (hf : f_X4_families Fu q_s = some (ro)) : MI l yX4_families wsX4_families 0 0 [.ref (a 0)] D y (w_X4 y a q_s q_aside q_before q_known q_slots q_isSaved q_pad q_length q_letters q_heats q_reactions q_newSplits q_storiesThen q_heatThen q_place q_isWrong q_toldLetter q_toldHeat q_toldStory q_toldWords q_toldStories) sz ro (w_X4 y a q_s q_aside q_before q_known q_slots q_isSaved q_pad q_length q_letters q_heats q_reactions q_newSplits q_storiesThen q_heatThen q_place q_isWrong q_toldLetter q_toldHeat q_toldStory q_toldWords q_toldStories) := by
  refine M_i (cc := cX4_families) (maxL := 5) (own := RX4) (by decide) rfl rfl (Nat.le_of_ble_eq_true rfl) ?_
  intro p e s m args below meth c A Q F hK hA H locs hG hret ls hl
  have hx := F.1
  have hb := F.2.1
  have hl : lv_has ls 5 [(0, .ref (a 0))] := hl
  have k0 := F.2.2.2.2 (.fieldLink RX4 7 "HeatedStoriesModel" "s" "[I") (List.mem_of_getElem? (i := 1) rfl)
  have k1 : ∀ w ∈ wsX40, w ∈ wsX4_families := (fun w h => List.mem_cons_of_mem _ (List.mem_append_right _ (h)))
  unfold f_X4_families at hf
  refine lv_iconst (v := nI 0) hx hb dX4_families_0 rfl ?_
  refine lv_istore_n (lv' := [(1, .int (nI 0)), (0, .ref (a 0))]) hx hb dX4_families_1 rfl hl (by decide) rfl (fun ls hl => ?_)
  refine lv_iconst (v := nI 0) hx hb dX4_families_2 rfl ?_
  refine lv_istore_n (lv' := [(2, .int (nI 0)), (1, .int (nI 0)), (0, .ref (a 0))]) hx hb dX4_families_3 rfl hl (by decide) rfl (fun ls hl => ?_)
  obtain ⟨k_4, ek_4, hf⟩ := jn_e hf
  have hk_4 : ∀ (v16 : Int32) (H : Heap) (locs : List Loc) (ls : Array Slot), k_4 v16 = some (ro) → GG D A s.heap (w_X4 y a q_s q_aside q_before q_known q_slots q_isSaved q_pad q_length q_letters q_heats q_reactions q_newSplits q_storiesThen q_heatThen q_place q_isWrong q_toldLetter q_toldHeat q_toldStory q_toldWords q_toldStories) H locs → lv_has ls 5 [(1, .int v16)] → W p l e (RM 0 0) s m args below meth c H locs 0 0 Q (F0 m 81 ls []) := by
    intro v16 H locs ls hf hG hl
    rw [ek_4] at hf
    refine lv_iload_n hx hb dX4_families_81 rfl (lv_at hl 0 rfl) ?_
    have hf := so_e hf
    have e0 : v16 = ro := hf
    exact hret _ _ _ _ _ e0 hG dX4_families_82
  have hL4 : ∀ (fu : Nat) (x1 : Int32) (x2 : Int32) (H : Heap) (locs : List Loc) (ls : Array Slot), f_X4_families_L4 Fu k_4 q_s fu x1 x2 = some (ro) → GG D A s.heap (w_X4 y a q_s q_aside q_before q_known q_slots q_isSaved q_pad q_length q_letters q_heats q_reactions q_newSplits q_storiesThen q_heatThen q_place q_isWrong q_toldLetter q_toldHeat q_toldStory q_toldWords q_toldStories) H locs → lv_has ls 5 [(0, .ref (a 0)), (1, .int x1), (2, .int x2)] → W p l e (RM 0 0) s m args below meth c H locs 0 0 Q (F0 m 4 ls []) := by
    intro fu
    induction fu with
    | zero => intro x1 x2 H locs ls hf hG hl; exact no_e hf
    | succ fu ih =>
      intro x1 x2 H locs ls hf hG hl
      rw [f_X4_families_L4_s] at hf
      refine lv_iload_n hx hb dX4_families_4 rfl (lv_at hl 2 rfl) ?_
      refine lv_aload_n hx hb dX4_families_5 rfl (lv_at hl 0 rfl) ?_
      refine w_get4 F hK hG k1 0 rfl 0 (by decide) k0 rfl dX4_families_6 ?_
      refine lv_iconst (v := nI 3) hx hb dX4_families_9 rfl ?_
      refine w_ialdk F hK hG 1 rfl (Nat.le_of_ble_eq_true rfl) (Nat.le_of_ble_eq_true rfl) dX4_families_10 ?_
      refine lv_icmp_ge (tgt := 81) hx hb dX4_families_11 (by decide) (fun c3 => ?_) (fun c3 => ?_)
      · have hf := it_e c3 hf
        exact hk_4 x1 _ _ ls hf hG (lv_sub hl [1] rfl)
      · have hf := if_e c3 hf
        refine lv_iconst (v := nI 1) hx hb dX4_families_14 rfl ?_
        refine lv_istore_n (lv' := [(3, .int (nI 1)), (0, .ref (a 0)), (1, .int x1), (2, .int x2)]) hx hb dX4_families_15 rfl hl (by decide) rfl (fun ls hl => ?_)
        refine lv_iconst (v := nI 0) hx hb dX4_families_16 rfl ?_
        refine lv_istore (lv' := [(4, .int (nI 0)), (3, .int (nI 1)), (0, .ref (a 0)), (1, .int x1), (2, .int x2)]) hx hb dX4_families_17 hl (by decide) rfl (fun ls hl => ?_)
        obtain ⟨k_19, ek_19, hf⟩ := jn_e hf
        have hk_19 : ∀ (v13 : Int32) (H : Heap) (locs : List Loc) (ls : Array Slot), k_19 v13 = some (ro) → GG D A s.heap (w_X4 y a q_s q_aside q_before q_known q_slots q_isSaved q_pad q_length q_letters q_heats q_reactions q_newSplits q_storiesThen q_heatThen q_place q_isWrong q_toldLetter q_toldHeat q_toldStory q_toldWords q_toldStories) H locs → lv_has ls 5 [(0, .ref (a 0)), (1, .int x1), (2, .int x2), (3, .int v13)] → W p l e (RM 0 0) s m args below meth c H locs 0 0 Q (F0 m 63 ls []) := by
          intro v13 H locs ls hf hG hl
          rw [ek_19] at hf
          refine lv_iload_n hx hb dX4_families_63 rfl (lv_at hl 1 rfl) ?_
          refine lv_iload_n hx hb dX4_families_64 rfl (lv_at hl 3 rfl) ?_
          obtain ⟨v15, ev15, hf⟩ := nm_o hf
          have hJ : ∀ (ls : Array Slot), lv_has ls 5 [(0, .ref (a 0)), (2, .int x2)] → W p l e (RM 0 0) s m args below meth c H locs 0 0 Q (F0 m 73 ls [.int v15, .int x1]) := by
            intro ls hl
            refine lv_iadd hx hb dX4_families_73 ?_
            refine lv_istore_n (lv' := [(1, .int (x1 + v15)), (0, .ref (a 0)), (2, .int x2)]) hx hb dX4_families_74 rfl hl (by decide) rfl (fun ls hl => ?_)
            refine lv_iinc (v := x2 + (nI 1)) (lv' := [(2, .int (x2 + (nI 1))), (1, .int (x1 + v15)), (0, .ref (a 0))]) hx hb dX4_families_75 hl (k := 2) rfl rfl (by decide) rfl (fun ls hl => ?_)
            refine lv_goto (tgt := 4) hx hb dX4_families_78 (by decide) ?_
            exact ih (x1 + v15) (x2 + (nI 1)) _ _ ls hf hG (lv_sub hl [2, 1, 0] rfl)
          refine lv_if_eq (tgt := 72) hx hb dX4_families_65 (by decide) (fun c14 => ?_) (fun c14 => ?_)
          · refine lv_iconst (v := nI 0) hx hb dX4_families_72 rfl ?_
            have qv15 := (ev15.trans (if_pos c14))
            subst qv15
            exact hJ ls (lv_sub hl [0, 2] rfl)
          · refine lv_iconst (v := nI 1) hx hb dX4_families_68 rfl ?_
            refine lv_goto (tgt := 73) hx hb dX4_families_69 (by decide) ?_
            have qv15 := (ev15.trans (if_neg c14))
            subst qv15
            exact hJ ls (lv_sub hl [0, 2] rfl)
        have hL19 : ∀ (fu : Nat) (x4 : Int32) (x5 : Int32) (H : Heap) (locs : List Loc) (ls : Array Slot), f_X4_families_L19 Fu k_19 q_s x2 fu x4 x5 = some (ro) → GG D A s.heap (w_X4 y a q_s q_aside q_before q_known q_slots q_isSaved q_pad q_length q_letters q_heats q_reactions q_newSplits q_storiesThen q_heatThen q_place q_isWrong q_toldLetter q_toldHeat q_toldStory q_toldWords q_toldStories) H locs → lv_has ls 5 [(0, .ref (a 0)), (1, .int x1), (2, .int x2), (3, .int x4), (4, .int x5)] → W p l e (RM 0 0) s m args below meth c H locs 0 0 Q (F0 m 19 ls []) := by
          intro fu
          induction fu with
          | zero => intro x4 x5 H locs ls hf hG hl; exact no_e hf
          | succ fu ih =>
            intro x4 x5 H locs ls hf hG hl
            rw [f_X4_families_L19_s] at hf
            refine lv_iload hx hb dX4_families_19 (lv_at hl 4 rfl) ?_
            refine lv_iload_n hx hb dX4_families_21 rfl (lv_at hl 2 rfl) ?_
            refine lv_icmp_ge (tgt := 63) hx hb dX4_families_22 (by decide) (fun c6 => ?_) (fun c6 => ?_)
            · have hf := it_e c6 hf
              exact hk_19 x4 _ _ ls hf hG (lv_sub hl [0, 1, 2, 3] rfl)
            · have hf := if_e c6 hf
              refine lv_iload_n hx hb dX4_families_25 rfl (lv_at hl 3 rfl) ?_
              obtain ⟨j12, ej12, hf⟩ := jn_e hf
              have hj12 : ∀ (v11 : Int32) (H : Heap) (locs : List Loc) (ls : Array Slot), j12 v11 = some (ro) → GG D A s.heap (w_X4 y a q_s q_aside q_before q_known q_slots q_isSaved q_pad q_length q_letters q_heats q_reactions q_newSplits q_storiesThen q_heatThen q_place q_isWrong q_toldLetter q_toldHeat q_toldStory q_toldWords q_toldStories) H locs → lv_has ls 5 [(0, .ref (a 0)), (1, .int x1), (2, .int x2), (4, .int x5)] → W p l e (RM 0 0) s m args below meth c H locs 0 0 Q (F0 m 56 ls [.int v11]) := by
                intro v11 H locs ls hf hG hl
                rw [ej12] at hf
                refine lv_istore_n (lv' := [(3, .int v11), (0, .ref (a 0)), (1, .int x1), (2, .int x2), (4, .int x5)]) hx hb dX4_families_56 rfl hl (by decide) rfl (fun ls hl => ?_)
                refine lv_iinc (v := x5 + (nI 1)) (lv' := [(4, .int (x5 + (nI 1))), (3, .int v11), (0, .ref (a 0)), (1, .int x1), (2, .int x2)]) hx hb dX4_families_57 hl (k := 4) rfl rfl (by decide) rfl (fun ls hl => ?_)
                refine lv_goto (tgt := 19) hx hb dX4_families_60 (by decide) ?_
                exact ih v11 (x5 + (nI 1)) _ _ ls hf hG (lv_sub hl [2, 3, 4, 1, 0] rfl)
              refine lv_if_eq (tgt := 55) hx hb dX4_families_26 (by decide) (fun c7 => ?_) (fun c7 => ?_)
              · have hf := it_e c7 hf
                refine lv_iconst (v := nI 0) hx hb dX4_families_55 rfl ?_
                exact hj12 (nI 0) _ _ ls hf hG (lv_sub hl [0, 1, 2, 4] rfl)
              · have hf := if_e c7 hf
                refine lv_aload_n hx hb dX4_families_29 rfl (lv_at hl 0 rfl) ?_
                refine w_get4 F hK hG k1 0 rfl 0 (by decide) k0 rfl dX4_families_30 ?_
                refine lv_bipush (v := nI 21) hx hb dX4_families_33 rfl ?_
                refine lv_iload hx hb dX4_families_35 (lv_at hl 4 rfl) ?_
                refine lv_iadd hx hb dX4_families_37 ?_
                obtain ⟨g8, hf⟩ := gd_e hf
                refine w_iald F hK hG 1 rfl g8 dX4_families_38 ?_
                refine lv_aload_n hx hb dX4_families_39 rfl (lv_at hl 0 rfl) ?_
                refine w_get4 F hK hG k1 0 rfl 0 (by decide) k0 rfl dX4_families_40 ?_
                refine lv_bipush (v := nI 21) hx hb dX4_families_43 rfl ?_
                refine lv_iload_n hx hb dX4_families_45 rfl (lv_at hl 2 rfl) ?_
                refine lv_iadd hx hb dX4_families_46 ?_
                obtain ⟨g9, hf⟩ := gd_e hf
                refine w_iald F hK hG 1 rfl g9 dX4_families_47 ?_
                refine lv_icmp_eq (tgt := 55) hx hb dX4_families_48 (by decide) (fun c10 => ?_) (fun c10 => ?_)
                · have hf := it_e c10 hf
                  refine lv_iconst (v := nI 0) hx hb dX4_families_55 rfl ?_
                  exact hj12 (nI 0) _ _ ls hf hG (lv_sub hl [0, 1, 2, 4] rfl)
                · have hf := if_e c10 hf
                  refine lv_iconst (v := nI 1) hx hb dX4_families_51 rfl ?_
                  refine lv_goto (tgt := 56) hx hb dX4_families_52 (by decide) ?_
                  exact hj12 (nI 1) _ _ ls hf hG (lv_sub hl [0, 1, 2, 4] rfl)
        exact hL19 Fu (nI 1) (nI 0) _ _ ls hf hG (lv_sub hl [2, 3, 4, 1, 0] rfl)
  exact hL4 Fu (nI 0) (nI 0) _ _ ls hf hG (lv_sub hl [2, 1, 0] rfl)
set_option maxHeartbeats 1000000 in
set_option maxRecDepth 100000 in
theorem c_X4_greatest (l : Launch) (D : va_G) (y : Nat → ClassId) (a : Nat → Nat) (sz : Nat) (Fu : Nat) (q_s : Ar) (q_aside : Ar) (q_before : Ar) (q_known : Int32) (q_slots : Ar) (q_isSaved : Ar) (q_pad : Ar) (q_length : Int32) (q_letters : Ar) (q_heats : Ar) (q_reactions : Int32) (q_newSplits : Int32) (q_storiesThen : Int32) (q_heatThen : Int32) (q_place : Int32) (q_isWrong : Int32) (q_toldLetter : Ar) (q_toldHeat : Ar) (q_toldStory : Ar) (q_toldWords : Int32) (q_toldStories : Int32) (ro : Int32) (hf : f_X4_greatest Fu q_s = some (ro)) : MI l yX4_greatest wsX4_greatest 0 0 [.ref (a 0)] D y (w_X4 y a q_s q_aside q_before q_known q_slots q_isSaved q_pad q_length q_letters q_heats q_reactions q_newSplits q_storiesThen q_heatThen q_place q_isWrong q_toldLetter q_toldHeat q_toldStory q_toldWords q_toldStories) sz ro (w_X4 y a q_s q_aside q_before q_known q_slots q_isSaved q_pad q_length q_letters q_heats q_reactions q_newSplits q_storiesThen q_heatThen q_place q_isWrong q_toldLetter q_toldHeat q_toldStory q_toldWords q_toldStories) := by
  refine M_i (cc := cX4_greatest) (maxL := 3) (own := RX4) (by decide) rfl rfl (Nat.le_of_ble_eq_true rfl) ?_
  intro p e s m args below meth c A Q F hK hA H locs hG hret ls hl
  have hx := F.1
  have hb := F.2.1
  have hl : lv_has ls 3 [(0, .ref (a 0))] := hl
  have k0 := F.2.2.2.2 (.fieldLink RX4 7 "HeatedStoriesModel" "s" "[I") (List.mem_of_getElem? (i := 1) rfl)
  have k1 : ∀ w ∈ wsX40, w ∈ wsX4_greatest := (fun w h => List.mem_cons_of_mem _ (List.mem_append_right _ (h)))
  unfold f_X4_greatest at hf
  refine lv_bipush (v := -6) hx hb dX4_greatest_0 rfl ?_
  refine lv_istore_n (lv' := [(1, .int (-6)), (0, .ref (a 0))]) hx hb dX4_greatest_2 rfl hl (by decide) rfl (fun ls hl => ?_)
  refine lv_iconst (v := nI 0) hx hb dX4_greatest_3 rfl ?_
  refine lv_istore_n (lv' := [(2, .int (nI 0)), (1, .int (-6)), (0, .ref (a 0))]) hx hb dX4_greatest_4 rfl hl (by decide) rfl (fun ls hl => ?_)
  obtain ⟨k_5, ek_5, hf⟩ := jn_e hf
  have hk_5 : ∀ (v9 : Int32) (H : Heap) (locs : List Loc) (ls : Array Slot), k_5 v9 = some (ro) → GG D A s.heap (w_X4 y a q_s q_aside q_before q_known q_slots q_isSaved q_pad q_length q_letters q_heats q_reactions q_newSplits q_storiesThen q_heatThen q_place q_isWrong q_toldLetter q_toldHeat q_toldStory q_toldWords q_toldStories) H locs → lv_has ls 3 [(1, .int v9)] → W p l e (RM 0 0) s m args below meth c H locs 0 0 Q (F0 m 48 ls []) := by
    intro v9 H locs ls hf hG hl
    rw [ek_5] at hf
    refine lv_iload_n hx hb dX4_greatest_48 rfl (lv_at hl 0 rfl) ?_
    have hf := so_e hf
    have e0 : v9 = ro := hf
    exact hret _ _ _ _ _ e0 hG dX4_greatest_49
  have hL5 : ∀ (fu : Nat) (x1 : Int32) (x2 : Int32) (H : Heap) (locs : List Loc) (ls : Array Slot), f_X4_greatest_L5 Fu k_5 q_s fu x1 x2 = some (ro) → GG D A s.heap (w_X4 y a q_s q_aside q_before q_known q_slots q_isSaved q_pad q_length q_letters q_heats q_reactions q_newSplits q_storiesThen q_heatThen q_place q_isWrong q_toldLetter q_toldHeat q_toldStory q_toldWords q_toldStories) H locs → lv_has ls 3 [(0, .ref (a 0)), (1, .int x1), (2, .int x2)] → W p l e (RM 0 0) s m args below meth c H locs 0 0 Q (F0 m 5 ls []) := by
    intro fu
    induction fu with
    | zero => intro x1 x2 H locs ls hf hG hl; exact no_e hf
    | succ fu ih =>
      intro x1 x2 H locs ls hf hG hl
      rw [f_X4_greatest_L5_s] at hf
      refine lv_iload_n hx hb dX4_greatest_5 rfl (lv_at hl 2 rfl) ?_
      refine lv_aload_n hx hb dX4_greatest_6 rfl (lv_at hl 0 rfl) ?_
      refine w_get4 F hK hG k1 0 rfl 0 (by decide) k0 rfl dX4_greatest_7 ?_
      refine lv_iconst (v := nI 3) hx hb dX4_greatest_10 rfl ?_
      refine w_ialdk F hK hG 1 rfl (Nat.le_of_ble_eq_true rfl) (Nat.le_of_ble_eq_true rfl) dX4_greatest_11 ?_
      refine lv_icmp_ge (tgt := 48) hx hb dX4_greatest_12 (by decide) (fun c3 => ?_) (fun c3 => ?_)
      · have hf := it_e c3 hf
        exact hk_5 x1 _ _ ls hf hG (lv_sub hl [1] rfl)
      · have hf := if_e c3 hf
        refine lv_aload_n hx hb dX4_greatest_15 rfl (lv_at hl 0 rfl) ?_
        refine w_get4 F hK hG k1 0 rfl 0 (by decide) k0 rfl dX4_greatest_16 ?_
        refine lv_bipush (v := nI 33) hx hb dX4_greatest_19 rfl ?_
        refine lv_iload_n hx hb dX4_greatest_21 rfl (lv_at hl 2 rfl) ?_
        refine lv_iadd hx hb dX4_greatest_22 ?_
        obtain ⟨g4, hf⟩ := gd_e hf
        refine w_iald F hK hG 1 rfl g4 dX4_greatest_23 ?_
        refine lv_iload_n hx hb dX4_greatest_24 rfl (lv_at hl 1 rfl) ?_
        obtain ⟨j8, ej8, hf⟩ := jn_e hf
        have hj8 : ∀ (v7 : Int32) (H : Heap) (locs : List Loc) (ls : Array Slot), j8 v7 = some (ro) → GG D A s.heap (w_X4 y a q_s q_aside q_before q_known q_slots q_isSaved q_pad q_length q_letters q_heats q_reactions q_newSplits q_storiesThen q_heatThen q_place q_isWrong q_toldLetter q_toldHeat q_toldStory q_toldWords q_toldStories) H locs → lv_has ls 3 [(0, .ref (a 0)), (2, .int x2)] → W p l e (RM 0 0) s m args below meth c H locs 0 0 Q (F0 m 41 ls [.int v7]) := by
          intro v7 H locs ls hf hG hl
          rw [ej8] at hf
          refine lv_istore_n (lv' := [(1, .int v7), (0, .ref (a 0)), (2, .int x2)]) hx hb dX4_greatest_41 rfl hl (by decide) rfl (fun ls hl => ?_)
          refine lv_iinc (v := x2 + (nI 1)) (lv' := [(2, .int (x2 + (nI 1))), (1, .int v7), (0, .ref (a 0))]) hx hb dX4_greatest_42 hl (k := 2) rfl rfl (by decide) rfl (fun ls hl => ?_)
          refine lv_goto (tgt := 5) hx hb dX4_greatest_45 (by decide) ?_
          exact ih v7 (x2 + (nI 1)) _ _ ls hf hG (lv_sub hl [2, 1, 0] rfl)
        refine lv_icmp_le (tgt := 40) hx hb dX4_greatest_25 (by decide) (fun c5 => ?_) (fun c5 => ?_)
        · have hf := it_e c5 hf
          refine lv_iload_n hx hb dX4_greatest_40 rfl (lv_at hl 1 rfl) ?_
          exact hj8 x1 _ _ ls hf hG (lv_sub hl [0, 2] rfl)
        · have hf := if_e c5 hf
          refine lv_aload_n hx hb dX4_greatest_28 rfl (lv_at hl 0 rfl) ?_
          refine w_get4 F hK hG k1 0 rfl 0 (by decide) k0 rfl dX4_greatest_29 ?_
          refine lv_bipush (v := nI 33) hx hb dX4_greatest_32 rfl ?_
          refine lv_iload_n hx hb dX4_greatest_34 rfl (lv_at hl 2 rfl) ?_
          refine lv_iadd hx hb dX4_greatest_35 ?_
          obtain ⟨g6, hf⟩ := gd_e hf
          refine w_iald F hK hG 1 rfl g6 dX4_greatest_36 ?_
          refine lv_goto (tgt := 41) hx hb dX4_greatest_37 (by decide) ?_
          exact hj8 (q_s ((nI 33) + x2).toNatClampNeg) _ _ ls hf hG (lv_sub hl [0, 2] rfl)
  exact hL5 Fu (-6) (nI 0) _ _ ls hf hG (lv_sub hl [2, 1, 0] rfl)
set_option maxHeartbeats 1000000 in
set_option maxRecDepth 100000 in
theorem c_X4_count (l : Launch) (D : va_G) (y : Nat → ClassId) (a : Nat → Nat) (sz : Nat) (Fu : Nat) (q_s : Ar) (q_aside : Ar) (q_before : Ar) (q_known : Int32) (q_slots : Ar) (q_isSaved : Ar) (q_pad : Ar) (q_length : Int32) (q_letters : Ar) (q_heats : Ar) (q_reactions : Int32) (q_newSplits : Int32) (q_storiesThen : Int32) (q_heatThen : Int32) (q_place : Int32) (q_isWrong : Int32) (q_toldLetter : Ar) (q_toldHeat : Ar) (q_toldStory : Ar) (q_toldWords : Int32) (q_toldStories : Int32) (p1 : Int32) (ro : Int32) (hf : f_X4_count Fu q_s q_known q_length p1 = some (ro)) : MI l yX4_count wsX4_count 1 24 [.ref (a 0), .int p1] D y (w_X4 y a q_s q_aside q_before q_known q_slots q_isSaved q_pad q_length q_letters q_heats q_reactions q_newSplits q_storiesThen q_heatThen q_place q_isWrong q_toldLetter q_toldHeat q_toldStory q_toldWords q_toldStories) sz ro (w_X4 y a q_s q_aside q_before q_known q_slots q_isSaved q_pad q_length q_letters q_heats q_reactions q_newSplits q_storiesThen q_heatThen q_place q_isWrong q_toldLetter q_toldHeat q_toldStory q_toldWords q_toldStories) := by
  refine M_i (cc := cX4_count) (maxL := 2) (own := RX4) (by decide) rfl rfl (Nat.le_of_ble_eq_true rfl) ?_
  intro p e s m args below meth c A Q F hK hA H locs hG hret ls hl
  have hx := F.1
  have hb := F.2.1
  have hl : lv_has ls 2 [(0, .ref (a 0)), (1, .int p1)] := hl
  have k0 := F.2.2.2.2 (.fieldLink RX4 7 "HeatedStoriesModel" "s" "[I") (List.mem_of_getElem? (i := 1) rfl)
  have k1 : ∀ w ∈ wsX40, w ∈ wsX4_count := (fun w h => List.mem_cons_of_mem _ (List.mem_append_right _ (h)))
  have k2 := F.2.2.2.2 (.fieldLink RX4 119 "HeatedStoriesModel" "length" "I") (List.mem_of_getElem? (i := 2) rfl)
  have k3 := F.2.2.2.2 (.fieldLink RX4 52 "HeatedStoriesModel" "known" "I") (List.mem_of_getElem? (i := 3) rfl)
  unfold f_X4_count at hf
  refine lv_iload_n hx hb dX4_count_0 rfl (lv_at hl 1 rfl) ?_
  obtain ⟨v1, ev1, hf⟩ := nm_o hf
  refine w_nm ev1 ?_
  by_cases cv1_0 : v1 = nI 0
  · subst cv1_0
    have hf := it_e rfl hf
    refine lv_tableIn (tgt := 68) hx hb dX4_count_1 (by decide) (by decide) rfl (by decide) ?_
    refine lv_aload_n hx hb dX4_count_68 rfl (lv_at hl 0 rfl) ?_
    refine w_get4 F hK hG k1 0 rfl 0 (by decide) k0 rfl dX4_count_69 ?_
    refine lv_iconst (v := nI 3) hx hb dX4_count_72 rfl ?_
    refine w_ialdk F hK hG 1 rfl (Nat.le_of_ble_eq_true rfl) (Nat.le_of_ble_eq_true rfl) dX4_count_73 ?_
    have hf := so_e hf
    have e0 : (q_s 3) = ro := hf
    exact hret _ _ _ _ _ e0 hG dX4_count_74
  have hf := if_e cv1_0 hf
  by_cases cv1_1 : v1 = nI 1
  · subst cv1_1
    have hf := it_e rfl hf
    refine lv_tableIn (tgt := 75) hx hb dX4_count_1 (by decide) (by decide) rfl (by decide) ?_
    refine lv_aload_n hx hb dX4_count_75 rfl (lv_at hl 0 rfl) ?_
    refine w_get4 F hK hG k1 0 rfl 0 (by decide) k0 rfl dX4_count_76 ?_
    refine lv_iconst (v := nI 4) hx hb dX4_count_79 rfl ?_
    refine w_ialdk F hK hG 1 rfl (Nat.le_of_ble_eq_true rfl) (Nat.le_of_ble_eq_true rfl) dX4_count_80 ?_
    have hf := so_e hf
    have e0 : (q_s 4) = ro := hf
    exact hret _ _ _ _ _ e0 hG dX4_count_81
  have hf := if_e cv1_1 hf
  by_cases cv1_2 : v1 = nI 2
  · subst cv1_2
    have hf := it_e rfl hf
    refine lv_tableIn (tgt := 82) hx hb dX4_count_1 (by decide) (by decide) rfl (by decide) ?_
    refine lv_aload_n hx hb dX4_count_82 rfl (lv_at hl 0 rfl) ?_
    obtain ⟨r2, h3, hf⟩ := bd1_e hf
    refine k_Wi F hK hA hG (c_X4_allHeat l D y a H.size Fu q_s q_aside q_before q_known q_slots q_isSaved q_pad q_length q_letters q_heats q_reactions q_newSplits q_storiesThen q_heatThen q_place q_isWrong q_toldLetter q_toldHeat q_toldStory q_toldWords q_toldStories r2 h3) (cwV 0 F.2.2.2.2 gX4_count_X4_allHeat rfl rfl rfl (by decide +kernel) ⟨Nat.le_of_ble_eq_true rfl, Nat.le_of_ble_eq_true rfl⟩) 0 rfl rfl rfl rfl rfl hl.1 (Nat.le_of_ble_eq_true rfl) dX4_count_83 ⟨Nat.le_refl 0, Nat.le_refl 0⟩ (fun H locs hG => ?_)
    have hf := so_e hf
    have e0 : r2 = ro := hf
    exact hret _ _ _ _ _ e0 hG dX4_count_86
  have hf := if_e cv1_2 hf
  by_cases cv1_3 : v1 = nI 3
  · subst cv1_3
    have hf := it_e rfl hf
    refine lv_tableIn (tgt := 87) hx hb dX4_count_1 (by decide) (by decide) rfl (by decide) ?_
    refine lv_aload_n hx hb dX4_count_87 rfl (lv_at hl 0 rfl) ?_
    obtain ⟨r4, h5, hf⟩ := bd1_e hf
    refine k_Wi F hK hA hG (c_X4_families l D y a H.size Fu q_s q_aside q_before q_known q_slots q_isSaved q_pad q_length q_letters q_heats q_reactions q_newSplits q_storiesThen q_heatThen q_place q_isWrong q_toldLetter q_toldHeat q_toldStory q_toldWords q_toldStories r4 h5) (cwV 0 F.2.2.2.2 gX4_count_X4_families rfl rfl rfl (by decide +kernel) ⟨Nat.le_of_ble_eq_true rfl, Nat.le_of_ble_eq_true rfl⟩) 0 rfl rfl rfl rfl rfl hl.1 (Nat.le_of_ble_eq_true rfl) dX4_count_88 ⟨Nat.le_refl 0, Nat.le_refl 0⟩ (fun H locs hG => ?_)
    have hf := so_e hf
    have e0 : r4 = ro := hf
    exact hret _ _ _ _ _ e0 hG dX4_count_91
  have hf := if_e cv1_3 hf
  by_cases cv1_4 : v1 = nI 4
  · subst cv1_4
    have hf := it_e rfl hf
    refine lv_tableIn (tgt := 92) hx hb dX4_count_1 (by decide) (by decide) rfl (by decide) ?_
    refine lv_aload_n hx hb dX4_count_92 rfl (lv_at hl 0 rfl) ?_
    refine w_get4 F hK hG k1 0 rfl 0 (by decide) k0 rfl dX4_count_93 ?_
    refine lv_bipush (v := nI 6) hx hb dX4_count_96 rfl ?_
    refine lv_iload_n hx hb dX4_count_98 rfl (lv_at hl 1 rfl) ?_
    refine lv_iadd hx hb dX4_count_99 ?_
    refine lv_iconst (v := nI 4) hx hb dX4_count_100 rfl ?_
    refine lv_isub hx hb dX4_count_101 ?_
    obtain ⟨g6, hf⟩ := gd_e hf
    refine w_iald F hK hG 1 rfl g6 dX4_count_102 ?_
    have hf := so_e hf
    have e0 : (q_s (((nI 6) + p1) - (nI 4)).toNatClampNeg) = ro := hf
    exact hret _ _ _ _ _ e0 hG dX4_count_103
  have hf := if_e cv1_4 hf
  by_cases cv1_5 : v1 = nI 5
  · subst cv1_5
    have hf := it_e rfl hf
    refine lv_tableIn (tgt := 92) hx hb dX4_count_1 (by decide) (by decide) rfl (by decide) ?_
    refine lv_aload_n hx hb dX4_count_92 rfl (lv_at hl 0 rfl) ?_
    refine w_get4 F hK hG k1 0 rfl 0 (by decide) k0 rfl dX4_count_93 ?_
    refine lv_bipush (v := nI 6) hx hb dX4_count_96 rfl ?_
    refine lv_iload_n hx hb dX4_count_98 rfl (lv_at hl 1 rfl) ?_
    refine lv_iadd hx hb dX4_count_99 ?_
    refine lv_iconst (v := nI 4) hx hb dX4_count_100 rfl ?_
    refine lv_isub hx hb dX4_count_101 ?_
    obtain ⟨g7, hf⟩ := gd_e hf
    refine w_iald F hK hG 1 rfl g7 dX4_count_102 ?_
    have hf := so_e hf
    have e0 : (q_s (((nI 6) + p1) - (nI 4)).toNatClampNeg) = ro := hf
    exact hret _ _ _ _ _ e0 hG dX4_count_103
  have hf := if_e cv1_5 hf
  by_cases cv1_6 : v1 = nI 6
  · subst cv1_6
    have hf := it_e rfl hf
    refine lv_tableIn (tgt := 92) hx hb dX4_count_1 (by decide) (by decide) rfl (by decide) ?_
    refine lv_aload_n hx hb dX4_count_92 rfl (lv_at hl 0 rfl) ?_
    refine w_get4 F hK hG k1 0 rfl 0 (by decide) k0 rfl dX4_count_93 ?_
    refine lv_bipush (v := nI 6) hx hb dX4_count_96 rfl ?_
    refine lv_iload_n hx hb dX4_count_98 rfl (lv_at hl 1 rfl) ?_
    refine lv_iadd hx hb dX4_count_99 ?_
    refine lv_iconst (v := nI 4) hx hb dX4_count_100 rfl ?_
    refine lv_isub hx hb dX4_count_101 ?_
    obtain ⟨g8, hf⟩ := gd_e hf
    refine w_iald F hK hG 1 rfl g8 dX4_count_102 ?_
    have hf := so_e hf
    have e0 : (q_s (((nI 6) + p1) - (nI 4)).toNatClampNeg) = ro := hf
    exact hret _ _ _ _ _ e0 hG dX4_count_103
  have hf := if_e cv1_6 hf
  by_cases cv1_7 : v1 = nI 7
  · subst cv1_7
    have hf := it_e rfl hf
    refine lv_tableIn (tgt := 104) hx hb dX4_count_1 (by decide) (by decide) rfl (by decide) ?_
    refine lv_aload_n hx hb dX4_count_104 rfl (lv_at hl 0 rfl) ?_
    obtain ⟨r9, h10, hf⟩ := bd1_e hf
    refine k_Wi F hK hA hG (c_X4_greatest l D y a H.size Fu q_s q_aside q_before q_known q_slots q_isSaved q_pad q_length q_letters q_heats q_reactions q_newSplits q_storiesThen q_heatThen q_place q_isWrong q_toldLetter q_toldHeat q_toldStory q_toldWords q_toldStories r9 h10) (cwV 0 F.2.2.2.2 gX4_count_X4_greatest rfl rfl rfl (by decide +kernel) ⟨Nat.le_of_ble_eq_true rfl, Nat.le_of_ble_eq_true rfl⟩) 0 rfl rfl rfl rfl rfl hl.1 (Nat.le_of_ble_eq_true rfl) dX4_count_105 ⟨Nat.le_refl 0, Nat.le_refl 0⟩ (fun H locs hG => ?_)
    have hf := so_e hf
    have e0 : r9 = ro := hf
    exact hret _ _ _ _ _ e0 hG dX4_count_108
  have hf := if_e cv1_7 hf
  by_cases cv1_8 : v1 = nI 8
  · subst cv1_8
    have hf := it_e rfl hf
    refine lv_tableIn (tgt := 109) hx hb dX4_count_1 (by decide) (by decide) rfl (by decide) ?_
    refine lv_aload_n hx hb dX4_count_109 rfl (lv_at hl 0 rfl) ?_
    refine w_get4 F hK hG k1 0 rfl 0 (by decide) k0 rfl dX4_count_110 ?_
    refine lv_iconst (v := nI 0) hx hb dX4_count_113 rfl ?_
    refine lv_iload_n hx hb dX4_count_114 rfl (lv_at hl 1 rfl) ?_
    refine lv_iadd hx hb dX4_count_115 ?_
    refine lv_bipush (v := nI 8) hx hb dX4_count_116 rfl ?_
    refine lv_isub hx hb dX4_count_118 ?_
    obtain ⟨g11, hf⟩ := gd_e hf
    refine w_iald F hK hG 1 rfl g11 dX4_count_119 ?_
    have hf := so_e hf
    have e0 : (q_s (((nI 0) + p1) - (nI 8)).toNatClampNeg) = ro := hf
    exact hret _ _ _ _ _ e0 hG dX4_count_120
  have hf := if_e cv1_8 hf
  by_cases cv1_9 : v1 = nI 9
  · subst cv1_9
    have hf := it_e rfl hf
    refine lv_tableIn (tgt := 109) hx hb dX4_count_1 (by decide) (by decide) rfl (by decide) ?_
    refine lv_aload_n hx hb dX4_count_109 rfl (lv_at hl 0 rfl) ?_
    refine w_get4 F hK hG k1 0 rfl 0 (by decide) k0 rfl dX4_count_110 ?_
    refine lv_iconst (v := nI 0) hx hb dX4_count_113 rfl ?_
    refine lv_iload_n hx hb dX4_count_114 rfl (lv_at hl 1 rfl) ?_
    refine lv_iadd hx hb dX4_count_115 ?_
    refine lv_bipush (v := nI 8) hx hb dX4_count_116 rfl ?_
    refine lv_isub hx hb dX4_count_118 ?_
    obtain ⟨g12, hf⟩ := gd_e hf
    refine w_iald F hK hG 1 rfl g12 dX4_count_119 ?_
    have hf := so_e hf
    have e0 : (q_s (((nI 0) + p1) - (nI 8)).toNatClampNeg) = ro := hf
    exact hret _ _ _ _ _ e0 hG dX4_count_120
  have hf := if_e cv1_9 hf
  by_cases cv1_10 : v1 = nI 10
  · subst cv1_10
    have hf := it_e rfl hf
    refine lv_tableIn (tgt := 109) hx hb dX4_count_1 (by decide) (by decide) rfl (by decide) ?_
    refine lv_aload_n hx hb dX4_count_109 rfl (lv_at hl 0 rfl) ?_
    refine w_get4 F hK hG k1 0 rfl 0 (by decide) k0 rfl dX4_count_110 ?_
    refine lv_iconst (v := nI 0) hx hb dX4_count_113 rfl ?_
    refine lv_iload_n hx hb dX4_count_114 rfl (lv_at hl 1 rfl) ?_
    refine lv_iadd hx hb dX4_count_115 ?_
    refine lv_bipush (v := nI 8) hx hb dX4_count_116 rfl ?_
    refine lv_isub hx hb dX4_count_118 ?_
    obtain ⟨g13, hf⟩ := gd_e hf
    refine w_iald F hK hG 1 rfl g13 dX4_count_119 ?_
    have hf := so_e hf
    have e0 : (q_s (((nI 0) + p1) - (nI 8)).toNatClampNeg) = ro := hf
    exact hret _ _ _ _ _ e0 hG dX4_count_120
  have hf := if_e cv1_10 hf
  by_cases cv1_11 : v1 = nI 11
  · subst cv1_11
    have hf := it_e rfl hf
    refine lv_tableIn (tgt := 121) hx hb dX4_count_1 (by decide) (by decide) rfl (by decide) ?_
    refine lv_aload_n hx hb dX4_count_121 rfl (lv_at hl 0 rfl) ?_
    refine w_get4 F hK hG k1 0 rfl 7 (by decide) k2 rfl dX4_count_122 ?_
    have hf := so_e hf
    have e0 : q_length = ro := hf
    exact hret _ _ _ _ _ e0 hG dX4_count_125
  have hf := if_e cv1_11 hf
  by_cases cv1_12 : v1 = nI 12
  · subst cv1_12
    have hf := it_e rfl hf
    refine lv_tableIn (tgt := 126) hx hb dX4_count_1 (by decide) (by decide) rfl (by decide) ?_
    refine lv_aload_n hx hb dX4_count_126 rfl (lv_at hl 0 rfl) ?_
    refine w_get4 F hK hG k1 0 rfl 3 (by decide) k3 rfl dX4_count_127 ?_
    have hf := so_e hf
    have e0 : q_known = ro := hf
    exact hret _ _ _ _ _ e0 hG dX4_count_130
  have hf := if_e cv1_12 hf
  refine lv_tableOut (tgt := 131) hx hb dX4_count_1 (tsw 12 (by decide) (fun k hk => ?_)) (by decide) ?_
  · rcases (show k = 0 ∨ k = 1 ∨ k = 2 ∨ k = 3 ∨ k = 4 ∨ k = 5 ∨ k = 6 ∨ k = 7 ∨ k = 8 ∨ k = 9 ∨ k = 10 ∨ k = 11 ∨ k = 12 by omega) with rfl | rfl | rfl | rfl | rfl | rfl | rfl | rfl | rfl | rfl | rfl | rfl | rfl
    · exact cv1_0
    · exact cv1_1
    · exact cv1_2
    · exact cv1_3
    · exact cv1_4
    · exact cv1_5
    · exact cv1_6
    · exact cv1_7
    · exact cv1_8
    · exact cv1_9
    · exact cv1_10
    · exact cv1_11
    · exact cv1_12
  refine lv_bipush (v := -2) hx hb dX4_count_131 rfl ?_
  have hf := so_e hf
  have e0 : (-2) = ro := hf
  exact hret _ _ _ _ _ e0 hG dX4_count_133
set_option maxHeartbeats 1000000 in
set_option maxRecDepth 100000 in
theorem c_X4_letter (l : Launch) (D : va_G) (y : Nat → ClassId) (a : Nat → Nat) (sz : Nat) (Fu : Nat) (q_s : Ar) (q_aside : Ar) (q_before : Ar) (q_known : Int32) (q_slots : Ar) (q_isSaved : Ar) (q_pad : Ar) (q_length : Int32) (q_letters : Ar) (q_heats : Ar) (q_reactions : Int32) (q_newSplits : Int32) (q_storiesThen : Int32) (q_heatThen : Int32) (q_place : Int32) (q_isWrong : Int32) (q_toldLetter : Ar) (q_toldHeat : Ar) (q_toldStory : Ar) (q_toldWords : Int32) (q_toldStories : Int32) (p1 : Int32) (p2 : Int32) (ro : Int32) (hf : f_X4_letter Fu q_s p1 p2 = some (ro)) : MI l yX4_letter wsX4_letter 3 70 [.ref (a 0), .int p1, .int p2] D y (w_X4 y a q_s q_aside q_before q_known q_slots q_isSaved q_pad q_length q_letters q_heats q_reactions q_newSplits q_storiesThen q_heatThen q_place q_isWrong q_toldLetter q_toldHeat q_toldStory q_toldWords q_toldStories) sz ro (w_X4 y a q_s q_aside q_before q_known q_slots q_isSaved q_pad q_length q_letters q_heats q_reactions q_newSplits q_storiesThen q_heatThen q_place q_isWrong q_toldLetter q_toldHeat q_toldStory q_toldWords q_toldStories) := by
  refine M_i (cc := cX4_letter) (maxL := 5) (own := RX4) (by decide) rfl rfl (Nat.le_of_ble_eq_true rfl) ?_
  intro p e s m args below meth c A Q F hK hA H locs hG hret ls hl
  have hx := F.1
  have hb := F.2.1
  have hl : lv_has ls 5 [(0, .ref (a 0)), (1, .int p1), (2, .int p2)] := hl
  have k0 := F.2.2.2.2 (.fieldLink RX4 7 "HeatedStoriesModel" "s" "[I") (List.mem_of_getElem? (i := 1) rfl)
  have k1 : ∀ w ∈ wsX40, w ∈ wsX4_letter := (fun w h => List.mem_cons_of_mem _ (List.mem_append_right _ (h)))
  unfold f_X4_letter at hf
  refine lv_iload_n hx hb dX4_letter_0 rfl (lv_at hl 1 rfl) ?_
  refine lv_iconst (v := nI 0) hx hb dX4_letter_1 rfl ?_
  refine lv_bipush (v := nI 25) hx hb dX4_letter_2 rfl ?_
  obtain ⟨r1, h2, hf⟩ := bd1_e hf
  refine k_Si F hK hA hG (c_X4_in l D y  H.size Fu  p1 (nI 0) (nI 25) r1 h2) (va_cwS 3 F.2.2.2.2 gX4_letter_X4_in rfl rfl rfl (by decide +kernel) ⟨Nat.le_of_ble_eq_true rfl, Nat.le_of_ble_eq_true rfl⟩) rfl rfl hl.1 (Nat.le_of_ble_eq_true rfl) dX4_letter_4 ⟨Nat.le_refl 0, Nat.le_refl 0⟩ (fun H locs hG => ?_)
  refine lv_if_eq (tgt := 19) hx hb dX4_letter_7 (by decide) (fun c3 => ?_) (fun c3 => ?_)
  · have hf := it_e c3 hf
    refine lv_bipush (v := -2) hx hb dX4_letter_19 rfl ?_
    have hf := so_e hf
    have e0 : (-2) = ro := hf
    exact hret _ _ _ _ _ e0 hG dX4_letter_21
  · have hf := if_e c3 hf
    refine lv_iload_n hx hb dX4_letter_10 rfl (lv_at hl 2 rfl) ?_
    refine lv_iconst (v := nI 0) hx hb dX4_letter_11 rfl ?_
    refine lv_iconst (v := nI 3) hx hb dX4_letter_12 rfl ?_
    obtain ⟨r4, h5, hf⟩ := bd1_e hf
    refine k_Si F hK hA hG (c_X4_in l D y  H.size Fu  p2 (nI 0) (nI 3) r4 h5) (va_cwS 3 F.2.2.2.2 gX4_letter_X4_in rfl rfl rfl (by decide +kernel) ⟨Nat.le_of_ble_eq_true rfl, Nat.le_of_ble_eq_true rfl⟩) rfl rfl hl.1 (Nat.le_of_ble_eq_true rfl) dX4_letter_13 ⟨Nat.le_refl 0, Nat.le_refl 0⟩ (fun H locs hG => ?_)
    refine lv_if_ne (tgt := 22) hx hb dX4_letter_16 (by decide) (fun c6 => ?_) (fun c6 => ?_)
    · have hf := if_e c6 hf
      refine lv_iconst (v := nI 0) hx hb dX4_letter_22 rfl ?_
      refine lv_istore_n (lv' := [(3, .int (nI 0)), (0, .ref (a 0)), (1, .int p1), (2, .int p2)]) hx hb dX4_letter_23 rfl hl (by decide) rfl (fun ls hl => ?_)
      refine lv_iconst (v := nI 0) hx hb dX4_letter_24 rfl ?_
      refine lv_istore (lv' := [(4, .int (nI 0)), (3, .int (nI 0)), (0, .ref (a 0)), (1, .int p1), (2, .int p2)]) hx hb dX4_letter_25 hl (by decide) rfl (fun ls hl => ?_)
      obtain ⟨k_27, ek_27, hf⟩ := jn_e hf
      have hk_27 : ∀ (v24 : Int32) (H : Heap) (locs : List Loc) (ls : Array Slot), k_27 v24 = some (ro) → GG D A s.heap (w_X4 y a q_s q_aside q_before q_known q_slots q_isSaved q_pad q_length q_letters q_heats q_reactions q_newSplits q_storiesThen q_heatThen q_place q_isWrong q_toldLetter q_toldHeat q_toldStory q_toldWords q_toldStories) H locs → lv_has ls 5 [(0, .ref (a 0)), (1, .int p1), (2, .int p2), (3, .int v24)] → W p l e (RM 3 70) s m args below meth c H locs 0 0 Q (F0 m 93 ls []) := by
        intro v24 H locs ls hf hG hl
        rw [ek_27] at hf
        refine lv_iconst (v := nI 0) hx hb dX4_letter_93 rfl ?_
        refine lv_istore (lv' := [(4, .int (nI 0)), (0, .ref (a 0)), (1, .int p1), (2, .int p2), (3, .int v24)]) hx hb dX4_letter_94 hl (by decide) rfl (fun ls hl => ?_)
        obtain ⟨k_96, ek_96, hf⟩ := jn_e hf
        have hk_96 : ∀ (v48 : Int32) (H : Heap) (locs : List Loc) (ls : Array Slot), k_96 v48 = some (ro) → GG D A s.heap (w_X4 y a q_s q_aside q_before q_known q_slots q_isSaved q_pad q_length q_letters q_heats q_reactions q_newSplits q_storiesThen q_heatThen q_place q_isWrong q_toldLetter q_toldHeat q_toldStory q_toldWords q_toldStories) H locs → lv_has ls 5 [(3, .int v48)] → W p l e (RM 3 70) s m args below meth c H locs 0 0 Q (F0 m 159 ls []) := by
          intro v48 H locs ls hf hG hl
          rw [ek_96] at hf
          refine lv_iload_n hx hb dX4_letter_159 rfl (lv_at hl 0 rfl) ?_
          have hf := so_e hf
          have e0 : v48 = ro := hf
          exact hret _ _ _ _ _ e0 hG dX4_letter_160
        have hL96 : ∀ (fu : Nat) (x25 : Int32) (x26 : Int32) (H : Heap) (locs : List Loc) (ls : Array Slot), f_X4_letter_L96 Fu k_96 q_s p1 p2 fu x25 x26 = some (ro) → GG D A s.heap (w_X4 y a q_s q_aside q_before q_known q_slots q_isSaved q_pad q_length q_letters q_heats q_reactions q_newSplits q_storiesThen q_heatThen q_place q_isWrong q_toldLetter q_toldHeat q_toldStory q_toldWords q_toldStories) H locs → lv_has ls 5 [(0, .ref (a 0)), (1, .int p1), (2, .int p2), (3, .int x25), (4, .int x26)] → W p l e (RM 3 70) s m args below meth c H locs 0 0 Q (F0 m 96 ls []) := by
          intro fu
          induction fu with
          | zero => intro x25 x26 H locs ls hf hG hl; exact no_e hf
          | succ fu ih =>
            intro x25 x26 H locs ls hf hG hl
            rw [f_X4_letter_L96_s] at hf
            refine lv_iload hx hb dX4_letter_96 (lv_at hl 4 rfl) ?_
            refine lv_aload_n hx hb dX4_letter_98 rfl (lv_at hl 0 rfl) ?_
            refine w_get4 F hK hG k1 0 rfl 0 (by decide) k0 rfl dX4_letter_99 ?_
            refine lv_iconst (v := nI 3) hx hb dX4_letter_102 rfl ?_
            refine w_ialdk F hK hG 1 rfl (Nat.le_of_ble_eq_true rfl) (Nat.le_of_ble_eq_true rfl) dX4_letter_103 ?_
            refine lv_icmp_ge (tgt := 159) hx hb dX4_letter_104 (by decide) (fun c27 => ?_) (fun c27 => ?_)
            · have hf := it_e c27 hf
              exact hk_96 x25 _ _ ls hf hG (lv_sub hl [3] rfl)
            · have hf := if_e c27 hf
              refine lv_iload_n hx hb dX4_letter_107 rfl (lv_at hl 2 rfl) ?_
              refine lv_iconst (v := nI 1) hx hb dX4_letter_108 rfl ?_
              refine lv_icmp_eq (tgt := 117) hx hb dX4_letter_109 (by decide) (fun c28 => ?_) (fun c28 => ?_)
              · have hf := it_e c28 hf
                refine lv_iload_n hx hb dX4_letter_117 rfl (lv_at hl 3 rfl) ?_
                refine lv_iload_n hx hb dX4_letter_118 rfl (lv_at hl 2 rfl) ?_
                refine lv_iconst (v := nI 1) hx hb dX4_letter_119 rfl ?_
                obtain ⟨j37, ej37, hf⟩ := jn_e hf
                have hj37 : ∀ (v36 : Int32) (H : Heap) (locs : List Loc) (ls : Array Slot), j37 v36 = some (ro) → GG D A s.heap (w_X4 y a q_s q_aside q_before q_known q_slots q_isSaved q_pad q_length q_letters q_heats q_reactions q_newSplits q_storiesThen q_heatThen q_place q_isWrong q_toldLetter q_toldHeat q_toldStory q_toldWords q_toldStories) H locs → lv_has ls 5 [(0, .ref (a 0)), (1, .int p1), (2, .int p2), (4, .int x26)] → W p l e (RM 3 70) s m args below meth c H locs 0 0 Q (F0 m 151 ls [.int v36, .int x25]) := by
                  intro v36 H locs ls hf hG hl
                  rw [ej37] at hf
                  refine lv_iadd hx hb dX4_letter_151 ?_
                  refine lv_istore_n (lv' := [(3, .int (x25 + v36)), (0, .ref (a 0)), (1, .int p1), (2, .int p2), (4, .int x26)]) hx hb dX4_letter_152 rfl hl (by decide) rfl (fun ls hl => ?_)
                  refine lv_iinc (v := x26 + (nI 1)) (lv' := [(4, .int (x26 + (nI 1))), (3, .int (x25 + v36)), (0, .ref (a 0)), (1, .int p1), (2, .int p2)]) hx hb dX4_letter_153 hl (k := 4) rfl rfl (by decide) rfl (fun ls hl => ?_)
                  refine lv_goto (tgt := 96) hx hb dX4_letter_156 (by decide) ?_
                  exact ih (x25 + v36) (x26 + (nI 1)) _ _ ls hf hG (lv_sub hl [2, 3, 4, 1, 0] rfl)
                refine lv_icmp_ne (tgt := 136) hx hb dX4_letter_120 (by decide) (fun c29 => ?_) (fun c29 => ?_)
                · have hf := if_e c29 hf
                  refine lv_aload_n hx hb dX4_letter_136 rfl (lv_at hl 0 rfl) ?_
                  refine lv_iload hx hb dX4_letter_137 (lv_at hl 4 rfl) ?_
                  obtain ⟨r30, h31, hf⟩ := bd1_e hf
                  refine k_Wi F hK hA hG (c_X4_theme l D y a H.size Fu q_s q_aside q_before q_known q_slots q_isSaved q_pad q_length q_letters q_heats q_reactions q_newSplits q_storiesThen q_heatThen q_place q_isWrong q_toldLetter q_toldHeat q_toldStory q_toldWords q_toldStories x26 r30 h31) (cwV 1 F.2.2.2.2 gX4_letter_X4_theme rfl rfl rfl (by decide +kernel) ⟨Nat.le_of_ble_eq_true rfl, Nat.le_of_ble_eq_true rfl⟩) 0 rfl rfl rfl rfl rfl hl.1 (Nat.le_of_ble_eq_true rfl) dX4_letter_139 ⟨Nat.le_refl 0, Nat.le_refl 0⟩ (fun H locs hG => ?_)
                  refine lv_iload_n hx hb dX4_letter_142 rfl (lv_at hl 1 rfl) ?_
                  refine lv_icmp_ne (tgt := 150) hx hb dX4_letter_143 (by decide) (fun c32 => ?_) (fun c32 => ?_)
                  · have hf := if_e c32 hf
                    refine lv_iconst (v := nI 0) hx hb dX4_letter_150 rfl ?_
                    exact hj37 (nI 0) _ _ ls hf hG (lv_sub hl [0, 1, 2, 4] rfl)
                  · have hf := it_e c32 hf
                    refine lv_iconst (v := nI 1) hx hb dX4_letter_146 rfl ?_
                    refine lv_goto (tgt := 151) hx hb dX4_letter_147 (by decide) ?_
                    exact hj37 (nI 1) _ _ ls hf hG (lv_sub hl [0, 1, 2, 4] rfl)
                · have hf := it_e c29 hf
                  refine lv_aload_n hx hb dX4_letter_123 rfl (lv_at hl 0 rfl) ?_
                  refine lv_iload hx hb dX4_letter_124 (lv_at hl 4 rfl) ?_
                  refine lv_iload_n hx hb dX4_letter_126 rfl (lv_at hl 1 rfl) ?_
                  obtain ⟨r33, h34, hf⟩ := bd1_e hf
                  refine k_Wi F hK hA hG (c_X4_times l D y a H.size Fu q_s q_aside q_before q_known q_slots q_isSaved q_pad q_length q_letters q_heats q_reactions q_newSplits q_storiesThen q_heatThen q_place q_isWrong q_toldLetter q_toldHeat q_toldStory q_toldWords q_toldStories x26 p1 r33 h34) (cwV 2 F.2.2.2.2 gX4_letter_X4_times rfl rfl rfl (by decide +kernel) ⟨Nat.le_of_ble_eq_true rfl, Nat.le_of_ble_eq_true rfl⟩) 0 rfl rfl rfl rfl rfl hl.1 (Nat.le_of_ble_eq_true rfl) dX4_letter_127 ⟨Nat.le_refl 0, Nat.le_refl 0⟩ (fun H locs hG => ?_)
                  refine lv_if_le (tgt := 150) hx hb dX4_letter_130 (by decide) (fun c35 => ?_) (fun c35 => ?_)
                  · have hf := it_e c35 hf
                    refine lv_iconst (v := nI 0) hx hb dX4_letter_150 rfl ?_
                    exact hj37 (nI 0) _ _ ls hf hG (lv_sub hl [0, 1, 2, 4] rfl)
                  · have hf := if_e c35 hf
                    refine lv_goto (tgt := 146) hx hb dX4_letter_133 (by decide) ?_
                    refine lv_iconst (v := nI 1) hx hb dX4_letter_146 rfl ?_
                    refine lv_goto (tgt := 151) hx hb dX4_letter_147 (by decide) ?_
                    exact hj37 (nI 1) _ _ ls hf hG (lv_sub hl [0, 1, 2, 4] rfl)
              · have hf := if_e c28 hf
                refine lv_iload_n hx hb dX4_letter_112 rfl (lv_at hl 2 rfl) ?_
                refine lv_iconst (v := nI 2) hx hb dX4_letter_113 rfl ?_
                refine lv_icmp_ne (tgt := 159) hx hb dX4_letter_114 (by decide) (fun c38 => ?_) (fun c38 => ?_)
                · have hf := if_e c38 hf
                  exact hk_96 x25 _ _ ls hf hG (lv_sub hl [3] rfl)
                · have hf := it_e c38 hf
                  refine lv_iload_n hx hb dX4_letter_117 rfl (lv_at hl 3 rfl) ?_
                  refine lv_iload_n hx hb dX4_letter_118 rfl (lv_at hl 2 rfl) ?_
                  refine lv_iconst (v := nI 1) hx hb dX4_letter_119 rfl ?_
                  obtain ⟨j47, ej47, hf⟩ := jn_e hf
                  have hj47 : ∀ (v46 : Int32) (H : Heap) (locs : List Loc) (ls : Array Slot), j47 v46 = some (ro) → GG D A s.heap (w_X4 y a q_s q_aside q_before q_known q_slots q_isSaved q_pad q_length q_letters q_heats q_reactions q_newSplits q_storiesThen q_heatThen q_place q_isWrong q_toldLetter q_toldHeat q_toldStory q_toldWords q_toldStories) H locs → lv_has ls 5 [(0, .ref (a 0)), (1, .int p1), (2, .int p2), (4, .int x26)] → W p l e (RM 3 70) s m args below meth c H locs 0 0 Q (F0 m 151 ls [.int v46, .int x25]) := by
                    intro v46 H locs ls hf hG hl
                    rw [ej47] at hf
                    refine lv_iadd hx hb dX4_letter_151 ?_
                    refine lv_istore_n (lv' := [(3, .int (x25 + v46)), (0, .ref (a 0)), (1, .int p1), (2, .int p2), (4, .int x26)]) hx hb dX4_letter_152 rfl hl (by decide) rfl (fun ls hl => ?_)
                    refine lv_iinc (v := x26 + (nI 1)) (lv' := [(4, .int (x26 + (nI 1))), (3, .int (x25 + v46)), (0, .ref (a 0)), (1, .int p1), (2, .int p2)]) hx hb dX4_letter_153 hl (k := 4) rfl rfl (by decide) rfl (fun ls hl => ?_)
                    refine lv_goto (tgt := 96) hx hb dX4_letter_156 (by decide) ?_
                    exact ih (x25 + v46) (x26 + (nI 1)) _ _ ls hf hG (lv_sub hl [2, 3, 4, 1, 0] rfl)
                  refine lv_icmp_ne (tgt := 136) hx hb dX4_letter_120 (by decide) (fun c39 => ?_) (fun c39 => ?_)
                  · have hf := if_e c39 hf
                    refine lv_aload_n hx hb dX4_letter_136 rfl (lv_at hl 0 rfl) ?_
                    refine lv_iload hx hb dX4_letter_137 (lv_at hl 4 rfl) ?_
                    obtain ⟨r40, h41, hf⟩ := bd1_e hf
                    refine k_Wi F hK hA hG (c_X4_theme l D y a H.size Fu q_s q_aside q_before q_known q_slots q_isSaved q_pad q_length q_letters q_heats q_reactions q_newSplits q_storiesThen q_heatThen q_place q_isWrong q_toldLetter q_toldHeat q_toldStory q_toldWords q_toldStories x26 r40 h41) (cwV 1 F.2.2.2.2 gX4_letter_X4_theme rfl rfl rfl (by decide +kernel) ⟨Nat.le_of_ble_eq_true rfl, Nat.le_of_ble_eq_true rfl⟩) 0 rfl rfl rfl rfl rfl hl.1 (Nat.le_of_ble_eq_true rfl) dX4_letter_139 ⟨Nat.le_refl 0, Nat.le_refl 0⟩ (fun H locs hG => ?_)
                    refine lv_iload_n hx hb dX4_letter_142 rfl (lv_at hl 1 rfl) ?_
                    refine lv_icmp_ne (tgt := 150) hx hb dX4_letter_143 (by decide) (fun c42 => ?_) (fun c42 => ?_)
                    · have hf := if_e c42 hf
                      refine lv_iconst (v := nI 0) hx hb dX4_letter_150 rfl ?_
                      exact hj47 (nI 0) _ _ ls hf hG (lv_sub hl [0, 1, 2, 4] rfl)
                    · have hf := it_e c42 hf
                      refine lv_iconst (v := nI 1) hx hb dX4_letter_146 rfl ?_
                      refine lv_goto (tgt := 151) hx hb dX4_letter_147 (by decide) ?_
                      exact hj47 (nI 1) _ _ ls hf hG (lv_sub hl [0, 1, 2, 4] rfl)
                  · have hf := it_e c39 hf
                    refine lv_aload_n hx hb dX4_letter_123 rfl (lv_at hl 0 rfl) ?_
                    refine lv_iload hx hb dX4_letter_124 (lv_at hl 4 rfl) ?_
                    refine lv_iload_n hx hb dX4_letter_126 rfl (lv_at hl 1 rfl) ?_
                    obtain ⟨r43, h44, hf⟩ := bd1_e hf
                    refine k_Wi F hK hA hG (c_X4_times l D y a H.size Fu q_s q_aside q_before q_known q_slots q_isSaved q_pad q_length q_letters q_heats q_reactions q_newSplits q_storiesThen q_heatThen q_place q_isWrong q_toldLetter q_toldHeat q_toldStory q_toldWords q_toldStories x26 p1 r43 h44) (cwV 2 F.2.2.2.2 gX4_letter_X4_times rfl rfl rfl (by decide +kernel) ⟨Nat.le_of_ble_eq_true rfl, Nat.le_of_ble_eq_true rfl⟩) 0 rfl rfl rfl rfl rfl hl.1 (Nat.le_of_ble_eq_true rfl) dX4_letter_127 ⟨Nat.le_refl 0, Nat.le_refl 0⟩ (fun H locs hG => ?_)
                    refine lv_if_le (tgt := 150) hx hb dX4_letter_130 (by decide) (fun c45 => ?_) (fun c45 => ?_)
                    · have hf := it_e c45 hf
                      refine lv_iconst (v := nI 0) hx hb dX4_letter_150 rfl ?_
                      exact hj47 (nI 0) _ _ ls hf hG (lv_sub hl [0, 1, 2, 4] rfl)
                    · have hf := if_e c45 hf
                      refine lv_goto (tgt := 146) hx hb dX4_letter_133 (by decide) ?_
                      refine lv_iconst (v := nI 1) hx hb dX4_letter_146 rfl ?_
                      refine lv_goto (tgt := 151) hx hb dX4_letter_147 (by decide) ?_
                      exact hj47 (nI 1) _ _ ls hf hG (lv_sub hl [0, 1, 2, 4] rfl)
        exact hL96 Fu v24 (nI 0) _ _ ls hf hG (lv_sub hl [1, 2, 3, 4, 0] rfl)
      have hL27 : ∀ (fu : Nat) (x7 : Int32) (x8 : Int32) (H : Heap) (locs : List Loc) (ls : Array Slot), f_X4_letter_L27 Fu k_27 q_s p1 p2 fu x7 x8 = some (ro) → GG D A s.heap (w_X4 y a q_s q_aside q_before q_known q_slots q_isSaved q_pad q_length q_letters q_heats q_reactions q_newSplits q_storiesThen q_heatThen q_place q_isWrong q_toldLetter q_toldHeat q_toldStory q_toldWords q_toldStories) H locs → lv_has ls 5 [(0, .ref (a 0)), (1, .int p1), (2, .int p2), (3, .int x7), (4, .int x8)] → W p l e (RM 3 70) s m args below meth c H locs 0 0 Q (F0 m 27 ls []) := by
        intro fu
        induction fu with
        | zero => intro x7 x8 H locs ls hf hG hl; exact no_e hf
        | succ fu ih =>
          intro x7 x8 H locs ls hf hG hl
          rw [f_X4_letter_L27_s] at hf
          refine lv_iload hx hb dX4_letter_27 (lv_at hl 4 rfl) ?_
          refine lv_aload_n hx hb dX4_letter_29 rfl (lv_at hl 0 rfl) ?_
          refine w_get4 F hK hG k1 0 rfl 0 (by decide) k0 rfl dX4_letter_30 ?_
          refine lv_iconst (v := nI 4) hx hb dX4_letter_33 rfl ?_
          refine w_ialdk F hK hG 1 rfl (Nat.le_of_ble_eq_true rfl) (Nat.le_of_ble_eq_true rfl) dX4_letter_34 ?_
          refine lv_icmp_ge (tgt := 93) hx hb dX4_letter_35 (by decide) (fun c9 => ?_) (fun c9 => ?_)
          · have hf := it_e c9 hf
            exact hk_27 x7 _ _ ls hf hG (lv_sub hl [0, 1, 2, 3] rfl)
          · have hf := if_e c9 hf
            refine lv_iload_n hx hb dX4_letter_38 rfl (lv_at hl 2 rfl) ?_
            refine lv_if_eq (tgt := 47) hx hb dX4_letter_39 (by decide) (fun c10 => ?_) (fun c10 => ?_)
            · have hf := it_e c10 hf
              refine lv_iload_n hx hb dX4_letter_47 rfl (lv_at hl 3 rfl) ?_
              refine lv_aload_n hx hb dX4_letter_48 rfl (lv_at hl 0 rfl) ?_
              refine w_get4 F hK hG k1 0 rfl 0 (by decide) k0 rfl dX4_letter_49 ?_
              refine lv_bipush (v := nI 45) hx hb dX4_letter_52 rfl ?_
              refine lv_iload hx hb dX4_letter_54 (lv_at hl 4 rfl) ?_
              refine lv_iadd hx hb dX4_letter_56 ?_
              obtain ⟨g11, hf⟩ := gd_e hf
              refine w_iald F hK hG 1 rfl g11 dX4_letter_57 ?_
              refine lv_iload_n hx hb dX4_letter_58 rfl (lv_at hl 1 rfl) ?_
              obtain ⟨j16, ej16, hf⟩ := jn_e hf
              have hj16 : ∀ (v15 : Int32) (H : Heap) (locs : List Loc) (ls : Array Slot), j16 v15 = some (ro) → GG D A s.heap (w_X4 y a q_s q_aside q_before q_known q_slots q_isSaved q_pad q_length q_letters q_heats q_reactions q_newSplits q_storiesThen q_heatThen q_place q_isWrong q_toldLetter q_toldHeat q_toldStory q_toldWords q_toldStories) H locs → lv_has ls 5 [(0, .ref (a 0)), (1, .int p1), (2, .int p2), (4, .int x8)] → W p l e (RM 3 70) s m args below meth c H locs 0 0 Q (F0 m 85 ls [.int v15, .int x7]) := by
                intro v15 H locs ls hf hG hl
                rw [ej16] at hf
                refine lv_iadd hx hb dX4_letter_85 ?_
                refine lv_istore_n (lv' := [(3, .int (x7 + v15)), (0, .ref (a 0)), (1, .int p1), (2, .int p2), (4, .int x8)]) hx hb dX4_letter_86 rfl hl (by decide) rfl (fun ls hl => ?_)
                refine lv_iinc (v := x8 + (nI 1)) (lv' := [(4, .int (x8 + (nI 1))), (3, .int (x7 + v15)), (0, .ref (a 0)), (1, .int p1), (2, .int p2)]) hx hb dX4_letter_87 hl (k := 4) rfl rfl (by decide) rfl (fun ls hl => ?_)
                refine lv_goto (tgt := 27) hx hb dX4_letter_90 (by decide) ?_
                exact ih (x7 + v15) (x8 + (nI 1)) _ _ ls hf hG (lv_sub hl [2, 3, 4, 1, 0] rfl)
              refine lv_icmp_eq (tgt := 66) hx hb dX4_letter_59 (by decide) (fun c12 => ?_) (fun c12 => ?_)
              · have hf := it_e c12 hf
                refine lv_iload_n hx hb dX4_letter_66 rfl (lv_at hl 2 rfl) ?_
                refine lv_if_ne (tgt := 74) hx hb dX4_letter_67 (by decide) (fun c13 => ?_) (fun c13 => ?_)
                · have hf := if_e c13 hf
                  refine lv_aload_n hx hb dX4_letter_74 rfl (lv_at hl 0 rfl) ?_
                  refine w_get4 F hK hG k1 0 rfl 0 (by decide) k0 rfl dX4_letter_75 ?_
                  refine lv_sipush (v := nI 195) hx hb dX4_letter_78 rfl ?_
                  refine lv_iload hx hb dX4_letter_81 (lv_at hl 4 rfl) ?_
                  refine lv_iadd hx hb dX4_letter_83 ?_
                  obtain ⟨g14, hf⟩ := gd_e hf
                  refine w_iald F hK hG 1 rfl g14 dX4_letter_84 ?_
                  exact hj16 (q_s ((nI 195) + x8).toNatClampNeg) _ _ ls hf hG (lv_sub hl [0, 1, 2, 4] rfl)
                · have hf := it_e c13 hf
                  refine lv_iconst (v := nI 1) hx hb dX4_letter_70 rfl ?_
                  refine lv_goto (tgt := 85) hx hb dX4_letter_71 (by decide) ?_
                  exact hj16 (nI 1) _ _ ls hf hG (lv_sub hl [0, 1, 2, 4] rfl)
              · have hf := if_e c12 hf
                refine lv_iconst (v := nI 0) hx hb dX4_letter_62 rfl ?_
                refine lv_goto (tgt := 85) hx hb dX4_letter_63 (by decide) ?_
                exact hj16 (nI 0) _ _ ls hf hG (lv_sub hl [0, 1, 2, 4] rfl)
            · have hf := if_e c10 hf
              refine lv_iload_n hx hb dX4_letter_42 rfl (lv_at hl 2 rfl) ?_
              refine lv_iconst (v := nI 3) hx hb dX4_letter_43 rfl ?_
              refine lv_icmp_ne (tgt := 93) hx hb dX4_letter_44 (by decide) (fun c17 => ?_) (fun c17 => ?_)
              · have hf := if_e c17 hf
                exact hk_27 x7 _ _ ls hf hG (lv_sub hl [0, 1, 2, 3] rfl)
              · have hf := it_e c17 hf
                refine lv_iload_n hx hb dX4_letter_47 rfl (lv_at hl 3 rfl) ?_
                refine lv_aload_n hx hb dX4_letter_48 rfl (lv_at hl 0 rfl) ?_
                refine w_get4 F hK hG k1 0 rfl 0 (by decide) k0 rfl dX4_letter_49 ?_
                refine lv_bipush (v := nI 45) hx hb dX4_letter_52 rfl ?_
                refine lv_iload hx hb dX4_letter_54 (lv_at hl 4 rfl) ?_
                refine lv_iadd hx hb dX4_letter_56 ?_
                obtain ⟨g18, hf⟩ := gd_e hf
                refine w_iald F hK hG 1 rfl g18 dX4_letter_57 ?_
                refine lv_iload_n hx hb dX4_letter_58 rfl (lv_at hl 1 rfl) ?_
                obtain ⟨j23, ej23, hf⟩ := jn_e hf
                have hj23 : ∀ (v22 : Int32) (H : Heap) (locs : List Loc) (ls : Array Slot), j23 v22 = some (ro) → GG D A s.heap (w_X4 y a q_s q_aside q_before q_known q_slots q_isSaved q_pad q_length q_letters q_heats q_reactions q_newSplits q_storiesThen q_heatThen q_place q_isWrong q_toldLetter q_toldHeat q_toldStory q_toldWords q_toldStories) H locs → lv_has ls 5 [(0, .ref (a 0)), (1, .int p1), (2, .int p2), (4, .int x8)] → W p l e (RM 3 70) s m args below meth c H locs 0 0 Q (F0 m 85 ls [.int v22, .int x7]) := by
                  intro v22 H locs ls hf hG hl
                  rw [ej23] at hf
                  refine lv_iadd hx hb dX4_letter_85 ?_
                  refine lv_istore_n (lv' := [(3, .int (x7 + v22)), (0, .ref (a 0)), (1, .int p1), (2, .int p2), (4, .int x8)]) hx hb dX4_letter_86 rfl hl (by decide) rfl (fun ls hl => ?_)
                  refine lv_iinc (v := x8 + (nI 1)) (lv' := [(4, .int (x8 + (nI 1))), (3, .int (x7 + v22)), (0, .ref (a 0)), (1, .int p1), (2, .int p2)]) hx hb dX4_letter_87 hl (k := 4) rfl rfl (by decide) rfl (fun ls hl => ?_)
                  refine lv_goto (tgt := 27) hx hb dX4_letter_90 (by decide) ?_
                  exact ih (x7 + v22) (x8 + (nI 1)) _ _ ls hf hG (lv_sub hl [2, 3, 4, 1, 0] rfl)
                refine lv_icmp_eq (tgt := 66) hx hb dX4_letter_59 (by decide) (fun c19 => ?_) (fun c19 => ?_)
                · have hf := it_e c19 hf
                  refine lv_iload_n hx hb dX4_letter_66 rfl (lv_at hl 2 rfl) ?_
                  refine lv_if_ne (tgt := 74) hx hb dX4_letter_67 (by decide) (fun c20 => ?_) (fun c20 => ?_)
                  · have hf := if_e c20 hf
                    refine lv_aload_n hx hb dX4_letter_74 rfl (lv_at hl 0 rfl) ?_
                    refine w_get4 F hK hG k1 0 rfl 0 (by decide) k0 rfl dX4_letter_75 ?_
                    refine lv_sipush (v := nI 195) hx hb dX4_letter_78 rfl ?_
                    refine lv_iload hx hb dX4_letter_81 (lv_at hl 4 rfl) ?_
                    refine lv_iadd hx hb dX4_letter_83 ?_
                    obtain ⟨g21, hf⟩ := gd_e hf
                    refine w_iald F hK hG 1 rfl g21 dX4_letter_84 ?_
                    exact hj23 (q_s ((nI 195) + x8).toNatClampNeg) _ _ ls hf hG (lv_sub hl [0, 1, 2, 4] rfl)
                  · have hf := it_e c20 hf
                    refine lv_iconst (v := nI 1) hx hb dX4_letter_70 rfl ?_
                    refine lv_goto (tgt := 85) hx hb dX4_letter_71 (by decide) ?_
                    exact hj23 (nI 1) _ _ ls hf hG (lv_sub hl [0, 1, 2, 4] rfl)
                · have hf := if_e c19 hf
                  refine lv_iconst (v := nI 0) hx hb dX4_letter_62 rfl ?_
                  refine lv_goto (tgt := 85) hx hb dX4_letter_63 (by decide) ?_
                  exact hj23 (nI 0) _ _ ls hf hG (lv_sub hl [0, 1, 2, 4] rfl)
      exact hL27 Fu (nI 0) (nI 0) _ _ ls hf hG (lv_sub hl [2, 3, 4, 1, 0] rfl)
    · have hf := it_e c6 hf
      refine lv_bipush (v := -2) hx hb dX4_letter_19 rfl ?_
      have hf := so_e hf
      have e0 : (-2) = ro := hf
      exact hret _ _ _ _ _ e0 hG dX4_letter_21
set_option maxHeartbeats 1000000 in
set_option maxRecDepth 100000 in
theorem c_X4_sideBySide (l : Launch) (D : va_G) (y : Nat → ClassId) (a : Nat → Nat) (sz : Nat) (Fu : Nat) (q_s : Ar) (q_aside : Ar) (q_before : Ar) (q_known : Int32) (q_slots : Ar) (q_isSaved : Ar) (q_pad : Ar) (q_length : Int32) (q_letters : Ar) (q_heats : Ar) (q_reactions : Int32) (q_newSplits : Int32) (q_storiesThen : Int32) (q_heatThen : Int32) (q_place : Int32) (q_isWrong : Int32) (q_toldLetter : Ar) (q_toldHeat : Ar) (q_toldStory : Ar) (q_toldWords : Int32) (q_toldStories : Int32) (p1 : Int32) (p2 : Int32) (p3 : Int32) (ro : Int32) (hf : f_X4_sideBySide Fu q_s p1 p2 p3 = some (ro)) : MI l yX4_sideBySide wsX4_sideBySide 1 23 [.ref (a 0), .int p1, .int p2, .int p3] D y (w_X4 y a q_s q_aside q_before q_known q_slots q_isSaved q_pad q_length q_letters q_heats q_reactions q_newSplits q_storiesThen q_heatThen q_place q_isWrong q_toldLetter q_toldHeat q_toldStory q_toldWords q_toldStories) sz ro (w_X4 y a q_s q_aside q_before q_known q_slots q_isSaved q_pad q_length q_letters q_heats q_reactions q_newSplits q_storiesThen q_heatThen q_place q_isWrong q_toldLetter q_toldHeat q_toldStory q_toldWords q_toldStories) := by
  refine M_i (cc := cX4_sideBySide) (maxL := 11) (own := RX4) (by decide) rfl rfl (Nat.le_of_ble_eq_true rfl) ?_
  intro p e s m args below meth c A Q F hK hA H locs hG hret ls hl
  have hx := F.1
  have hb := F.2.1
  have hl : lv_has ls 11 [(0, .ref (a 0)), (1, .int p1), (2, .int p2), (3, .int p3)] := hl
  have k0 := F.2.2.2.2 (.fieldLink RX4 7 "HeatedStoriesModel" "s" "[I") (List.mem_of_getElem? (i := 1) rfl)
  have k1 : ∀ w ∈ wsX40, w ∈ wsX4_sideBySide := (fun w h => List.mem_cons_of_mem _ (List.mem_append_right _ (h)))
  unfold f_X4_sideBySide at hf
  refine lv_iload_n hx hb dX4_sideBySide_0 rfl (lv_at hl 1 rfl) ?_
  refine lv_iconst (v := nI 0) hx hb dX4_sideBySide_1 rfl ?_
  refine lv_bipush (v := nI 25) hx hb dX4_sideBySide_2 rfl ?_
  obtain ⟨r1, h2, hf⟩ := bd1_e hf
  refine k_Si F hK hA hG (c_X4_in l D y  H.size Fu  p1 (nI 0) (nI 25) r1 h2) (va_cwS 3 F.2.2.2.2 gX4_sideBySide_X4_in rfl rfl rfl (by decide +kernel) ⟨Nat.le_of_ble_eq_true rfl, Nat.le_of_ble_eq_true rfl⟩) rfl rfl hl.1 (Nat.le_of_ble_eq_true rfl) dX4_sideBySide_4 ⟨Nat.le_refl 0, Nat.le_refl 0⟩ (fun H locs hG => ?_)
  refine lv_if_eq (tgt := 29) hx hb dX4_sideBySide_7 (by decide) (fun c3 => ?_) (fun c3 => ?_)
  · have hf := it_e c3 hf
    refine lv_bipush (v := -2) hx hb dX4_sideBySide_29 rfl ?_
    have hf := so_e hf
    have e0 : (-2) = ro := hf
    exact hret _ _ _ _ _ e0 hG dX4_sideBySide_31
  · have hf := if_e c3 hf
    refine lv_iload_n hx hb dX4_sideBySide_10 rfl (lv_at hl 2 rfl) ?_
    refine lv_iconst (v := nI 0) hx hb dX4_sideBySide_11 rfl ?_
    refine lv_bipush (v := nI 25) hx hb dX4_sideBySide_12 rfl ?_
    obtain ⟨r4, h5, hf⟩ := bd1_e hf
    refine k_Si F hK hA hG (c_X4_in l D y  H.size Fu  p2 (nI 0) (nI 25) r4 h5) (va_cwS 3 F.2.2.2.2 gX4_sideBySide_X4_in rfl rfl rfl (by decide +kernel) ⟨Nat.le_of_ble_eq_true rfl, Nat.le_of_ble_eq_true rfl⟩) rfl rfl hl.1 (Nat.le_of_ble_eq_true rfl) dX4_sideBySide_14 ⟨Nat.le_refl 0, Nat.le_refl 0⟩ (fun H locs hG => ?_)
    refine lv_if_eq (tgt := 29) hx hb dX4_sideBySide_17 (by decide) (fun c6 => ?_) (fun c6 => ?_)
    · have hf := it_e c6 hf
      refine lv_bipush (v := -2) hx hb dX4_sideBySide_29 rfl ?_
      have hf := so_e hf
      have e0 : (-2) = ro := hf
      exact hret _ _ _ _ _ e0 hG dX4_sideBySide_31
    · have hf := if_e c6 hf
      refine lv_iload_n hx hb dX4_sideBySide_20 rfl (lv_at hl 3 rfl) ?_
      refine lv_iconst (v := nI 0) hx hb dX4_sideBySide_21 rfl ?_
      refine lv_iconst (v := nI 2) hx hb dX4_sideBySide_22 rfl ?_
      obtain ⟨r7, h8, hf⟩ := bd1_e hf
      refine k_Si F hK hA hG (c_X4_in l D y  H.size Fu  p3 (nI 0) (nI 2) r7 h8) (va_cwS 3 F.2.2.2.2 gX4_sideBySide_X4_in rfl rfl rfl (by decide +kernel) ⟨Nat.le_of_ble_eq_true rfl, Nat.le_of_ble_eq_true rfl⟩) rfl rfl hl.1 (Nat.le_of_ble_eq_true rfl) dX4_sideBySide_23 ⟨Nat.le_refl 0, Nat.le_refl 0⟩ (fun H locs hG => ?_)
      refine lv_if_ne (tgt := 32) hx hb dX4_sideBySide_26 (by decide) (fun c9 => ?_) (fun c9 => ?_)
      · have hf := if_e c9 hf
        refine lv_iconst (v := nI 0) hx hb dX4_sideBySide_32 rfl ?_
        refine lv_istore (lv' := [(4, .int (nI 0)), (0, .ref (a 0)), (1, .int p1), (2, .int p2), (3, .int p3)]) hx hb dX4_sideBySide_33 hl (by decide) rfl (fun ls hl => ?_)
        refine lv_bipush (v := -6) hx hb dX4_sideBySide_35 rfl ?_
        refine lv_istore (lv' := [(5, .int (-6)), (4, .int (nI 0)), (0, .ref (a 0)), (1, .int p1), (2, .int p2), (3, .int p3)]) hx hb dX4_sideBySide_37 hl (by decide) rfl (fun ls hl => ?_)
        refine lv_bipush (v := -6) hx hb dX4_sideBySide_39 rfl ?_
        refine lv_istore (lv' := [(6, .int (-6)), (5, .int (-6)), (4, .int (nI 0)), (0, .ref (a 0)), (1, .int p1), (2, .int p2), (3, .int p3)]) hx hb dX4_sideBySide_41 hl (by decide) rfl (fun ls hl => ?_)
        refine lv_iconst (v := nI 0) hx hb dX4_sideBySide_43 rfl ?_
        refine lv_istore (lv' := [(7, .int (nI 0)), (6, .int (-6)), (5, .int (-6)), (4, .int (nI 0)), (0, .ref (a 0)), (1, .int p1), (2, .int p2), (3, .int p3)]) hx hb dX4_sideBySide_44 hl (by decide) rfl (fun ls hl => ?_)
        obtain ⟨k_46, ek_46, hf⟩ := jn_e hf
        have hk_46 : ∀ (v40 : Int32) (v41 : Int32) (v42 : Int32) (H : Heap) (locs : List Loc) (ls : Array Slot), k_46 v40 v41 v42 = some (ro) → GG D A s.heap (w_X4 y a q_s q_aside q_before q_known q_slots q_isSaved q_pad q_length q_letters q_heats q_reactions q_newSplits q_storiesThen q_heatThen q_place q_isWrong q_toldLetter q_toldHeat q_toldStory q_toldWords q_toldStories) H locs → lv_has ls 11 [(3, .int p3), (4, .int v40), (5, .int v41), (6, .int v42)] → W p l e (RM 1 23) s m args below meth c H locs 0 0 Q (F0 m 187 ls []) := by
          intro v40 v41 v42 H locs ls hf hG hl
          rw [ek_46] at hf
          refine lv_iload_n hx hb dX4_sideBySide_187 rfl (lv_at hl 0 rfl) ?_
          obtain ⟨v45, ev45, hf⟩ := nm_o hf
          have hJ : ∀ (ls : Array Slot), lv_has ls 11 [] → W p l e (RM 1 23) s m args below meth c H locs 0 0 Q (F0 m 208 ls [.int v45]) := by
            intro ls hl
            have hf := so_e hf
            have e0 : v45 = ro := hf
            exact hret _ _ _ _ _ e0 hG dX4_sideBySide_208
          refine lv_if_ne (tgt := 196) hx hb dX4_sideBySide_188 (by decide) (fun c43 => ?_) (fun c43 => ?_)
          · refine lv_iload_n hx hb dX4_sideBySide_196 rfl (lv_at hl 0 rfl) ?_
            refine lv_iconst (v := nI 1) hx hb dX4_sideBySide_197 rfl ?_
            refine lv_icmp_ne (tgt := 206) hx hb dX4_sideBySide_198 (by decide) (fun c44 => ?_) (fun c44 => ?_)
            · refine lv_iload hx hb dX4_sideBySide_206 (lv_at hl 3 rfl) ?_
              have qv45 := ((ev45.trans (if_neg c43)).trans (if_neg c44))
              subst qv45
              exact hJ ls (lv_sub hl [] rfl)
            · refine lv_iload hx hb dX4_sideBySide_201 (lv_at hl 2 rfl) ?_
              refine lv_goto (tgt := 208) hx hb dX4_sideBySide_203 (by decide) ?_
              have qv45 := ((ev45.trans (if_neg c43)).trans (if_pos c44))
              subst qv45
              exact hJ ls (lv_sub hl [] rfl)
          · refine lv_iload hx hb dX4_sideBySide_191 (lv_at hl 1 rfl) ?_
            refine lv_goto (tgt := 208) hx hb dX4_sideBySide_193 (by decide) ?_
            have qv45 := (ev45.trans (if_pos c43))
            subst qv45
            exact hJ ls (lv_sub hl [] rfl)
        have hL46 : ∀ (fu : Nat) (x10 : Int32) (x11 : Int32) (x12 : Int32) (x13 : Int32) (H : Heap) (locs : List Loc) (ls : Array Slot), f_X4_sideBySide_L46 Fu k_46 q_s p1 p2 fu x10 x11 x12 x13 = some (ro) → GG D A s.heap (w_X4 y a q_s q_aside q_before q_known q_slots q_isSaved q_pad q_length q_letters q_heats q_reactions q_newSplits q_storiesThen q_heatThen q_place q_isWrong q_toldLetter q_toldHeat q_toldStory q_toldWords q_toldStories) H locs → lv_has ls 11 [(0, .ref (a 0)), (1, .int p1), (2, .int p2), (3, .int p3), (4, .int x10), (5, .int x11), (6, .int x12), (7, .int x13)] → W p l e (RM 1 23) s m args below meth c H locs 0 0 Q (F0 m 46 ls []) := by
          intro fu
          induction fu with
          | zero => intro x10 x11 x12 x13 H locs ls hf hG hl; exact no_e hf
          | succ fu ih =>
            intro x10 x11 x12 x13 H locs ls hf hG hl
            rw [f_X4_sideBySide_L46_s] at hf
            refine lv_iload hx hb dX4_sideBySide_46 (lv_at hl 7 rfl) ?_
            refine lv_aload_n hx hb dX4_sideBySide_48 rfl (lv_at hl 0 rfl) ?_
            refine w_get4 F hK hG k1 0 rfl 0 (by decide) k0 rfl dX4_sideBySide_49 ?_
            refine lv_iconst (v := nI 3) hx hb dX4_sideBySide_52 rfl ?_
            refine w_ialdk F hK hG 1 rfl (Nat.le_of_ble_eq_true rfl) (Nat.le_of_ble_eq_true rfl) dX4_sideBySide_53 ?_
            refine lv_icmp_ge (tgt := 187) hx hb dX4_sideBySide_54 (by decide) (fun c14 => ?_) (fun c14 => ?_)
            · have hf := it_e c14 hf
              exact hk_46 x10 x11 x12 _ _ ls hf hG (lv_sub hl [3, 4, 5, 6] rfl)
            · have hf := if_e c14 hf
              refine lv_iconst (v := nI 0) hx hb dX4_sideBySide_57 rfl ?_
              refine lv_istore (lv' := [(8, .int (nI 0)), (0, .ref (a 0)), (1, .int p1), (2, .int p2), (3, .int p3), (4, .int x10), (5, .int x11), (6, .int x12), (7, .int x13)]) hx hb dX4_sideBySide_58 hl (by decide) rfl (fun ls hl => ?_)
              obtain ⟨k_60, ek_60, hf⟩ := jn_e hf
              have hk_60 : ∀ (v37 : Int32) (v38 : Int32) (v39 : Int32) (H : Heap) (locs : List Loc) (ls : Array Slot), k_60 v37 v38 v39 = some (ro) → GG D A s.heap (w_X4 y a q_s q_aside q_before q_known q_slots q_isSaved q_pad q_length q_letters q_heats q_reactions q_newSplits q_storiesThen q_heatThen q_place q_isWrong q_toldLetter q_toldHeat q_toldStory q_toldWords q_toldStories) H locs → lv_has ls 11 [(0, .ref (a 0)), (1, .int p1), (2, .int p2), (3, .int p3), (4, .int v37), (5, .int v38), (6, .int v39), (7, .int x13)] → W p l e (RM 1 23) s m args below meth c H locs 0 0 Q (F0 m 181 ls []) := by
                intro v37 v38 v39 H locs ls hf hG hl
                rw [ek_60] at hf
                refine lv_iinc (v := x13 + (nI 1)) (lv' := [(7, .int (x13 + (nI 1))), (0, .ref (a 0)), (1, .int p1), (2, .int p2), (3, .int p3), (4, .int v37), (5, .int v38), (6, .int v39)]) hx hb dX4_sideBySide_181 hl (k := 7) rfl rfl (by decide) rfl (fun ls hl => ?_)
                refine lv_goto (tgt := 46) hx hb dX4_sideBySide_184 (by decide) ?_
                exact ih v37 v38 v39 (x13 + (nI 1)) _ _ ls hf hG (lv_sub hl [1, 2, 3, 4, 5, 6, 7, 0] rfl)
              have hL60 : ∀ (fu : Nat) (x15 : Int32) (x16 : Int32) (x17 : Int32) (x18 : Int32) (H : Heap) (locs : List Loc) (ls : Array Slot), f_X4_sideBySide_L60 Fu k_60 q_s p1 p2 x13 fu x15 x16 x17 x18 = some (ro) → GG D A s.heap (w_X4 y a q_s q_aside q_before q_known q_slots q_isSaved q_pad q_length q_letters q_heats q_reactions q_newSplits q_storiesThen q_heatThen q_place q_isWrong q_toldLetter q_toldHeat q_toldStory q_toldWords q_toldStories) H locs → lv_has ls 11 [(0, .ref (a 0)), (1, .int p1), (2, .int p2), (3, .int p3), (4, .int x15), (5, .int x16), (6, .int x17), (7, .int x13), (8, .int x18)] → W p l e (RM 1 23) s m args below meth c H locs 0 0 Q (F0 m 60 ls []) := by
                intro fu
                induction fu with
                | zero => intro x15 x16 x17 x18 H locs ls hf hG hl; exact no_e hf
                | succ fu ih =>
                  intro x15 x16 x17 x18 H locs ls hf hG hl
                  rw [f_X4_sideBySide_L60_s] at hf
                  refine lv_iload hx hb dX4_sideBySide_60 (lv_at hl 8 rfl) ?_
                  refine lv_aload_n hx hb dX4_sideBySide_62 rfl (lv_at hl 0 rfl) ?_
                  refine w_get4 F hK hG k1 0 rfl 0 (by decide) k0 rfl dX4_sideBySide_63 ?_
                  refine lv_bipush (v := nI 9) hx hb dX4_sideBySide_66 rfl ?_
                  refine lv_iload hx hb dX4_sideBySide_68 (lv_at hl 7 rfl) ?_
                  refine lv_iadd hx hb dX4_sideBySide_70 ?_
                  obtain ⟨g19, hf⟩ := gd_e hf
                  refine w_iald F hK hG 1 rfl g19 dX4_sideBySide_71 ?_
                  refine lv_iconst (v := nI 1) hx hb dX4_sideBySide_72 rfl ?_
                  refine lv_isub hx hb dX4_sideBySide_73 ?_
                  refine lv_icmp_ge (tgt := 181) hx hb dX4_sideBySide_74 (by decide) (fun c20 => ?_) (fun c20 => ?_)
                  · have hf := it_e c20 hf
                    exact hk_60 x15 x16 x17 _ _ ls hf hG (lv_sub hl [0, 1, 2, 3, 4, 5, 6, 7] rfl)
                  · have hf := if_e c20 hf
                    refine lv_bipush (v := nI 45) hx hb dX4_sideBySide_77 rfl ?_
                    refine lv_aload_n hx hb dX4_sideBySide_79 rfl (lv_at hl 0 rfl) ?_
                    refine lv_iload hx hb dX4_sideBySide_80 (lv_at hl 7 rfl) ?_
                    obtain ⟨r21, h22, hf⟩ := bd1_e hf
                    refine k_Wi F hK hA hG (c_X4_first l D y a H.size Fu q_s q_aside q_before q_known q_slots q_isSaved q_pad q_length q_letters q_heats q_reactions q_newSplits q_storiesThen q_heatThen q_place q_isWrong q_toldLetter q_toldHeat q_toldStory q_toldWords q_toldStories x13 r21 h22) (cwV 1 F.2.2.2.2 gX4_sideBySide_X4_first rfl rfl rfl (by decide +kernel) ⟨Nat.le_of_ble_eq_true rfl, Nat.le_of_ble_eq_true rfl⟩) 0 rfl rfl rfl rfl rfl hl.1 (Nat.le_of_ble_eq_true rfl) dX4_sideBySide_82 ⟨Nat.le_refl 0, Nat.le_refl 0⟩ (fun H locs hG => ?_)
                    refine lv_iadd hx hb dX4_sideBySide_85 ?_
                    refine lv_iload hx hb dX4_sideBySide_86 (lv_at hl 8 rfl) ?_
                    refine lv_iadd hx hb dX4_sideBySide_88 ?_
                    refine lv_istore (lv' := [(9, .int (((nI 45) + r21) + x18)), (0, .ref (a 0)), (1, .int p1), (2, .int p2), (3, .int p3), (4, .int x15), (5, .int x16), (6, .int x17), (7, .int x13), (8, .int x18)]) hx hb dX4_sideBySide_89 hl (by decide) rfl (fun ls hl => ?_)
                    refine lv_aload_n hx hb dX4_sideBySide_91 rfl (lv_at hl 1 rfl) ?_
                    refine w_get4 F hK hG k1 0 rfl 0 (by decide) k0 rfl dX4_sideBySide_92 ?_
                    refine lv_iload hx hb dX4_sideBySide_95 (lv_at hl 0 rfl) ?_
                    obtain ⟨g23, hf⟩ := gd_e hf
                    refine w_iald F hK hG 1 rfl g23 dX4_sideBySide_97 ?_
                    refine lv_iload_n hx hb dX4_sideBySide_98 rfl (lv_at hl 2 rfl) ?_
                    obtain ⟨j28, ej28, hf⟩ := jn_e hf
                    have hj28 : ∀ (v27 : Int32) (H : Heap) (locs : List Loc) (ls : Array Slot), j28 v27 = some (ro) → GG D A s.heap (w_X4 y a q_s q_aside q_before q_known q_slots q_isSaved q_pad q_length q_letters q_heats q_reactions q_newSplits q_storiesThen q_heatThen q_place q_isWrong q_toldLetter q_toldHeat q_toldStory q_toldWords q_toldStories) H locs → lv_has ls 11 [(0, .ref (a 0)), (1, .int p1), (2, .int p2), (3, .int p3), (4, .int x15), (5, .int x16), (6, .int x17), (7, .int x13), (8, .int x18)] → W p l e (RM 1 23) s m args below meth c H locs 0 0 Q (F0 m 120 ls [.int v27]) := by
                      intro v27 H locs ls hf hG hl
                      rw [ej28] at hf
                      refine lv_istore (lv' := [(10, .int v27), (0, .ref (a 0)), (1, .int p1), (2, .int p2), (3, .int p3), (4, .int x15), (5, .int x16), (6, .int x17), (7, .int x13), (8, .int x18)]) hx hb dX4_sideBySide_120 hl (by decide) rfl (fun ls hl => ?_)
                      refine lv_iload hx hb dX4_sideBySide_122 (lv_at hl 0 rfl) ?_
                      obtain ⟨v31, ev31, hf⟩ := nm_o hf
                      have hJ : ∀ (ls : Array Slot), lv_has ls 11 [(0, .ref (a 0)), (1, .int p1), (2, .int p2), (3, .int p3), (4, .int x15), (5, .int x16), (7, .int x13), (8, .int x18), (10, .int v27)] → W p l e (RM 1 23) s m args below meth c H locs 0 0 Q (F0 m 139 ls [.int v31]) := by
                        intro ls hl
                        refine lv_istore (lv' := [(6, .int v31), (0, .ref (a 0)), (1, .int p1), (2, .int p2), (3, .int p3), (4, .int x15), (5, .int x16), (7, .int x13), (8, .int x18), (10, .int v27)]) hx hb dX4_sideBySide_139 hl (by decide) rfl (fun ls hl => ?_)
                        refine lv_iload hx hb dX4_sideBySide_141 (lv_at hl 9 rfl) ?_
                        obtain ⟨v34, ev34, hf⟩ := nm_o hf
                        have hJ : ∀ (ls : Array Slot), lv_has ls 11 [(0, .ref (a 0)), (1, .int p1), (2, .int p2), (3, .int p3), (4, .int x15), (6, .int v31), (7, .int x13), (8, .int x18), (10, .int v27)] → W p l e (RM 1 23) s m args below meth c H locs 0 0 Q (F0 m 158 ls [.int v34]) := by
                          intro ls hl
                          refine lv_istore (lv' := [(5, .int v34), (0, .ref (a 0)), (1, .int p1), (2, .int p2), (3, .int p3), (4, .int x15), (6, .int v31), (7, .int x13), (8, .int x18), (10, .int v27)]) hx hb dX4_sideBySide_158 hl (by decide) rfl (fun ls hl => ?_)
                          refine lv_iload hx hb dX4_sideBySide_160 (lv_at hl 5 rfl) ?_
                          refine lv_iload hx hb dX4_sideBySide_162 (lv_at hl 9 rfl) ?_
                          obtain ⟨v36, ev36, hf⟩ := nm_o hf
                          have hJ : ∀ (ls : Array Slot), lv_has ls 11 [(0, .ref (a 0)), (1, .int p1), (2, .int p2), (3, .int p3), (5, .int v34), (6, .int v31), (7, .int x13), (8, .int x18)] → W p l e (RM 1 23) s m args below meth c H locs 0 0 Q (F0 m 172 ls [.int v36, .int x15]) := by
                            intro ls hl
                            refine lv_iadd hx hb dX4_sideBySide_172 ?_
                            refine lv_istore (lv' := [(4, .int (x15 + v36)), (0, .ref (a 0)), (1, .int p1), (2, .int p2), (3, .int p3), (5, .int v34), (6, .int v31), (7, .int x13), (8, .int x18)]) hx hb dX4_sideBySide_173 hl (by decide) rfl (fun ls hl => ?_)
                            refine lv_iinc (v := x18 + (nI 1)) (lv' := [(8, .int (x18 + (nI 1))), (4, .int (x15 + v36)), (0, .ref (a 0)), (1, .int p1), (2, .int p2), (3, .int p3), (5, .int v34), (6, .int v31), (7, .int x13)]) hx hb dX4_sideBySide_175 hl (k := 8) rfl rfl (by decide) rfl (fun ls hl => ?_)
                            refine lv_goto (tgt := 60) hx hb dX4_sideBySide_178 (by decide) ?_
                            exact ih (x15 + v36) v34 v31 (x18 + (nI 1)) _ _ ls hf hG (lv_sub hl [2, 3, 4, 5, 1, 6, 7, 8, 0] rfl)
                          refine lv_if_eq (tgt := 171) hx hb dX4_sideBySide_164 (by decide) (fun c35 => ?_) (fun c35 => ?_)
                          · refine lv_iconst (v := nI 0) hx hb dX4_sideBySide_171 rfl ?_
                            have qv36 := (ev36.trans (if_pos c35))
                            subst qv36
                            exact hJ ls (lv_sub hl [1, 2, 3, 4, 0, 6, 7, 8] rfl)
                          · refine lv_iconst (v := nI 1) hx hb dX4_sideBySide_167 rfl ?_
                            refine lv_goto (tgt := 172) hx hb dX4_sideBySide_168 (by decide) ?_
                            have qv36 := (ev36.trans (if_neg c35))
                            subst qv36
                            exact hJ ls (lv_sub hl [1, 2, 3, 4, 0, 6, 7, 8] rfl)
                        refine lv_if_eq (tgt := 156) hx hb dX4_sideBySide_143 (by decide) (fun c32 => ?_) (fun c32 => ?_)
                        · refine lv_iload hx hb dX4_sideBySide_156 (lv_at hl 6 rfl) ?_
                          have qv34 := (ev34.trans (if_pos c32))
                          subst qv34
                          exact hJ ls (lv_sub hl [1, 2, 3, 4, 5, 0, 7, 8, 9] rfl)
                        · refine lv_iload hx hb dX4_sideBySide_146 (lv_at hl 5 rfl) ?_
                          refine lv_if_ne (tgt := 156) hx hb dX4_sideBySide_148 (by decide) (fun c33 => ?_) (fun c33 => ?_)
                          · refine lv_iload hx hb dX4_sideBySide_156 (lv_at hl 6 rfl) ?_
                            have qv34 := ((ev34.trans (if_neg c32)).trans (if_neg c33))
                            subst qv34
                            exact hJ ls (lv_sub hl [1, 2, 3, 4, 5, 0, 7, 8, 9] rfl)
                          · refine lv_iload hx hb dX4_sideBySide_151 (lv_at hl 7 rfl) ?_
                            refine lv_goto (tgt := 158) hx hb dX4_sideBySide_153 (by decide) ?_
                            have qv34 := ((ev34.trans (if_neg c32)).trans (if_pos c33))
                            subst qv34
                            exact hJ ls (lv_sub hl [1, 2, 3, 4, 5, 0, 7, 8, 9] rfl)
                      refine lv_if_eq (tgt := 137) hx hb dX4_sideBySide_124 (by decide) (fun c29 => ?_) (fun c29 => ?_)
                      · refine lv_iload hx hb dX4_sideBySide_137 (lv_at hl 7 rfl) ?_
                        have qv31 := (ev31.trans (if_pos c29))
                        subst qv31
                        exact hJ ls (lv_sub hl [1, 2, 3, 4, 5, 6, 8, 9, 0] rfl)
                      · refine lv_iload hx hb dX4_sideBySide_127 (lv_at hl 5 rfl) ?_
                        refine lv_if_ne (tgt := 137) hx hb dX4_sideBySide_129 (by decide) (fun c30 => ?_) (fun c30 => ?_)
                        · refine lv_iload hx hb dX4_sideBySide_137 (lv_at hl 7 rfl) ?_
                          have qv31 := ((ev31.trans (if_neg c29)).trans (if_neg c30))
                          subst qv31
                          exact hJ ls (lv_sub hl [1, 2, 3, 4, 5, 6, 8, 9, 0] rfl)
                        · refine lv_iload hx hb dX4_sideBySide_132 (lv_at hl 9 rfl) ?_
                          refine lv_goto (tgt := 139) hx hb dX4_sideBySide_134 (by decide) ?_
                          have qv31 := ((ev31.trans (if_neg c29)).trans (if_pos c30))
                          subst qv31
                          exact hJ ls (lv_sub hl [1, 2, 3, 4, 5, 6, 8, 9, 0] rfl)
                    refine lv_icmp_ne (tgt := 119) hx hb dX4_sideBySide_99 (by decide) (fun c24 => ?_) (fun c24 => ?_)
                    · have hf := if_e c24 hf
                      refine lv_iconst (v := nI 0) hx hb dX4_sideBySide_119 rfl ?_
                      exact hj28 (nI 0) _ _ ls hf hG (lv_sub hl [1, 2, 3, 4, 5, 6, 7, 8, 9] rfl)
                    · have hf := it_e c24 hf
                      refine lv_aload_n hx hb dX4_sideBySide_102 rfl (lv_at hl 1 rfl) ?_
                      refine w_get4 F hK hG k1 0 rfl 0 (by decide) k0 rfl dX4_sideBySide_103 ?_
                      refine lv_iload hx hb dX4_sideBySide_106 (lv_at hl 0 rfl) ?_
                      refine lv_iconst (v := nI 1) hx hb dX4_sideBySide_108 rfl ?_
                      refine lv_iadd hx hb dX4_sideBySide_109 ?_
                      obtain ⟨g25, hf⟩ := gd_e hf
                      refine w_iald F hK hG 1 rfl g25 dX4_sideBySide_110 ?_
                      refine lv_iload_n hx hb dX4_sideBySide_111 rfl (lv_at hl 3 rfl) ?_
                      refine lv_icmp_ne (tgt := 119) hx hb dX4_sideBySide_112 (by decide) (fun c26 => ?_) (fun c26 => ?_)
                      · have hf := if_e c26 hf
                        refine lv_iconst (v := nI 0) hx hb dX4_sideBySide_119 rfl ?_
                        exact hj28 (nI 0) _ _ ls hf hG (lv_sub hl [1, 2, 3, 4, 5, 6, 7, 8, 9] rfl)
                      · have hf := it_e c26 hf
                        refine lv_iconst (v := nI 1) hx hb dX4_sideBySide_115 rfl ?_
                        refine lv_goto (tgt := 120) hx hb dX4_sideBySide_116 (by decide) ?_
                        exact hj28 (nI 1) _ _ ls hf hG (lv_sub hl [1, 2, 3, 4, 5, 6, 7, 8, 9] rfl)
              exact hL60 Fu x10 x11 x12 (nI 0) _ _ ls hf hG (lv_sub hl [1, 2, 3, 4, 5, 6, 7, 8, 0] rfl)
        exact hL46 Fu (nI 0) (-6) (-6) (nI 0) _ _ ls hf hG (lv_sub hl [4, 5, 6, 7, 3, 2, 1, 0] rfl)
      · have hf := it_e c9 hf
        refine lv_bipush (v := -2) hx hb dX4_sideBySide_29 rfl ?_
        have hf := so_e hf
        have e0 : (-2) = ro := hf
        exact hret _ _ _ _ _ e0 hG dX4_sideBySide_31
