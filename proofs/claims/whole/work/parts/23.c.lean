set_option maxHeartbeats 1000000 in
set_option maxRecDepth 100000 in
theorem c_X4_common (l : Launch) (D : va_G) (y : Nat → ClassId) (a : Nat → Nat) (sz : Nat) (Fu : Nat) (q_s : Ar) (q_aside : Ar) (q_before : Ar) (q_known : Int32) (q_slots : Ar) (q_isSaved : Ar) (q_pad : Ar) (q_length : Int32) (q_letters : Ar) (q_heats : Ar) (q_reactions : Int32) (q_newSplits : Int32) (q_storiesThen : Int32) (q_heatThen : Int32) (q_place : Int32) (q_isWrong : Int32) (q_toldLetter : Ar) (q_toldHeat : Ar) (q_toldStory : Ar) (q_toldWords : Int32) (q_toldStories : Int32) (p1 : Int32) (p2 : Int32) (ro : Int32) (hf : f_X4_common Fu q_s p1 p2 = some (ro)) : MI l yX4_common wsX4_common 2 43 [.ref (a 0), .int p1, .int p2] D y (w_X4 y a q_s q_aside q_before q_known q_slots q_isSaved q_pad q_length q_letters q_heats q_reactions q_newSplits q_storiesThen q_heatThen q_place q_isWrong q_toldLetter q_toldHeat q_toldStory q_toldWords q_toldStories) sz ro (w_X4 y a q_s q_aside q_before q_known q_slots q_isSaved q_pad q_length q_letters q_heats q_reactions q_newSplits q_storiesThen q_heatThen q_place q_isWrong q_toldLetter q_toldHeat q_toldStory q_toldWords q_toldStories) := by
  refine M_i (cc := cX4_common) (maxL := 9) (own := RX4) (by decide) rfl rfl (Nat.le_of_ble_eq_true rfl) ?_
  intro p e s m args below meth c A Q F hK hA H locs hG hret ls hl
  have hx := F.1
  have hb := F.2.1
  have hl : lv_has ls 9 [(0, .ref (a 0)), (1, .int p1), (2, .int p2)] := hl
  have k0 := F.2.2.2.2 (.fieldLink RX4 7 "HeatedStoriesModel" "s" "[I") (List.mem_of_getElem? (i := 1) rfl)
  have k1 : ∀ w ∈ wsX40, w ∈ wsX4_common := (fun w h => List.mem_cons_of_mem _ (List.mem_append_right _ (h)))
  unfold f_X4_common at hf
  refine lv_aload_n hx hb dX4_common_0 rfl (lv_at hl 0 rfl) ?_
  refine lv_iload_n hx hb dX4_common_1 rfl (lv_at hl 1 rfl) ?_
  obtain ⟨r1, h2, hf⟩ := bd1_e hf
  refine k_Wi F hK hA hG (c_X4_isStory l D y a H.size Fu q_s q_aside q_before q_known q_slots q_isSaved q_pad q_length q_letters q_heats q_reactions q_newSplits q_storiesThen q_heatThen q_place q_isWrong q_toldLetter q_toldHeat q_toldStory q_toldWords q_toldStories p1 r1 h2) (cwV 1 F.2.2.2.2 gX4_common_X4_isStory rfl rfl rfl (by decide +kernel) ⟨Nat.le_of_ble_eq_true rfl, Nat.le_of_ble_eq_true rfl⟩) 0 rfl rfl rfl rfl rfl hl.1 (Nat.le_of_ble_eq_true rfl) dX4_common_2 ⟨Nat.le_refl 0, Nat.le_refl 0⟩ (fun H locs hG => ?_)
  refine lv_if_eq (tgt := 16) hx hb dX4_common_5 (by decide) (fun c3 => ?_) (fun c3 => ?_)
  · have hf := it_e c3 hf
    refine lv_iconst (v := -1) hx hb dX4_common_16 rfl ?_
    have hf := so_e hf
    have e0 : (-1) = ro := hf
    exact hret _ _ _ _ _ e0 hG dX4_common_17
  · have hf := if_e c3 hf
    refine lv_aload_n hx hb dX4_common_8 rfl (lv_at hl 0 rfl) ?_
    refine lv_iload_n hx hb dX4_common_9 rfl (lv_at hl 2 rfl) ?_
    obtain ⟨r4, h5, hf⟩ := bd1_e hf
    refine k_Wi F hK hA hG (c_X4_isStory l D y a H.size Fu q_s q_aside q_before q_known q_slots q_isSaved q_pad q_length q_letters q_heats q_reactions q_newSplits q_storiesThen q_heatThen q_place q_isWrong q_toldLetter q_toldHeat q_toldStory q_toldWords q_toldStories p2 r4 h5) (cwV 1 F.2.2.2.2 gX4_common_X4_isStory rfl rfl rfl (by decide +kernel) ⟨Nat.le_of_ble_eq_true rfl, Nat.le_of_ble_eq_true rfl⟩) 0 rfl rfl rfl rfl rfl hl.1 (Nat.le_of_ble_eq_true rfl) dX4_common_10 ⟨Nat.le_refl 0, Nat.le_refl 0⟩ (fun H locs hG => ?_)
    refine lv_if_ne (tgt := 18) hx hb dX4_common_13 (by decide) (fun c6 => ?_) (fun c6 => ?_)
    · have hf := if_e c6 hf
      refine lv_iconst (v := nI 0) hx hb dX4_common_18 rfl ?_
      refine lv_istore_n (lv' := [(3, .int (nI 0)), (0, .ref (a 0)), (1, .int p1), (2, .int p2)]) hx hb dX4_common_19 rfl hl (by decide) rfl (fun ls hl => ?_)
      refine lv_bipush (v := nI 45) hx hb dX4_common_20 rfl ?_
      refine lv_aload_n hx hb dX4_common_22 rfl (lv_at hl 1 rfl) ?_
      refine lv_iload_n hx hb dX4_common_23 rfl (lv_at hl 2 rfl) ?_
      obtain ⟨r7, h8, hf⟩ := bd1_e hf
      refine k_Wi F hK hA hG (c_X4_first l D y a H.size Fu q_s q_aside q_before q_known q_slots q_isSaved q_pad q_length q_letters q_heats q_reactions q_newSplits q_storiesThen q_heatThen q_place q_isWrong q_toldLetter q_toldHeat q_toldStory q_toldWords q_toldStories p1 r7 h8) (cwV 1 F.2.2.2.2 gX4_common_X4_first rfl rfl rfl (by decide +kernel) ⟨Nat.le_of_ble_eq_true rfl, Nat.le_of_ble_eq_true rfl⟩) 0 rfl rfl rfl rfl rfl hl.1 (Nat.le_of_ble_eq_true rfl) dX4_common_24 ⟨Nat.le_refl 0, Nat.le_refl 0⟩ (fun H locs hG => ?_)
      refine lv_iadd hx hb dX4_common_27 ?_
      refine lv_istore (lv' := [(4, .int ((nI 45) + r7)), (3, .int (nI 0)), (0, .ref (a 0)), (1, .int p1), (2, .int p2)]) hx hb dX4_common_28 hl (by decide) rfl (fun ls hl => ?_)
      refine lv_bipush (v := nI 45) hx hb dX4_common_30 rfl ?_
      refine lv_aload_n hx hb dX4_common_32 rfl (lv_at hl 2 rfl) ?_
      refine lv_iload_n hx hb dX4_common_33 rfl (lv_at hl 4 rfl) ?_
      obtain ⟨r9, h10, hf⟩ := bd1_e hf
      refine k_Wi F hK hA hG (c_X4_first l D y a H.size Fu q_s q_aside q_before q_known q_slots q_isSaved q_pad q_length q_letters q_heats q_reactions q_newSplits q_storiesThen q_heatThen q_place q_isWrong q_toldLetter q_toldHeat q_toldStory q_toldWords q_toldStories p2 r9 h10) (cwV 1 F.2.2.2.2 gX4_common_X4_first rfl rfl rfl (by decide +kernel) ⟨Nat.le_of_ble_eq_true rfl, Nat.le_of_ble_eq_true rfl⟩) 0 rfl rfl rfl rfl rfl hl.1 (Nat.le_of_ble_eq_true rfl) dX4_common_34 ⟨Nat.le_refl 0, Nat.le_refl 0⟩ (fun H locs hG => ?_)
      refine lv_iadd hx hb dX4_common_37 ?_
      refine lv_istore (lv' := [(5, .int ((nI 45) + r9)), (4, .int ((nI 45) + r7)), (3, .int (nI 0)), (0, .ref (a 0)), (1, .int p1), (2, .int p2)]) hx hb dX4_common_38 hl (by decide) rfl (fun ls hl => ?_)
      refine lv_iconst (v := nI 0) hx hb dX4_common_40 rfl ?_
      refine lv_istore (lv' := [(6, .int (nI 0)), (5, .int ((nI 45) + r9)), (4, .int ((nI 45) + r7)), (3, .int (nI 0)), (0, .ref (a 0)), (1, .int p1), (2, .int p2)]) hx hb dX4_common_41 hl (by decide) rfl (fun ls hl => ?_)
      obtain ⟨k_43, ek_43, hf⟩ := jn_e hf
      have hk_43 : ∀ (v31 : Int32) (H : Heap) (locs : List Loc) (ls : Array Slot), k_43 v31 = some (ro) → GG D A s.heap (w_X4 y a q_s q_aside q_before q_known q_slots q_isSaved q_pad q_length q_letters q_heats q_reactions q_newSplits q_storiesThen q_heatThen q_place q_isWrong q_toldLetter q_toldHeat q_toldStory q_toldWords q_toldStories) H locs → lv_has ls 9 [(3, .int v31)] → W p l e (RM 2 43) s m args below meth c H locs 0 0 Q (F0 m 171 ls []) := by
        intro v31 H locs ls hf hG hl
        rw [ek_43] at hf
        refine lv_iload_n hx hb dX4_common_171 rfl (lv_at hl 0 rfl) ?_
        have hf := so_e hf
        have e0 : v31 = ro := hf
        exact hret _ _ _ _ _ e0 hG dX4_common_172
      have hL43 : ∀ (fu : Nat) (x11 : Int32) (x12 : Int32) (H : Heap) (locs : List Loc) (ls : Array Slot), f_X4_common_L43 Fu k_43 q_s p1 p2 r7 r9 fu x11 x12 = some (ro) → GG D A s.heap (w_X4 y a q_s q_aside q_before q_known q_slots q_isSaved q_pad q_length q_letters q_heats q_reactions q_newSplits q_storiesThen q_heatThen q_place q_isWrong q_toldLetter q_toldHeat q_toldStory q_toldWords q_toldStories) H locs → lv_has ls 9 [(0, .ref (a 0)), (1, .int p1), (2, .int p2), (3, .int x11), (4, .int ((nI 45) + r7)), (5, .int ((nI 45) + r9)), (6, .int x12)] → W p l e (RM 2 43) s m args below meth c H locs 0 0 Q (F0 m 43 ls []) := by
        intro fu
        induction fu with
        | zero => intro x11 x12 H locs ls hf hG hl; exact no_e hf
        | succ fu ih =>
          intro x11 x12 H locs ls hf hG hl
          rw [f_X4_common_L43_s] at hf
          refine lv_iload hx hb dX4_common_43 (lv_at hl 6 rfl) ?_
          refine lv_aload_n hx hb dX4_common_45 rfl (lv_at hl 0 rfl) ?_
          refine w_get4 F hK hG k1 0 rfl 0 (by decide) k0 rfl dX4_common_46 ?_
          refine lv_bipush (v := nI 9) hx hb dX4_common_49 rfl ?_
          refine lv_iload_n hx hb dX4_common_51 rfl (lv_at hl 1 rfl) ?_
          refine lv_iadd hx hb dX4_common_52 ?_
          obtain ⟨g13, hf⟩ := gd_e hf
          refine w_iald F hK hG 1 rfl g13 dX4_common_53 ?_
          refine lv_icmp_ge (tgt := 171) hx hb dX4_common_54 (by decide) (fun c14 => ?_) (fun c14 => ?_)
          · have hf := it_e c14 hf
            exact hk_43 x11 _ _ ls hf hG (lv_sub hl [3] rfl)
          · have hf := if_e c14 hf
            refine lv_iconst (v := nI 0) hx hb dX4_common_57 rfl ?_
            refine lv_istore (lv' := [(7, .int (nI 0)), (0, .ref (a 0)), (1, .int p1), (2, .int p2), (3, .int x11), (4, .int ((nI 45) + r7)), (5, .int ((nI 45) + r9)), (6, .int x12)]) hx hb dX4_common_58 hl (by decide) rfl (fun ls hl => ?_)
            obtain ⟨k_60, ek_60, hf⟩ := jn_e hf
            have hk_60 : ∀ (v30 : Int32) (H : Heap) (locs : List Loc) (ls : Array Slot), k_60 v30 = some (ro) → GG D A s.heap (w_X4 y a q_s q_aside q_before q_known q_slots q_isSaved q_pad q_length q_letters q_heats q_reactions q_newSplits q_storiesThen q_heatThen q_place q_isWrong q_toldLetter q_toldHeat q_toldStory q_toldWords q_toldStories) H locs → lv_has ls 9 [(0, .ref (a 0)), (1, .int p1), (2, .int p2), (3, .int v30), (4, .int ((nI 45) + r7)), (5, .int ((nI 45) + r9)), (6, .int x12)] → W p l e (RM 2 43) s m args below meth c H locs 0 0 Q (F0 m 165 ls []) := by
              intro v30 H locs ls hf hG hl
              rw [ek_60] at hf
              refine lv_iinc (v := x12 + (nI 1)) (lv' := [(6, .int (x12 + (nI 1))), (0, .ref (a 0)), (1, .int p1), (2, .int p2), (3, .int v30), (4, .int ((nI 45) + r7)), (5, .int ((nI 45) + r9))]) hx hb dX4_common_165 hl (k := 6) rfl rfl (by decide) rfl (fun ls hl => ?_)
              refine lv_goto (tgt := 43) hx hb dX4_common_168 (by decide) ?_
              exact ih v30 (x12 + (nI 1)) _ _ ls hf hG (lv_sub hl [1, 2, 3, 4, 5, 6, 0] rfl)
            have hL60 : ∀ (fu : Nat) (x15 : Int32) (x16 : Int32) (H : Heap) (locs : List Loc) (ls : Array Slot), f_X4_common_L60 Fu k_60 q_s p1 p2 r7 r9 x12 fu x15 x16 = some (ro) → GG D A s.heap (w_X4 y a q_s q_aside q_before q_known q_slots q_isSaved q_pad q_length q_letters q_heats q_reactions q_newSplits q_storiesThen q_heatThen q_place q_isWrong q_toldLetter q_toldHeat q_toldStory q_toldWords q_toldStories) H locs → lv_has ls 9 [(0, .ref (a 0)), (1, .int p1), (2, .int p2), (3, .int x15), (4, .int ((nI 45) + r7)), (5, .int ((nI 45) + r9)), (6, .int x12), (7, .int x16)] → W p l e (RM 2 43) s m args below meth c H locs 0 0 Q (F0 m 60 ls []) := by
              intro fu
              induction fu with
              | zero => intro x15 x16 H locs ls hf hG hl; exact no_e hf
              | succ fu ih =>
                intro x15 x16 H locs ls hf hG hl
                rw [f_X4_common_L60_s] at hf
                refine lv_iload hx hb dX4_common_60 (lv_at hl 7 rfl) ?_
                refine lv_aload_n hx hb dX4_common_62 rfl (lv_at hl 0 rfl) ?_
                refine w_get4 F hK hG k1 0 rfl 0 (by decide) k0 rfl dX4_common_63 ?_
                refine lv_bipush (v := nI 9) hx hb dX4_common_66 rfl ?_
                refine lv_iload_n hx hb dX4_common_68 rfl (lv_at hl 2 rfl) ?_
                refine lv_iadd hx hb dX4_common_69 ?_
                obtain ⟨g17, hf⟩ := gd_e hf
                refine w_iald F hK hG 1 rfl g17 dX4_common_70 ?_
                refine lv_icmp_ge (tgt := 165) hx hb dX4_common_71 (by decide) (fun c18 => ?_) (fun c18 => ?_)
                · have hf := it_e c18 hf
                  exact hk_60 x15 _ _ ls hf hG (lv_sub hl [0, 1, 2, 3, 4, 5, 6] rfl)
                · have hf := if_e c18 hf
                  refine lv_iconst (v := nI 0) hx hb dX4_common_74 rfl ?_
                  refine lv_istore (lv' := [(8, .int (nI 0)), (0, .ref (a 0)), (1, .int p1), (2, .int p2), (3, .int x15), (4, .int ((nI 45) + r7)), (5, .int ((nI 45) + r9)), (6, .int x12), (7, .int x16)]) hx hb dX4_common_75 hl (by decide) rfl (fun ls hl => ?_)
                  obtain ⟨k_77, ek_77, hf⟩ := jn_e hf
                  have hk_77 : ∀ (v27 : Int32) (H : Heap) (locs : List Loc) (ls : Array Slot), k_77 v27 = some (ro) → GG D A s.heap (w_X4 y a q_s q_aside q_before q_known q_slots q_isSaved q_pad q_length q_letters q_heats q_reactions q_newSplits q_storiesThen q_heatThen q_place q_isWrong q_toldLetter q_toldHeat q_toldStory q_toldWords q_toldStories) H locs → lv_has ls 9 [(0, .ref (a 0)), (1, .int p1), (2, .int p2), (3, .int x15), (4, .int ((nI 45) + r7)), (5, .int ((nI 45) + r9)), (6, .int x12), (7, .int x16), (8, .int v27)] → W p l e (RM 2 43) s m args below meth c H locs 0 0 Q (F0 m 146 ls []) := by
                    intro v27 H locs ls hf hG hl
                    rw [ek_77] at hf
                    refine lv_iload hx hb dX4_common_146 (lv_at hl 8 rfl) ?_
                    refine lv_iload_n hx hb dX4_common_148 rfl (lv_at hl 3 rfl) ?_
                    obtain ⟨v29, ev29, hf⟩ := nm_o hf
                    have hJ : ∀ (ls : Array Slot), lv_has ls 9 [(0, .ref (a 0)), (1, .int p1), (2, .int p2), (4, .int ((nI 45) + r7)), (5, .int ((nI 45) + r9)), (6, .int x12), (7, .int x16)] → W p l e (RM 2 43) s m args below meth c H locs 0 0 Q (F0 m 158 ls [.int v29]) := by
                      intro ls hl
                      refine lv_istore_n (lv' := [(3, .int v29), (0, .ref (a 0)), (1, .int p1), (2, .int p2), (4, .int ((nI 45) + r7)), (5, .int ((nI 45) + r9)), (6, .int x12), (7, .int x16)]) hx hb dX4_common_158 rfl hl (by decide) rfl (fun ls hl => ?_)
                      refine lv_iinc (v := x16 + (nI 1)) (lv' := [(7, .int (x16 + (nI 1))), (3, .int v29), (0, .ref (a 0)), (1, .int p1), (2, .int p2), (4, .int ((nI 45) + r7)), (5, .int ((nI 45) + r9)), (6, .int x12)]) hx hb dX4_common_159 hl (k := 7) rfl rfl (by decide) rfl (fun ls hl => ?_)
                      refine lv_goto (tgt := 60) hx hb dX4_common_162 (by decide) ?_
                      exact ih v29 (x16 + (nI 1)) _ _ ls hf hG (lv_sub hl [2, 3, 4, 1, 5, 6, 7, 0] rfl)
                    refine lv_icmp_le (tgt := 157) hx hb dX4_common_149 (by decide) (fun c28 => ?_) (fun c28 => ?_)
                    · refine lv_iload_n hx hb dX4_common_157 rfl (lv_at hl 3 rfl) ?_
                      have qv29 := (ev29.trans (if_pos c28))
                      subst qv29
                      exact hJ ls (lv_sub hl [0, 1, 2, 4, 5, 6, 7] rfl)
                    · refine lv_iload hx hb dX4_common_152 (lv_at hl 8 rfl) ?_
                      refine lv_goto (tgt := 158) hx hb dX4_common_154 (by decide) ?_
                      have qv29 := (ev29.trans (if_neg c28))
                      subst qv29
                      exact hJ ls (lv_sub hl [0, 1, 2, 4, 5, 6, 7] rfl)
                  have hL77 : ∀ (fu : Nat) (x19 : Int32) (H : Heap) (locs : List Loc) (ls : Array Slot), f_X4_common_L77 Fu k_77 q_s p1 p2 r7 r9 x12 x16 fu x19 = some (ro) → GG D A s.heap (w_X4 y a q_s q_aside q_before q_known q_slots q_isSaved q_pad q_length q_letters q_heats q_reactions q_newSplits q_storiesThen q_heatThen q_place q_isWrong q_toldLetter q_toldHeat q_toldStory q_toldWords q_toldStories) H locs → lv_has ls 9 [(0, .ref (a 0)), (1, .int p1), (2, .int p2), (3, .int x15), (4, .int ((nI 45) + r7)), (5, .int ((nI 45) + r9)), (6, .int x12), (7, .int x16), (8, .int x19)] → W p l e (RM 2 43) s m args below meth c H locs 0 0 Q (F0 m 77 ls []) := by
                    intro fu
                    induction fu with
                    | zero => intro x19 H locs ls hf hG hl; exact no_e hf
                    | succ fu ih =>
                      intro x19 H locs ls hf hG hl
                      rw [f_X4_common_L77_s] at hf
                      refine lv_iload hx hb dX4_common_77 (lv_at hl 6 rfl) ?_
                      refine lv_iload hx hb dX4_common_79 (lv_at hl 8 rfl) ?_
                      refine lv_iadd hx hb dX4_common_81 ?_
                      refine lv_aload_n hx hb dX4_common_82 rfl (lv_at hl 0 rfl) ?_
                      refine w_get4 F hK hG k1 0 rfl 0 (by decide) k0 rfl dX4_common_83 ?_
                      refine lv_bipush (v := nI 9) hx hb dX4_common_86 rfl ?_
                      refine lv_iload_n hx hb dX4_common_88 rfl (lv_at hl 1 rfl) ?_
                      refine lv_iadd hx hb dX4_common_89 ?_
                      obtain ⟨g20, hf⟩ := gd_e hf
                      refine w_iald F hK hG 1 rfl g20 dX4_common_90 ?_
                      refine lv_icmp_ge (tgt := 146) hx hb dX4_common_91 (by decide) (fun c21 => ?_) (fun c21 => ?_)
                      · have hf := it_e c21 hf
                        exact hk_77 x19 _ _ ls hf hG (lv_sub hl [0, 1, 2, 3, 4, 5, 6, 7, 8] rfl)
                      · have hf := if_e c21 hf
                        refine lv_iload hx hb dX4_common_94 (lv_at hl 7 rfl) ?_
                        refine lv_iload hx hb dX4_common_96 (lv_at hl 8 rfl) ?_
                        refine lv_iadd hx hb dX4_common_98 ?_
                        refine lv_aload_n hx hb dX4_common_99 rfl (lv_at hl 0 rfl) ?_
                        refine w_get4 F hK hG k1 0 rfl 0 (by decide) k0 rfl dX4_common_100 ?_
                        refine lv_bipush (v := nI 9) hx hb dX4_common_103 rfl ?_
                        refine lv_iload_n hx hb dX4_common_105 rfl (lv_at hl 2 rfl) ?_
                        refine lv_iadd hx hb dX4_common_106 ?_
                        obtain ⟨g22, hf⟩ := gd_e hf
                        refine w_iald F hK hG 1 rfl g22 dX4_common_107 ?_
                        refine lv_icmp_ge (tgt := 146) hx hb dX4_common_108 (by decide) (fun c23 => ?_) (fun c23 => ?_)
                        · have hf := it_e c23 hf
                          exact hk_77 x19 _ _ ls hf hG (lv_sub hl [0, 1, 2, 3, 4, 5, 6, 7, 8] rfl)
                        · have hf := if_e c23 hf
                          refine lv_aload_n hx hb dX4_common_111 rfl (lv_at hl 0 rfl) ?_
                          refine w_get4 F hK hG k1 0 rfl 0 (by decide) k0 rfl dX4_common_112 ?_
                          refine lv_iload hx hb dX4_common_115 (lv_at hl 4 rfl) ?_
                          refine lv_iload hx hb dX4_common_117 (lv_at hl 6 rfl) ?_
                          refine lv_iadd hx hb dX4_common_119 ?_
                          refine lv_iload hx hb dX4_common_120 (lv_at hl 8 rfl) ?_
                          refine lv_iadd hx hb dX4_common_122 ?_
                          obtain ⟨g24, hf⟩ := gd_e hf
                          refine w_iald F hK hG 1 rfl g24 dX4_common_123 ?_
                          refine lv_aload_n hx hb dX4_common_124 rfl (lv_at hl 0 rfl) ?_
                          refine w_get4 F hK hG k1 0 rfl 0 (by decide) k0 rfl dX4_common_125 ?_
                          refine lv_iload hx hb dX4_common_128 (lv_at hl 5 rfl) ?_
                          refine lv_iload hx hb dX4_common_130 (lv_at hl 7 rfl) ?_
                          refine lv_iadd hx hb dX4_common_132 ?_
                          refine lv_iload hx hb dX4_common_133 (lv_at hl 8 rfl) ?_
                          refine lv_iadd hx hb dX4_common_135 ?_
                          obtain ⟨g25, hf⟩ := gd_e hf
                          refine w_iald F hK hG 1 rfl g25 dX4_common_136 ?_
                          refine lv_icmp_ne (tgt := 146) hx hb dX4_common_137 (by decide) (fun c26 => ?_) (fun c26 => ?_)
                          · have hf := if_e c26 hf
                            exact hk_77 x19 _ _ ls hf hG (lv_sub hl [0, 1, 2, 3, 4, 5, 6, 7, 8] rfl)
                          · have hf := it_e c26 hf
                            refine lv_iinc (v := x19 + (nI 1)) (lv' := [(8, .int (x19 + (nI 1))), (0, .ref (a 0)), (1, .int p1), (2, .int p2), (3, .int x15), (4, .int ((nI 45) + r7)), (5, .int ((nI 45) + r9)), (6, .int x12), (7, .int x16)]) hx hb dX4_common_140 hl (k := 8) rfl rfl (by decide) rfl (fun ls hl => ?_)
                            refine lv_goto (tgt := 77) hx hb dX4_common_143 (by decide) ?_
                            exact ih (x19 + (nI 1)) _ _ ls hf hG (lv_sub hl [1, 2, 3, 4, 5, 6, 7, 8, 0] rfl)
                  exact hL77 Fu (nI 0) _ _ ls hf hG (lv_sub hl [1, 2, 3, 4, 5, 6, 7, 8, 0] rfl)
            exact hL60 Fu x11 (nI 0) _ _ ls hf hG (lv_sub hl [1, 2, 3, 4, 5, 6, 7, 0] rfl)
      exact hL43 Fu (nI 0) (nI 0) _ _ ls hf hG (lv_sub hl [4, 5, 6, 3, 2, 1, 0] rfl)
    · have hf := it_e c6 hf
      refine lv_iconst (v := -1) hx hb dX4_common_16 rfl ?_
      have hf := so_e hf
      have e0 : (-1) = ro := hf
      exact hret _ _ _ _ _ e0 hG dX4_common_17
set_option maxHeartbeats 1000000 in
set_option maxRecDepth 100000 in
theorem c_X4_tryHeat (l : Launch) (D : va_G) (y : Nat → ClassId) (a : Nat → Nat) (sz : Nat) (Fu : Nat) (q_s : Ar) (q_aside : Ar) (q_before : Ar) (q_known : Int32) (q_slots : Ar) (q_isSaved : Ar) (q_pad : Ar) (q_length : Int32) (q_letters : Ar) (q_heats : Ar) (q_reactions : Int32) (q_newSplits : Int32) (q_storiesThen : Int32) (q_heatThen : Int32) (q_place : Int32) (q_isWrong : Int32) (q_toldLetter : Ar) (q_toldHeat : Ar) (q_toldStory : Ar) (q_toldWords : Int32) (q_toldStories : Int32) (p1 : Int32) (p2 : Int32) (q_s_o : Ar) (q_aside_o : Ar) (q_reactions_o : Int32) (q_newSplits_o : Int32) (q_storiesThen_o : Int32) (q_heatThen_o : Int32) (hf : f_X4_tryHeat Fu q_s q_aside q_reactions q_newSplits q_storiesThen q_heatThen p1 p2 = some (q_s_o, q_aside_o, q_reactions_o, q_newSplits_o, q_storiesThen_o, q_heatThen_o)) : MV l yX4_tryHeat wsX4_tryHeat 3 69 [.ref (a 0), .int p1, .int p2] D y (w_X4 y a q_s q_aside q_before q_known q_slots q_isSaved q_pad q_length q_letters q_heats q_reactions q_newSplits q_storiesThen q_heatThen q_place q_isWrong q_toldLetter q_toldHeat q_toldStory q_toldWords q_toldStories) sz (w_X4 y a q_s_o q_aside_o q_before q_known q_slots q_isSaved q_pad q_length q_letters q_heats q_reactions_o q_newSplits_o q_storiesThen_o q_heatThen_o q_place q_isWrong q_toldLetter q_toldHeat q_toldStory q_toldWords q_toldStories) := by
  refine M_v (cc := cX4_tryHeat) (maxL := 3) (own := RX4) (by decide) rfl rfl (Nat.le_of_ble_eq_true rfl) ?_
  intro p e s m args below meth c A Q F hK hA H locs hG hret ls hl
  have hx := F.1
  have hb := F.2.1
  have hl : lv_has ls 3 [(0, .ref (a 0)), (1, .int p1), (2, .int p2)] := hl
  have k0 := F.2.2.2.2 (.fieldLink RX4 125 "HeatedStoriesModel" "reactions" "I") (List.mem_of_getElem? (i := 1) rfl)
  have k1 : ∀ w ∈ wsX40, w ∈ wsX4_tryHeat := (fun w h => List.mem_cons_of_mem _ (List.mem_append_right _ (h)))
  have k2 := F.2.2.2.2 (.fieldLink RX4 7 "HeatedStoriesModel" "s" "[I") (List.mem_of_getElem? (i := 2) rfl)
  have k3 := F.2.2.2.2 (.fieldLink RX4 13 "HeatedStoriesModel" "aside" "[I") (List.mem_of_getElem? (i := 3) rfl)
  have k4 := F.2.2.2.2 (.fieldLink RX4 128 "HeatedStoriesModel" "newSplits" "I") (List.mem_of_getElem? (i := 4) rfl)
  have k5 := F.2.2.2.2 (.fieldLink RX4 131 "HeatedStoriesModel" "storiesThen" "I") (List.mem_of_getElem? (i := 5) rfl)
  have k6 := F.2.2.2.2 (.fieldLink RX4 134 "HeatedStoriesModel" "heatThen" "I") (List.mem_of_getElem? (i := 6) rfl)
  unfold f_X4_tryHeat at hf
  refine lv_aload_n hx hb dX4_tryHeat_0 rfl (lv_at hl 0 rfl) ?_
  obtain ⟨q_aside_1, h2, hf⟩ := bd1_e hf
  refine k_Wv F hK hA hG (c_X4_putAside l D y a H.size Fu q_s q_aside q_before q_known q_slots q_isSaved q_pad q_length q_letters q_heats q_reactions q_newSplits q_storiesThen q_heatThen q_place q_isWrong q_toldLetter q_toldHeat q_toldStory q_toldWords q_toldStories q_aside_1 h2) (cwV 0 F.2.2.2.2 gX4_tryHeat_X4_putAside rfl rfl rfl (by decide +kernel) ⟨Nat.le_of_ble_eq_true rfl, Nat.le_of_ble_eq_true rfl⟩) 0 rfl rfl rfl rfl rfl hl.1 (Nat.le_of_ble_eq_true rfl) dX4_tryHeat_1 ⟨Nat.le_refl 0, Nat.le_refl 0⟩ (fun H locs hG => ?_)
  refine lv_aload_n hx hb dX4_tryHeat_4 rfl (lv_at hl 0 rfl) ?_
  refine lv_iload_n hx hb dX4_tryHeat_5 rfl (lv_at hl 1 rfl) ?_
  refine lv_iload_n hx hb dX4_tryHeat_6 rfl (lv_at hl 2 rfl) ?_
  obtain ⟨q_s_3, h4, hf⟩ := bd1_e hf
  refine k_Wv F hK hA hG (c_X4_warm l D y a H.size Fu q_s q_aside_1 q_before q_known q_slots q_isSaved q_pad q_length q_letters q_heats q_reactions q_newSplits q_storiesThen q_heatThen q_place q_isWrong q_toldLetter q_toldHeat q_toldStory q_toldWords q_toldStories p1 p2 q_s_3 h4) (cwV 2 F.2.2.2.2 gX4_tryHeat_X4_warm rfl rfl rfl (by decide +kernel) ⟨Nat.le_of_ble_eq_true rfl, Nat.le_of_ble_eq_true rfl⟩) 0 rfl rfl rfl rfl rfl hl.1 (Nat.le_of_ble_eq_true rfl) dX4_tryHeat_7 ⟨Nat.le_refl 0, Nat.le_refl 0⟩ (fun H locs hG => ?_)
  refine lv_aload_n hx hb dX4_tryHeat_10 rfl (lv_at hl 0 rfl) ?_
  refine lv_aload_n hx hb dX4_tryHeat_11 rfl (lv_at hl 0 rfl) ?_
  obtain ⟨r5, q_s_6, h7, hf⟩ := bd2_e hf
  refine k_Wi F hK hA hG (c_X4_react l D y a H.size Fu q_s_3 q_aside_1 q_before q_known q_slots q_isSaved q_pad q_length q_letters q_heats q_reactions q_newSplits q_storiesThen q_heatThen q_place q_isWrong q_toldLetter q_toldHeat q_toldStory q_toldWords q_toldStories r5 q_s_6 h7) (cwV 0 F.2.2.2.2 gX4_tryHeat_X4_react rfl rfl rfl (by decide +kernel) ⟨Nat.le_of_ble_eq_true rfl, Nat.le_of_ble_eq_true rfl⟩) 0 rfl rfl rfl rfl rfl hl.1 (Nat.le_of_ble_eq_true rfl) dX4_tryHeat_12 ⟨Nat.le_refl 0, Nat.le_refl 0⟩ (fun H locs hG => ?_)
  refine w_put4 F hK hG k1 0 rfl 10 (by decide) k0 rfl rfl rfl (Nat.le_of_ble_eq_true rfl) (w_X4 y a q_s_6 q_aside_1 q_before q_known q_slots q_isSaved q_pad q_length q_letters q_heats r5 q_newSplits q_storiesThen q_heatThen q_place q_isWrong q_toldLetter q_toldHeat q_toldStory q_toldWords q_toldStories) rfl dX4_tryHeat_15 (fun H locs hG => ?_)
  refine lv_aload_n hx hb dX4_tryHeat_18 rfl (lv_at hl 0 rfl) ?_
  refine lv_aload_n hx hb dX4_tryHeat_19 rfl (lv_at hl 0 rfl) ?_
  refine w_get4 F hK hG k1 0 rfl 0 (by decide) k2 rfl dX4_tryHeat_20 ?_
  refine lv_bipush (v := nI 6) hx hb dX4_tryHeat_23 rfl ?_
  refine w_ialdk F hK hG 1 rfl (Nat.le_of_ble_eq_true rfl) (Nat.le_of_ble_eq_true rfl) dX4_tryHeat_25 ?_
  refine lv_aload_n hx hb dX4_tryHeat_26 rfl (lv_at hl 0 rfl) ?_
  refine w_get4 F hK hG k1 0 rfl 1 (by decide) k3 rfl dX4_tryHeat_27 ?_
  refine lv_bipush (v := nI 6) hx hb dX4_tryHeat_30 rfl ?_
  refine w_ialdk F hK hG 2 rfl (Nat.le_of_ble_eq_true rfl) (Nat.le_of_ble_eq_true rfl) dX4_tryHeat_32 ?_
  refine lv_isub hx hb dX4_tryHeat_33 ?_
  refine w_put4 F hK hG k1 0 rfl 11 (by decide) k4 rfl rfl rfl (Nat.le_of_ble_eq_true rfl) (w_X4 y a q_s_6 q_aside_1 q_before q_known q_slots q_isSaved q_pad q_length q_letters q_heats r5 ((q_s_6 6) - (q_aside_1 6)) q_storiesThen q_heatThen q_place q_isWrong q_toldLetter q_toldHeat q_toldStory q_toldWords q_toldStories) rfl dX4_tryHeat_34 (fun H locs hG => ?_)
  refine lv_aload_n hx hb dX4_tryHeat_37 rfl (lv_at hl 0 rfl) ?_
  refine lv_aload_n hx hb dX4_tryHeat_38 rfl (lv_at hl 0 rfl) ?_
  refine w_get4 F hK hG k1 0 rfl 0 (by decide) k2 rfl dX4_tryHeat_39 ?_
  refine lv_iconst (v := nI 3) hx hb dX4_tryHeat_42 rfl ?_
  refine w_ialdk F hK hG 1 rfl (Nat.le_of_ble_eq_true rfl) (Nat.le_of_ble_eq_true rfl) dX4_tryHeat_43 ?_
  refine w_put4 F hK hG k1 0 rfl 12 (by decide) k5 rfl rfl rfl (Nat.le_of_ble_eq_true rfl) (w_X4 y a q_s_6 q_aside_1 q_before q_known q_slots q_isSaved q_pad q_length q_letters q_heats r5 ((q_s_6 6) - (q_aside_1 6)) (q_s_6 3) q_heatThen q_place q_isWrong q_toldLetter q_toldHeat q_toldStory q_toldWords q_toldStories) rfl dX4_tryHeat_44 (fun H locs hG => ?_)
  refine lv_aload_n hx hb dX4_tryHeat_47 rfl (lv_at hl 0 rfl) ?_
  refine lv_aload_n hx hb dX4_tryHeat_48 rfl (lv_at hl 0 rfl) ?_
  obtain ⟨r8, h9, hf⟩ := bd1_e hf
  refine k_Wi F hK hA hG (c_X4_allHeat l D y a H.size Fu q_s_6 q_aside_1 q_before q_known q_slots q_isSaved q_pad q_length q_letters q_heats r5 ((q_s_6 6) - (q_aside_1 6)) (q_s_6 3) q_heatThen q_place q_isWrong q_toldLetter q_toldHeat q_toldStory q_toldWords q_toldStories r8 h9) (cwV 0 F.2.2.2.2 gX4_tryHeat_X4_allHeat rfl rfl rfl (by decide +kernel) ⟨Nat.le_of_ble_eq_true rfl, Nat.le_of_ble_eq_true rfl⟩) 0 rfl rfl rfl rfl rfl hl.1 (Nat.le_of_ble_eq_true rfl) dX4_tryHeat_49 ⟨Nat.le_refl 0, Nat.le_refl 0⟩ (fun H locs hG => ?_)
  refine w_put4 F hK hG k1 0 rfl 13 (by decide) k6 rfl rfl rfl (Nat.le_of_ble_eq_true rfl) (w_X4 y a q_s_6 q_aside_1 q_before q_known q_slots q_isSaved q_pad q_length q_letters q_heats r5 ((q_s_6 6) - (q_aside_1 6)) (q_s_6 3) r8 q_place q_isWrong q_toldLetter q_toldHeat q_toldStory q_toldWords q_toldStories) rfl dX4_tryHeat_52 (fun H locs hG => ?_)
  refine lv_aload_n hx hb dX4_tryHeat_55 rfl (lv_at hl 0 rfl) ?_
  obtain ⟨q_s_10, h11, hf⟩ := bd1_e hf
  refine k_Wv F hK hA hG (c_X4_putBack l D y a H.size Fu q_s_6 q_aside_1 q_before q_known q_slots q_isSaved q_pad q_length q_letters q_heats r5 ((q_s_6 6) - (q_aside_1 6)) (q_s_6 3) r8 q_place q_isWrong q_toldLetter q_toldHeat q_toldStory q_toldWords q_toldStories q_s_10 h11) (cwV 0 F.2.2.2.2 gX4_tryHeat_X4_putBack rfl rfl rfl (by decide +kernel) ⟨Nat.le_of_ble_eq_true rfl, Nat.le_of_ble_eq_true rfl⟩) 0 rfl rfl rfl rfl rfl hl.1 (Nat.le_of_ble_eq_true rfl) dX4_tryHeat_56 ⟨Nat.le_refl 0, Nat.le_refl 0⟩ (fun H locs hG => ?_)
  have hf := so_e hf
  have e0 : q_s_10 = q_s_o := congrArg (fun z => z.1) hf
  have e1 : q_aside_1 = q_aside_o := congrArg (fun z => z.2.1) hf
  have e2 : r5 = q_reactions_o := congrArg (fun z => z.2.2.1) hf
  have e3 : ((q_s_6 6) - (q_aside_1 6)) = q_newSplits_o := congrArg (fun z => z.2.2.2.1) hf
  have e4 : (q_s_6 3) = q_storiesThen_o := congrArg (fun z => z.2.2.2.2.1) hf
  have e5 : r8 = q_heatThen_o := congrArg (fun z => z.2.2.2.2.2) hf
  exact hret _ _ _ _ (by rw [← e0, ← e1, ← e2, ← e3, ← e4, ← e5]; exact hG) dX4_tryHeat_59
set_option maxHeartbeats 1000000 in
set_option maxRecDepth 100000 in
theorem c_X4_ifHeated (l : Launch) (D : va_G) (y : Nat → ClassId) (a : Nat → Nat) (sz : Nat) (Fu : Nat) (q_s : Ar) (q_aside : Ar) (q_before : Ar) (q_known : Int32) (q_slots : Ar) (q_isSaved : Ar) (q_pad : Ar) (q_length : Int32) (q_letters : Ar) (q_heats : Ar) (q_reactions : Int32) (q_newSplits : Int32) (q_storiesThen : Int32) (q_heatThen : Int32) (q_place : Int32) (q_isWrong : Int32) (q_toldLetter : Ar) (q_toldHeat : Ar) (q_toldStory : Ar) (q_toldWords : Int32) (q_toldStories : Int32) (p1 : Int32) (p2 : Int32) (p3 : Int32) (p4 : Int32) (ro : Int32) (q_s_o : Ar) (q_aside_o : Ar) (q_reactions_o : Int32) (q_newSplits_o : Int32) (q_storiesThen_o : Int32) (q_heatThen_o : Int32) (hf : f_X4_ifHeated Fu q_s q_aside q_reactions q_newSplits q_storiesThen q_heatThen p1 p2 p3 p4 = some (ro, q_s_o, q_aside_o, q_reactions_o, q_newSplits_o, q_storiesThen_o, q_heatThen_o)) : MI l yX4_ifHeated wsX4_ifHeated 4 91 [.ref (a 0), .int p1, .int p2, .int p3, .int p4] D y (w_X4 y a q_s q_aside q_before q_known q_slots q_isSaved q_pad q_length q_letters q_heats q_reactions q_newSplits q_storiesThen q_heatThen q_place q_isWrong q_toldLetter q_toldHeat q_toldStory q_toldWords q_toldStories) sz ro (w_X4 y a q_s_o q_aside_o q_before q_known q_slots q_isSaved q_pad q_length q_letters q_heats q_reactions_o q_newSplits_o q_storiesThen_o q_heatThen_o q_place q_isWrong q_toldLetter q_toldHeat q_toldStory q_toldWords q_toldStories) := by
  refine M_i (cc := cX4_ifHeated) (maxL := 5) (own := RX4) (by decide) rfl rfl (Nat.le_of_ble_eq_true rfl) ?_
  intro p e s m args below meth c A Q F hK hA H locs hG hret ls hl
  have hx := F.1
  have hb := F.2.1
  have hl : lv_has ls 5 [(0, .ref (a 0)), (1, .int p1), (2, .int p2), (3, .int p3), (4, .int p4)] := hl
  have k0 := F.2.2.2.2 (.fieldLink RX4 134 "HeatedStoriesModel" "heatThen" "I") (List.mem_of_getElem? (i := 4) rfl)
  have k1 : ∀ w ∈ wsX40, w ∈ wsX4_ifHeated := (fun w h => List.mem_cons_of_mem _ (List.mem_append_right _ (h)))
  have k2 := F.2.2.2.2 (.fieldLink RX4 131 "HeatedStoriesModel" "storiesThen" "I") (List.mem_of_getElem? (i := 3) rfl)
  have k3 := F.2.2.2.2 (.fieldLink RX4 128 "HeatedStoriesModel" "newSplits" "I") (List.mem_of_getElem? (i := 2) rfl)
  have k4 := F.2.2.2.2 (.fieldLink RX4 125 "HeatedStoriesModel" "reactions" "I") (List.mem_of_getElem? (i := 1) rfl)
  unfold f_X4_ifHeated at hf
  refine lv_aload_n hx hb dX4_ifHeated_0 rfl (lv_at hl 0 rfl) ?_
  refine lv_iload_n hx hb dX4_ifHeated_1 rfl (lv_at hl 1 rfl) ?_
  refine lv_iload_n hx hb dX4_ifHeated_2 rfl (lv_at hl 2 rfl) ?_
  obtain ⟨r1, h2, hf⟩ := bd1_e hf
  refine k_Wi F hK hA hG (c_X4_isWord l D y a H.size Fu q_s q_aside q_before q_known q_slots q_isSaved q_pad q_length q_letters q_heats q_reactions q_newSplits q_storiesThen q_heatThen q_place q_isWrong q_toldLetter q_toldHeat q_toldStory q_toldWords q_toldStories p1 p2 r1 h2) (cwV 2 F.2.2.2.2 gX4_ifHeated_X4_isWord rfl rfl rfl (by decide +kernel) ⟨Nat.le_of_ble_eq_true rfl, Nat.le_of_ble_eq_true rfl⟩) 0 rfl rfl rfl rfl rfl hl.1 (Nat.le_of_ble_eq_true rfl) dX4_ifHeated_3 ⟨Nat.le_refl 0, Nat.le_refl 0⟩ (fun H locs hG => ?_)
  refine lv_if_ne (tgt := 11) hx hb dX4_ifHeated_6 (by decide) (fun c3 => ?_) (fun c3 => ?_)
  · have hf := if_e c3 hf
    refine lv_iload_n hx hb dX4_ifHeated_11 rfl (lv_at hl 3 rfl) ?_
    refine lv_iconst (v := nI 1) hx hb dX4_ifHeated_12 rfl ?_
    refine lv_sipush (v := nI 500) hx hb dX4_ifHeated_13 rfl ?_
    obtain ⟨r4, h5, hf⟩ := bd1_e hf
    refine k_Si F hK hA hG (c_X4_in l D y  H.size Fu  p3 (nI 1) (nI 500) r4 h5) (va_cwS 3 F.2.2.2.2 gX4_ifHeated_X4_in rfl rfl rfl (by decide +kernel) ⟨Nat.le_of_ble_eq_true rfl, Nat.le_of_ble_eq_true rfl⟩) rfl rfl hl.1 (Nat.le_of_ble_eq_true rfl) dX4_ifHeated_16 ⟨Nat.le_refl 0, Nat.le_refl 0⟩ (fun H locs hG => ?_)
    refine lv_if_eq (tgt := 32) hx hb dX4_ifHeated_19 (by decide) (fun c6 => ?_) (fun c6 => ?_)
    · have hf := it_e c6 hf
      refine lv_bipush (v := -2) hx hb dX4_ifHeated_32 rfl ?_
      have hf := so_e hf
      have e0 : (-2) = ro := congrArg (fun z => z.1) hf
      have e1 : q_s = q_s_o := congrArg (fun z => z.2.1) hf
      have e2 : q_aside = q_aside_o := congrArg (fun z => z.2.2.1) hf
      have e3 : q_reactions = q_reactions_o := congrArg (fun z => z.2.2.2.1) hf
      have e4 : q_newSplits = q_newSplits_o := congrArg (fun z => z.2.2.2.2.1) hf
      have e5 : q_storiesThen = q_storiesThen_o := congrArg (fun z => z.2.2.2.2.2.1) hf
      have e6 : q_heatThen = q_heatThen_o := congrArg (fun z => z.2.2.2.2.2.2) hf
      exact hret _ _ _ _ _ e0 (by rw [← e1, ← e2, ← e3, ← e4, ← e5, ← e6]; exact hG) dX4_ifHeated_34
    · have hf := if_e c6 hf
      refine lv_iload hx hb dX4_ifHeated_22 (lv_at hl 4 rfl) ?_
      refine lv_iconst (v := nI 0) hx hb dX4_ifHeated_24 rfl ?_
      refine lv_iconst (v := nI 3) hx hb dX4_ifHeated_25 rfl ?_
      obtain ⟨r7, h8, hf⟩ := bd1_e hf
      refine k_Si F hK hA hG (c_X4_in l D y  H.size Fu  p4 (nI 0) (nI 3) r7 h8) (va_cwS 3 F.2.2.2.2 gX4_ifHeated_X4_in rfl rfl rfl (by decide +kernel) ⟨Nat.le_of_ble_eq_true rfl, Nat.le_of_ble_eq_true rfl⟩) rfl rfl hl.1 (Nat.le_of_ble_eq_true rfl) dX4_ifHeated_26 ⟨Nat.le_refl 0, Nat.le_refl 0⟩ (fun H locs hG => ?_)
      refine lv_if_ne (tgt := 35) hx hb dX4_ifHeated_29 (by decide) (fun c9 => ?_) (fun c9 => ?_)
      · have hf := if_e c9 hf
        refine lv_aload_n hx hb dX4_ifHeated_35 rfl (lv_at hl 0 rfl) ?_
        refine lv_aload_n hx hb dX4_ifHeated_36 rfl (lv_at hl 0 rfl) ?_
        refine lv_iload_n hx hb dX4_ifHeated_37 rfl (lv_at hl 1 rfl) ?_
        obtain ⟨r10, h11, hf⟩ := bd1_e hf
        refine k_Wi F hK hA hG (c_X4_first l D y a H.size Fu q_s q_aside q_before q_known q_slots q_isSaved q_pad q_length q_letters q_heats q_reactions q_newSplits q_storiesThen q_heatThen q_place q_isWrong q_toldLetter q_toldHeat q_toldStory q_toldWords q_toldStories p1 r10 h11) (cwV 1 F.2.2.2.2 gX4_ifHeated_X4_first rfl rfl rfl (by decide +kernel) ⟨Nat.le_of_ble_eq_true rfl, Nat.le_of_ble_eq_true rfl⟩) 0 rfl rfl rfl rfl rfl hl.1 (Nat.le_of_ble_eq_true rfl) dX4_ifHeated_38 ⟨Nat.le_refl 0, Nat.le_refl 0⟩ (fun H locs hG => ?_)
        refine lv_iload_n hx hb dX4_ifHeated_41 rfl (lv_at hl 2 rfl) ?_
        refine lv_iadd hx hb dX4_ifHeated_42 ?_
        refine lv_iload_n hx hb dX4_ifHeated_43 rfl (lv_at hl 3 rfl) ?_
        obtain ⟨q_s_12, q_aside_13, q_reactions_14, q_newSplits_15, q_storiesThen_16, q_heatThen_17, h18, hf⟩ := bd6_e hf
        refine k_Wv F hK hA hG (c_X4_tryHeat l D y a H.size Fu q_s q_aside q_before q_known q_slots q_isSaved q_pad q_length q_letters q_heats q_reactions q_newSplits q_storiesThen q_heatThen q_place q_isWrong q_toldLetter q_toldHeat q_toldStory q_toldWords q_toldStories (r10 + p2) p3 q_s_12 q_aside_13 q_reactions_14 q_newSplits_15 q_storiesThen_16 q_heatThen_17 h18) (cwV 2 F.2.2.2.2 gX4_ifHeated_X4_tryHeat rfl rfl rfl (by decide +kernel) ⟨Nat.le_of_ble_eq_true rfl, Nat.le_of_ble_eq_true rfl⟩) 0 rfl rfl rfl rfl rfl hl.1 (Nat.le_of_ble_eq_true rfl) dX4_ifHeated_44 ⟨Nat.le_refl 0, Nat.le_refl 0⟩ (fun H locs hG => ?_)
        refine lv_iload hx hb dX4_ifHeated_47 (lv_at hl 4 rfl) ?_
        obtain ⟨v22, ev22, hf⟩ := nm_o hf
        have hJ : ∀ (ls : Array Slot), lv_has ls 5 [] → W p l e (RM 4 91) s m args below meth c H locs 0 0 Q (F0 m 89 ls [.int v22]) := by
          intro ls hl
          have hf := so_e hf
          have e0 : v22 = ro := congrArg (fun z => z.1) hf
          have e1 : q_s_12 = q_s_o := congrArg (fun z => z.2.1) hf
          have e2 : q_aside_13 = q_aside_o := congrArg (fun z => z.2.2.1) hf
          have e3 : q_reactions_14 = q_reactions_o := congrArg (fun z => z.2.2.2.1) hf
          have e4 : q_newSplits_15 = q_newSplits_o := congrArg (fun z => z.2.2.2.2.1) hf
          have e5 : q_storiesThen_16 = q_storiesThen_o := congrArg (fun z => z.2.2.2.2.2.1) hf
          have e6 : q_heatThen_17 = q_heatThen_o := congrArg (fun z => z.2.2.2.2.2.2) hf
          exact hret _ _ _ _ _ e0 (by rw [← e1, ← e2, ← e3, ← e4, ← e5, ← e6]; exact hG) dX4_ifHeated_89
        refine lv_if_ne (tgt := 59) hx hb dX4_ifHeated_49 (by decide) (fun c19 => ?_) (fun c19 => ?_)
        · refine lv_iload hx hb dX4_ifHeated_59 (lv_at hl 4 rfl) ?_
          refine lv_iconst (v := nI 1) hx hb dX4_ifHeated_61 rfl ?_
          refine lv_icmp_ne (tgt := 72) hx hb dX4_ifHeated_62 (by decide) (fun c20 => ?_) (fun c20 => ?_)
          · refine lv_iload hx hb dX4_ifHeated_72 (lv_at hl 4 rfl) ?_
            refine lv_iconst (v := nI 2) hx hb dX4_ifHeated_74 rfl ?_
            refine lv_icmp_ne (tgt := 85) hx hb dX4_ifHeated_75 (by decide) (fun c21 => ?_) (fun c21 => ?_)
            · refine lv_aload_n hx hb dX4_ifHeated_85 rfl (lv_at hl 0 rfl) ?_
              refine w_get4 F hK hG k1 0 rfl 13 (by decide) k0 rfl dX4_ifHeated_86 ?_
              have qv22 := (((ev22.trans (if_neg c19)).trans (if_neg c20)).trans (if_neg c21))
              subst qv22
              exact hJ ls (lv_sub hl [] rfl)
            · refine lv_aload_n hx hb dX4_ifHeated_78 rfl (lv_at hl 0 rfl) ?_
              refine w_get4 F hK hG k1 0 rfl 12 (by decide) k2 rfl dX4_ifHeated_79 ?_
              refine lv_goto (tgt := 89) hx hb dX4_ifHeated_82 (by decide) ?_
              have qv22 := (((ev22.trans (if_neg c19)).trans (if_neg c20)).trans (if_pos c21))
              subst qv22
              exact hJ ls (lv_sub hl [] rfl)
          · refine lv_aload_n hx hb dX4_ifHeated_65 rfl (lv_at hl 0 rfl) ?_
            refine w_get4 F hK hG k1 0 rfl 11 (by decide) k3 rfl dX4_ifHeated_66 ?_
            refine lv_goto (tgt := 89) hx hb dX4_ifHeated_69 (by decide) ?_
            have qv22 := ((ev22.trans (if_neg c19)).trans (if_pos c20))
            subst qv22
            exact hJ ls (lv_sub hl [] rfl)
        · refine lv_aload_n hx hb dX4_ifHeated_52 rfl (lv_at hl 0 rfl) ?_
          refine w_get4 F hK hG k1 0 rfl 10 (by decide) k4 rfl dX4_ifHeated_53 ?_
          refine lv_goto (tgt := 89) hx hb dX4_ifHeated_56 (by decide) ?_
          have qv22 := (ev22.trans (if_pos c19))
          subst qv22
          exact hJ ls (lv_sub hl [] rfl)
      · have hf := it_e c9 hf
        refine lv_bipush (v := -2) hx hb dX4_ifHeated_32 rfl ?_
        have hf := so_e hf
        have e0 : (-2) = ro := congrArg (fun z => z.1) hf
        have e1 : q_s = q_s_o := congrArg (fun z => z.2.1) hf
        have e2 : q_aside = q_aside_o := congrArg (fun z => z.2.2.1) hf
        have e3 : q_reactions = q_reactions_o := congrArg (fun z => z.2.2.2.1) hf
        have e4 : q_newSplits = q_newSplits_o := congrArg (fun z => z.2.2.2.2.1) hf
        have e5 : q_storiesThen = q_storiesThen_o := congrArg (fun z => z.2.2.2.2.2.1) hf
        have e6 : q_heatThen = q_heatThen_o := congrArg (fun z => z.2.2.2.2.2.2) hf
        exact hret _ _ _ _ _ e0 (by rw [← e1, ← e2, ← e3, ← e4, ← e5, ← e6]; exact hG) dX4_ifHeated_34
  · have hf := it_e c3 hf
    refine lv_iconst (v := -1) hx hb dX4_ifHeated_9 rfl ?_
    have hf := so_e hf
    have e0 : (-1) = ro := congrArg (fun z => z.1) hf
    have e1 : q_s = q_s_o := congrArg (fun z => z.2.1) hf
    have e2 : q_aside = q_aside_o := congrArg (fun z => z.2.2.1) hf
    have e3 : q_reactions = q_reactions_o := congrArg (fun z => z.2.2.2.1) hf
    have e4 : q_newSplits = q_newSplits_o := congrArg (fun z => z.2.2.2.2.1) hf
    have e5 : q_storiesThen = q_storiesThen_o := congrArg (fun z => z.2.2.2.2.2.1) hf
    have e6 : q_heatThen = q_heatThen_o := congrArg (fun z => z.2.2.2.2.2.2) hf
    exact hret _ _ _ _ _ e0 (by rw [← e1, ← e2, ← e3, ← e4, ← e5, ← e6]; exact hG) dX4_ifHeated_10
set_option maxHeartbeats 1000000 in
set_option maxRecDepth 100000 in
theorem c_X4_critical (l : Launch) (D : va_G) (y : Nat → ClassId) (a : Nat → Nat) (sz : Nat) (Fu : Nat) (q_s : Ar) (q_aside : Ar) (q_before : Ar) (q_known : Int32) (q_slots : Ar) (q_isSaved : Ar) (q_pad : Ar) (q_length : Int32) (q_letters : Ar) (q_heats : Ar) (q_reactions : Int32) (q_newSplits : Int32) (q_storiesThen : Int32) (q_heatThen : Int32) (q_place : Int32) (q_isWrong : Int32) (q_toldLetter : Ar) (q_toldHeat : Ar) (q_toldStory : Ar) (q_toldWords : Int32) (q_toldStories : Int32) (p1 : Int32) (p2 : Int32) (ro : Int32) (q_s_o : Ar) (q_aside_o : Ar) (q_reactions_o : Int32) (q_newSplits_o : Int32) (q_storiesThen_o : Int32) (q_heatThen_o : Int32) (hf : f_X4_critical Fu q_s q_aside q_reactions q_newSplits q_storiesThen q_heatThen p1 p2 = some (ro, q_s_o, q_aside_o, q_reactions_o, q_newSplits_o, q_storiesThen_o, q_heatThen_o)) : MI l yX4_critical wsX4_critical 4 91 [.ref (a 0), .int p1, .int p2] D y (w_X4 y a q_s q_aside q_before q_known q_slots q_isSaved q_pad q_length q_letters q_heats q_reactions q_newSplits q_storiesThen q_heatThen q_place q_isWrong q_toldLetter q_toldHeat q_toldStory q_toldWords q_toldStories) sz ro (w_X4 y a q_s_o q_aside_o q_before q_known q_slots q_isSaved q_pad q_length q_letters q_heats q_reactions_o q_newSplits_o q_storiesThen_o q_heatThen_o q_place q_isWrong q_toldLetter q_toldHeat q_toldStory q_toldWords q_toldStories) := by
  refine M_i (cc := cX4_critical) (maxL := 4) (own := RX4) (by decide) rfl rfl (Nat.le_of_ble_eq_true rfl) ?_
  intro p e s m args below meth c A Q F hK hA H locs hG hret ls hl
  have hx := F.1
  have hb := F.2.1
  have hl : lv_has ls 4 [(0, .ref (a 0)), (1, .int p1), (2, .int p2)] := hl
  have k0 := F.2.2.2.2 (.fieldLink RX4 128 "HeatedStoriesModel" "newSplits" "I") (List.mem_of_getElem? (i := 1) rfl)
  have k1 : ∀ w ∈ wsX40, w ∈ wsX4_critical := (fun w h => List.mem_cons_of_mem _ (List.mem_append_right _ (h)))
  unfold f_X4_critical at hf
  refine lv_aload_n hx hb dX4_critical_0 rfl (lv_at hl 0 rfl) ?_
  refine lv_iload_n hx hb dX4_critical_1 rfl (lv_at hl 1 rfl) ?_
  refine lv_iload_n hx hb dX4_critical_2 rfl (lv_at hl 2 rfl) ?_
  obtain ⟨r1, h2, hf⟩ := bd1_e hf
  refine k_Wi F hK hA hG (c_X4_isWord l D y a H.size Fu q_s q_aside q_before q_known q_slots q_isSaved q_pad q_length q_letters q_heats q_reactions q_newSplits q_storiesThen q_heatThen q_place q_isWrong q_toldLetter q_toldHeat q_toldStory q_toldWords q_toldStories p1 p2 r1 h2) (cwV 2 F.2.2.2.2 gX4_critical_X4_isWord rfl rfl rfl (by decide +kernel) ⟨Nat.le_of_ble_eq_true rfl, Nat.le_of_ble_eq_true rfl⟩) 0 rfl rfl rfl rfl rfl hl.1 (Nat.le_of_ble_eq_true rfl) dX4_critical_3 ⟨Nat.le_refl 0, Nat.le_refl 0⟩ (fun H locs hG => ?_)
  refine lv_if_ne (tgt := 11) hx hb dX4_critical_6 (by decide) (fun c3 => ?_) (fun c3 => ?_)
  · have hf := if_e c3 hf
    refine lv_iconst (v := nI 1) hx hb dX4_critical_11 rfl ?_
    refine lv_istore_n (lv' := [(3, .int (nI 1)), (0, .ref (a 0)), (1, .int p1), (2, .int p2)]) hx hb dX4_critical_12 rfl hl (by decide) rfl (fun ls hl => ?_)
    have hL13 : ∀ (fu : Nat) (x4 : Int32) (q_s_5 : Ar) (q_aside_6 : Ar) (q_reactions_7 : Int32) (q_newSplits_8 : Int32) (q_storiesThen_9 : Int32) (q_heatThen_10 : Int32) (H : Heap) (locs : List Loc) (ls : Array Slot), f_X4_critical_L13 Fu p1 p2 fu x4 q_s_5 q_aside_6 q_reactions_7 q_newSplits_8 q_storiesThen_9 q_heatThen_10 = some (ro, q_s_o, q_aside_o, q_reactions_o, q_newSplits_o, q_storiesThen_o, q_heatThen_o) → GG D A s.heap (w_X4 y a q_s_5 q_aside_6 q_before q_known q_slots q_isSaved q_pad q_length q_letters q_heats q_reactions_7 q_newSplits_8 q_storiesThen_9 q_heatThen_10 q_place q_isWrong q_toldLetter q_toldHeat q_toldStory q_toldWords q_toldStories) H locs → lv_has ls 4 [(0, .ref (a 0)), (1, .int p1), (2, .int p2), (3, .int x4)] → W p l e (RM 4 91) s m args below meth c H locs 0 0 Q (F0 m 13 ls []) := by
      intro fu
      induction fu with
      | zero => intro x4 q_s_5 q_aside_6 q_reactions_7 q_newSplits_8 q_storiesThen_9 q_heatThen_10 H locs ls hf hG hl; exact no_e hf
      | succ fu ih =>
        intro x4 q_s_5 q_aside_6 q_reactions_7 q_newSplits_8 q_storiesThen_9 q_heatThen_10 H locs ls hf hG hl
        rw [f_X4_critical_L13_s] at hf
        refine lv_iload_n hx hb dX4_critical_13 rfl (lv_at hl 3 rfl) ?_
        refine lv_sipush (v := nI 500) hx hb dX4_critical_14 rfl ?_
        refine lv_icmp_gt (tgt := 47) hx hb dX4_critical_17 (by decide) (fun c11 => ?_) (fun c11 => ?_)
        · have hf := it_e c11 hf
          refine lv_bipush (v := -6) hx hb dX4_critical_47 rfl ?_
          have hf := so_e hf
          have e0 : (-6) = ro := congrArg (fun z => z.1) hf
          have e1 : q_s_5 = q_s_o := congrArg (fun z => z.2.1) hf
          have e2 : q_aside_6 = q_aside_o := congrArg (fun z => z.2.2.1) hf
          have e3 : q_reactions_7 = q_reactions_o := congrArg (fun z => z.2.2.2.1) hf
          have e4 : q_newSplits_8 = q_newSplits_o := congrArg (fun z => z.2.2.2.2.1) hf
          have e5 : q_storiesThen_9 = q_storiesThen_o := congrArg (fun z => z.2.2.2.2.2.1) hf
          have e6 : q_heatThen_10 = q_heatThen_o := congrArg (fun z => z.2.2.2.2.2.2) hf
          exact hret _ _ _ _ _ e0 (by rw [← e1, ← e2, ← e3, ← e4, ← e5, ← e6]; exact hG) dX4_critical_49
        · have hf := if_e c11 hf
          refine lv_aload_n hx hb dX4_critical_20 rfl (lv_at hl 0 rfl) ?_
          refine lv_aload_n hx hb dX4_critical_21 rfl (lv_at hl 0 rfl) ?_
          refine lv_iload_n hx hb dX4_critical_22 rfl (lv_at hl 1 rfl) ?_
          obtain ⟨r12, h13, hf⟩ := bd1_e hf
          refine k_Wi F hK hA hG (c_X4_first l D y a H.size Fu q_s_5 q_aside_6 q_before q_known q_slots q_isSaved q_pad q_length q_letters q_heats q_reactions_7 q_newSplits_8 q_storiesThen_9 q_heatThen_10 q_place q_isWrong q_toldLetter q_toldHeat q_toldStory q_toldWords q_toldStories p1 r12 h13) (cwV 1 F.2.2.2.2 gX4_critical_X4_first rfl rfl rfl (by decide +kernel) ⟨Nat.le_of_ble_eq_true rfl, Nat.le_of_ble_eq_true rfl⟩) 0 rfl rfl rfl rfl rfl hl.1 (Nat.le_of_ble_eq_true rfl) dX4_critical_23 ⟨Nat.le_refl 0, Nat.le_refl 0⟩ (fun H locs hG => ?_)
          refine lv_iload_n hx hb dX4_critical_26 rfl (lv_at hl 2 rfl) ?_
          refine lv_iadd hx hb dX4_critical_27 ?_
          refine lv_iload_n hx hb dX4_critical_28 rfl (lv_at hl 3 rfl) ?_
          obtain ⟨q_s_14, q_aside_15, q_reactions_16, q_newSplits_17, q_storiesThen_18, q_heatThen_19, h20, hf⟩ := bd6_e hf
          refine k_Wv F hK hA hG (c_X4_tryHeat l D y a H.size Fu q_s_5 q_aside_6 q_before q_known q_slots q_isSaved q_pad q_length q_letters q_heats q_reactions_7 q_newSplits_8 q_storiesThen_9 q_heatThen_10 q_place q_isWrong q_toldLetter q_toldHeat q_toldStory q_toldWords q_toldStories (r12 + p2) x4 q_s_14 q_aside_15 q_reactions_16 q_newSplits_17 q_storiesThen_18 q_heatThen_19 h20) (cwV 2 F.2.2.2.2 gX4_critical_X4_tryHeat rfl rfl rfl (by decide +kernel) ⟨Nat.le_of_ble_eq_true rfl, Nat.le_of_ble_eq_true rfl⟩) 0 rfl rfl rfl rfl rfl hl.1 (Nat.le_of_ble_eq_true rfl) dX4_critical_29 ⟨Nat.le_refl 0, Nat.le_refl 0⟩ (fun H locs hG => ?_)
          refine lv_aload_n hx hb dX4_critical_32 rfl (lv_at hl 0 rfl) ?_
          refine w_get4 F hK hG k1 0 rfl 11 (by decide) k0 rfl dX4_critical_33 ?_
          refine lv_if_le (tgt := 41) hx hb dX4_critical_36 (by decide) (fun c21 => ?_) (fun c21 => ?_)
          · have hf := it_e c21 hf
            refine lv_iinc (v := x4 + (nI 1)) (lv' := [(3, .int (x4 + (nI 1))), (0, .ref (a 0)), (1, .int p1), (2, .int p2)]) hx hb dX4_critical_41 hl (k := 3) rfl rfl (by decide) rfl (fun ls hl => ?_)
            refine lv_goto (tgt := 13) hx hb dX4_critical_44 (by decide) ?_
            exact ih (x4 + (nI 1)) q_s_14 q_aside_15 q_reactions_16 q_newSplits_17 q_storiesThen_18 q_heatThen_19 _ _ ls hf hG (lv_sub hl [1, 2, 3, 0] rfl)
          · have hf := if_e c21 hf
            refine lv_iload_n hx hb dX4_critical_39 rfl (lv_at hl 3 rfl) ?_
            have hf := so_e hf
            have e0 : x4 = ro := congrArg (fun z => z.1) hf
            have e1 : q_s_14 = q_s_o := congrArg (fun z => z.2.1) hf
            have e2 : q_aside_15 = q_aside_o := congrArg (fun z => z.2.2.1) hf
            have e3 : q_reactions_16 = q_reactions_o := congrArg (fun z => z.2.2.2.1) hf
            have e4 : q_newSplits_17 = q_newSplits_o := congrArg (fun z => z.2.2.2.2.1) hf
            have e5 : q_storiesThen_18 = q_storiesThen_o := congrArg (fun z => z.2.2.2.2.2.1) hf
            have e6 : q_heatThen_19 = q_heatThen_o := congrArg (fun z => z.2.2.2.2.2.2) hf
            exact hret _ _ _ _ _ e0 (by rw [← e1, ← e2, ← e3, ← e4, ← e5, ← e6]; exact hG) dX4_critical_40
    exact hL13 Fu (nI 1) q_s q_aside q_reactions q_newSplits q_storiesThen q_heatThen _ _ ls hf hG (lv_sub hl [1, 2, 3, 0] rfl)
  · have hf := it_e c3 hf
    refine lv_iconst (v := -1) hx hb dX4_critical_9 rfl ?_
    have hf := so_e hf
    have e0 : (-1) = ro := congrArg (fun z => z.1) hf
    have e1 : q_s = q_s_o := congrArg (fun z => z.2.1) hf
    have e2 : q_aside = q_aside_o := congrArg (fun z => z.2.2.1) hf
    have e3 : q_reactions = q_reactions_o := congrArg (fun z => z.2.2.2.1) hf
    have e4 : q_newSplits = q_newSplits_o := congrArg (fun z => z.2.2.2.2.1) hf
    have e5 : q_storiesThen = q_storiesThen_o := congrArg (fun z => z.2.2.2.2.2.1) hf
    have e6 : q_heatThen = q_heatThen_o := congrArg (fun z => z.2.2.2.2.2.2) hf
    exact hret _ _ _ _ _ e0 (by rw [← e1, ← e2, ← e3, ← e4, ← e5, ← e6]; exact hG) dX4_critical_10
set_option maxHeartbeats 1000000 in
set_option maxRecDepth 100000 in
theorem c_X4_touchiest (l : Launch) (D : va_G) (y : Nat → ClassId) (a : Nat → Nat) (sz : Nat) (Fu : Nat) (q_s : Ar) (q_aside : Ar) (q_before : Ar) (q_known : Int32) (q_slots : Ar) (q_isSaved : Ar) (q_pad : Ar) (q_length : Int32) (q_letters : Ar) (q_heats : Ar) (q_reactions : Int32) (q_newSplits : Int32) (q_storiesThen : Int32) (q_heatThen : Int32) (q_place : Int32) (q_isWrong : Int32) (q_toldLetter : Ar) (q_toldHeat : Ar) (q_toldStory : Ar) (q_toldWords : Int32) (q_toldStories : Int32) (p1 : Int32) (p2 : Int32) (ro : Int32) (q_s_o : Ar) (q_aside_o : Ar) (q_reactions_o : Int32) (q_newSplits_o : Int32) (q_storiesThen_o : Int32) (q_heatThen_o : Int32) (hf : f_X4_touchiest Fu q_s q_aside q_reactions q_newSplits q_storiesThen q_heatThen p1 p2 = some (ro, q_s_o, q_aside_o, q_reactions_o, q_newSplits_o, q_storiesThen_o, q_heatThen_o)) : MI l yX4_touchiest wsX4_touchiest 4 91 [.ref (a 0), .int p1, .int p2] D y (w_X4 y a q_s q_aside q_before q_known q_slots q_isSaved q_pad q_length q_letters q_heats q_reactions q_newSplits q_storiesThen q_heatThen q_place q_isWrong q_toldLetter q_toldHeat q_toldStory q_toldWords q_toldStories) sz ro (w_X4 y a q_s_o q_aside_o q_before q_known q_slots q_isSaved q_pad q_length q_letters q_heats q_reactions_o q_newSplits_o q_storiesThen_o q_heatThen_o q_place q_isWrong q_toldLetter q_toldHeat q_toldStory q_toldWords q_toldStories) := by
  refine M_i (cc := cX4_touchiest) (maxL := 6) (own := RX4) (by decide) rfl rfl (Nat.le_of_ble_eq_true rfl) ?_
  intro p e s m args below meth c A Q F hK hA H locs hG hret ls hl
  have hx := F.1
  have hb := F.2.1
  have hl : lv_has ls 6 [(0, .ref (a 0)), (1, .int p1), (2, .int p2)] := hl
  have k0 := F.2.2.2.2 (.fieldLink RX4 7 "HeatedStoriesModel" "s" "[I") (List.mem_of_getElem? (i := 1) rfl)
  have k1 : ∀ w ∈ wsX40, w ∈ wsX4_touchiest := (fun w h => List.mem_cons_of_mem _ (List.mem_append_right _ (h)))
  have k2 := F.2.2.2.2 (.fieldLink RX4 125 "HeatedStoriesModel" "reactions" "I") (List.mem_of_getElem? (i := 2) rfl)
  unfold f_X4_touchiest at hf
  refine lv_iload_n hx hb dX4_touchiest_0 rfl (lv_at hl 1 rfl) ?_
  refine lv_iconst (v := nI 1) hx hb dX4_touchiest_1 rfl ?_
  refine lv_sipush (v := nI 500) hx hb dX4_touchiest_2 rfl ?_
  obtain ⟨r1, h2, hf⟩ := bd1_e hf
  refine k_Si F hK hA hG (c_X4_in l D y  H.size Fu  p1 (nI 1) (nI 500) r1 h2) (va_cwS 3 F.2.2.2.2 gX4_touchiest_X4_in rfl rfl rfl (by decide +kernel) ⟨Nat.le_of_ble_eq_true rfl, Nat.le_of_ble_eq_true rfl⟩) rfl rfl hl.1 (Nat.le_of_ble_eq_true rfl) dX4_touchiest_5 ⟨Nat.le_refl 0, Nat.le_refl 0⟩ (fun H locs hG => ?_)
  refine lv_if_eq (tgt := 20) hx hb dX4_touchiest_8 (by decide) (fun c3 => ?_) (fun c3 => ?_)
  · have hf := it_e c3 hf
    refine lv_bipush (v := -2) hx hb dX4_touchiest_20 rfl ?_
    have hf := so_e hf
    have e0 : (-2) = ro := congrArg (fun z => z.1) hf
    have e1 : q_s = q_s_o := congrArg (fun z => z.2.1) hf
    have e2 : q_aside = q_aside_o := congrArg (fun z => z.2.2.1) hf
    have e3 : q_reactions = q_reactions_o := congrArg (fun z => z.2.2.2.1) hf
    have e4 : q_newSplits = q_newSplits_o := congrArg (fun z => z.2.2.2.2.1) hf
    have e5 : q_storiesThen = q_storiesThen_o := congrArg (fun z => z.2.2.2.2.2.1) hf
    have e6 : q_heatThen = q_heatThen_o := congrArg (fun z => z.2.2.2.2.2.2) hf
    exact hret _ _ _ _ _ e0 (by rw [← e1, ← e2, ← e3, ← e4, ← e5, ← e6]; exact hG) dX4_touchiest_22
  · have hf := if_e c3 hf
    refine lv_iload_n hx hb dX4_touchiest_11 rfl (lv_at hl 2 rfl) ?_
    refine lv_iconst (v := nI 0) hx hb dX4_touchiest_12 rfl ?_
    refine lv_iconst (v := nI 2) hx hb dX4_touchiest_13 rfl ?_
    obtain ⟨r4, h5, hf⟩ := bd1_e hf
    refine k_Si F hK hA hG (c_X4_in l D y  H.size Fu  p2 (nI 0) (nI 2) r4 h5) (va_cwS 3 F.2.2.2.2 gX4_touchiest_X4_in rfl rfl rfl (by decide +kernel) ⟨Nat.le_of_ble_eq_true rfl, Nat.le_of_ble_eq_true rfl⟩) rfl rfl hl.1 (Nat.le_of_ble_eq_true rfl) dX4_touchiest_14 ⟨Nat.le_refl 0, Nat.le_refl 0⟩ (fun H locs hG => ?_)
    refine lv_if_ne (tgt := 23) hx hb dX4_touchiest_17 (by decide) (fun c6 => ?_) (fun c6 => ?_)
    · have hf := if_e c6 hf
      refine lv_bipush (v := -6) hx hb dX4_touchiest_23 rfl ?_
      refine lv_istore_n (lv' := [(3, .int (-6)), (0, .ref (a 0)), (1, .int p1), (2, .int p2)]) hx hb dX4_touchiest_25 rfl hl (by decide) rfl (fun ls hl => ?_)
      refine lv_iconst (v := -1) hx hb dX4_touchiest_26 rfl ?_
      refine lv_istore (lv' := [(4, .int (-1)), (3, .int (-6)), (0, .ref (a 0)), (1, .int p1), (2, .int p2)]) hx hb dX4_touchiest_27 hl (by decide) rfl (fun ls hl => ?_)
      refine lv_iconst (v := nI 0) hx hb dX4_touchiest_29 rfl ?_
      refine lv_istore (lv' := [(5, .int (nI 0)), (4, .int (-1)), (3, .int (-6)), (0, .ref (a 0)), (1, .int p1), (2, .int p2)]) hx hb dX4_touchiest_30 hl (by decide) rfl (fun ls hl => ?_)
      obtain ⟨k_32, ek_32, hf⟩ := jn_e hf
      have hk_32 : ∀ (v28 : Int32) (v29 : Int32) (q_s_30 : Ar) (q_aside_31 : Ar) (q_reactions_32 : Int32) (q_newSplits_33 : Int32) (q_storiesThen_34 : Int32) (q_heatThen_35 : Int32) (H : Heap) (locs : List Loc) (ls : Array Slot), k_32 v28 v29 q_s_30 q_aside_31 q_reactions_32 q_newSplits_33 q_storiesThen_34 q_heatThen_35 = some (ro, q_s_o, q_aside_o, q_reactions_o, q_newSplits_o, q_storiesThen_o, q_heatThen_o) → GG D A s.heap (w_X4 y a q_s_30 q_aside_31 q_before q_known q_slots q_isSaved q_pad q_length q_letters q_heats q_reactions_32 q_newSplits_33 q_storiesThen_34 q_heatThen_35 q_place q_isWrong q_toldLetter q_toldHeat q_toldStory q_toldWords q_toldStories) H locs → lv_has ls 6 [(0, .ref (a 0)), (2, .int p2), (3, .int v28), (4, .int v29)] → W p l e (RM 4 91) s m args below meth c H locs 0 0 Q (F0 m 92 ls []) := by
        intro v28 v29 q_s_30 q_aside_31 q_reactions_32 q_newSplits_33 q_storiesThen_34 q_heatThen_35 H locs ls hf hG hl
        rw [ek_32] at hf
        refine lv_iload_n hx hb dX4_touchiest_92 rfl (lv_at hl 2 rfl) ?_
        refine lv_bipush (v := -6) hx hb dX4_touchiest_93 rfl ?_
        obtain ⟨j46, ej46, hf⟩ := jn_e hf
        have hj46 : ∀ (v45 : Int32) (H : Heap) (locs : List Loc) (ls : Array Slot), j46 v45 = some (ro, q_s_o, q_aside_o, q_reactions_o, q_newSplits_o, q_storiesThen_o, q_heatThen_o) → GG D A s.heap (w_X4 y a q_s_30 q_aside_31 q_before q_known q_slots q_isSaved q_pad q_length q_letters q_heats q_reactions_32 q_newSplits_33 q_storiesThen_34 q_heatThen_35 q_place q_isWrong q_toldLetter q_toldHeat q_toldStory q_toldWords q_toldStories) H locs → lv_has ls 6 [] → W p l e (RM 4 91) s m args below meth c H locs 0 0 Q (F0 m 136 ls [.int v45]) := by
          intro v45 H locs ls hf hG hl
          rw [ej46] at hf
          have hf := so_e hf
          have e0 : v45 = ro := congrArg (fun z => z.1) hf
          have e1 : q_s_30 = q_s_o := congrArg (fun z => z.2.1) hf
          have e2 : q_aside_31 = q_aside_o := congrArg (fun z => z.2.2.1) hf
          have e3 : q_reactions_32 = q_reactions_o := congrArg (fun z => z.2.2.2.1) hf
          have e4 : q_newSplits_33 = q_newSplits_o := congrArg (fun z => z.2.2.2.2.1) hf
          have e5 : q_storiesThen_34 = q_storiesThen_o := congrArg (fun z => z.2.2.2.2.2.1) hf
          have e6 : q_heatThen_35 = q_heatThen_o := congrArg (fun z => z.2.2.2.2.2.2) hf
          exact hret _ _ _ _ _ e0 (by rw [← e1, ← e2, ← e3, ← e4, ← e5, ← e6]; exact hG) dX4_touchiest_136
        refine lv_icmp_ne (tgt := 103) hx hb dX4_touchiest_95 (by decide) (fun c36 => ?_) (fun c36 => ?_)
        · have hf := if_e c36 hf
          refine lv_iload_n hx hb dX4_touchiest_103 rfl (lv_at hl 1 rfl) ?_
          refine lv_if_ne (tgt := 115) hx hb dX4_touchiest_104 (by decide) (fun c37 => ?_) (fun c37 => ?_)
          · have hf := if_e c37 hf
            refine lv_iload_n hx hb dX4_touchiest_115 rfl (lv_at hl 1 rfl) ?_
            refine lv_iconst (v := nI 1) hx hb dX4_touchiest_116 rfl ?_
            refine lv_icmp_ne (tgt := 134) hx hb dX4_touchiest_117 (by decide) (fun c38 => ?_) (fun c38 => ?_)
            · have hf := if_e c38 hf
              refine lv_iload hx hb dX4_touchiest_134 (lv_at hl 3 rfl) ?_
              exact hj46 v29 _ _ ls hf hG (lv_sub hl [] rfl)
            · have hf := it_e c38 hf
              refine lv_iload_n hx hb dX4_touchiest_120 rfl (lv_at hl 2 rfl) ?_
              refine lv_aload_n hx hb dX4_touchiest_121 rfl (lv_at hl 0 rfl) ?_
              refine lv_aload_n hx hb dX4_touchiest_122 rfl (lv_at hl 0 rfl) ?_
              refine lv_iload_n hx hb dX4_touchiest_123 rfl (lv_at hl 2 rfl) ?_
              obtain ⟨r39, h40, hf⟩ := bd1_e hf
              refine k_Wi F hK hA hG (c_X4_storyOf l D y a H.size Fu q_s_30 q_aside_31 q_before q_known q_slots q_isSaved q_pad q_length q_letters q_heats q_reactions_32 q_newSplits_33 q_storiesThen_34 q_heatThen_35 q_place q_isWrong q_toldLetter q_toldHeat q_toldStory q_toldWords q_toldStories v28 r39 h40) (cwV 1 F.2.2.2.2 gX4_touchiest_X4_storyOf rfl rfl rfl (by decide +kernel) ⟨Nat.le_of_ble_eq_true rfl, Nat.le_of_ble_eq_true rfl⟩) 0 rfl rfl rfl rfl rfl hl.1 (Nat.le_of_ble_eq_true rfl) dX4_touchiest_124 ⟨Nat.le_refl 0, Nat.le_refl 0⟩ (fun H locs hG => ?_)
              obtain ⟨r41, h42, hf⟩ := bd1_e hf
              refine k_Wi F hK hA hG (c_X4_first l D y a H.size Fu q_s_30 q_aside_31 q_before q_known q_slots q_isSaved q_pad q_length q_letters q_heats q_reactions_32 q_newSplits_33 q_storiesThen_34 q_heatThen_35 q_place q_isWrong q_toldLetter q_toldHeat q_toldStory q_toldWords q_toldStories r39 r41 h42) (cwV 1 F.2.2.2.2 gX4_touchiest_X4_first rfl rfl rfl (by decide +kernel) ⟨Nat.le_of_ble_eq_true rfl, Nat.le_of_ble_eq_true rfl⟩) 0 rfl rfl rfl rfl rfl hl.1 (Nat.le_of_ble_eq_true rfl) dX4_touchiest_127 ⟨Nat.le_refl 0, Nat.le_refl 0⟩ (fun H locs hG => ?_)
              refine lv_isub hx hb dX4_touchiest_130 ?_
              refine lv_goto (tgt := 136) hx hb dX4_touchiest_131 (by decide) ?_
              exact hj46 (v28 - r41) _ _ ls hf hG (lv_sub hl [] rfl)
          · have hf := it_e c37 hf
            refine lv_aload_n hx hb dX4_touchiest_107 rfl (lv_at hl 0 rfl) ?_
            refine lv_iload_n hx hb dX4_touchiest_108 rfl (lv_at hl 2 rfl) ?_
            obtain ⟨r43, h44, hf⟩ := bd1_e hf
            refine k_Wi F hK hA hG (c_X4_storyOf l D y a H.size Fu q_s_30 q_aside_31 q_before q_known q_slots q_isSaved q_pad q_length q_letters q_heats q_reactions_32 q_newSplits_33 q_storiesThen_34 q_heatThen_35 q_place q_isWrong q_toldLetter q_toldHeat q_toldStory q_toldWords q_toldStories v28 r43 h44) (cwV 1 F.2.2.2.2 gX4_touchiest_X4_storyOf rfl rfl rfl (by decide +kernel) ⟨Nat.le_of_ble_eq_true rfl, Nat.le_of_ble_eq_true rfl⟩) 0 rfl rfl rfl rfl rfl hl.1 (Nat.le_of_ble_eq_true rfl) dX4_touchiest_109 ⟨Nat.le_refl 0, Nat.le_refl 0⟩ (fun H locs hG => ?_)
            refine lv_goto (tgt := 136) hx hb dX4_touchiest_112 (by decide) ?_
            exact hj46 r43 _ _ ls hf hG (lv_sub hl [] rfl)
        · have hf := it_e c36 hf
          refine lv_bipush (v := -6) hx hb dX4_touchiest_98 rfl ?_
          refine lv_goto (tgt := 136) hx hb dX4_touchiest_100 (by decide) ?_
          exact hj46 (-6) _ _ ls hf hG (lv_sub hl [] rfl)
      have hL32 : ∀ (fu : Nat) (x7 : Int32) (x8 : Int32) (x9 : Int32) (q_s_10 : Ar) (q_aside_11 : Ar) (q_reactions_12 : Int32) (q_newSplits_13 : Int32) (q_storiesThen_14 : Int32) (q_heatThen_15 : Int32) (H : Heap) (locs : List Loc) (ls : Array Slot), f_X4_touchiest_L32 Fu k_32 p1 fu x7 x8 x9 q_s_10 q_aside_11 q_reactions_12 q_newSplits_13 q_storiesThen_14 q_heatThen_15 = some (ro, q_s_o, q_aside_o, q_reactions_o, q_newSplits_o, q_storiesThen_o, q_heatThen_o) → GG D A s.heap (w_X4 y a q_s_10 q_aside_11 q_before q_known q_slots q_isSaved q_pad q_length q_letters q_heats q_reactions_12 q_newSplits_13 q_storiesThen_14 q_heatThen_15 q_place q_isWrong q_toldLetter q_toldHeat q_toldStory q_toldWords q_toldStories) H locs → lv_has ls 6 [(0, .ref (a 0)), (1, .int p1), (2, .int p2), (3, .int x7), (4, .int x8), (5, .int x9)] → W p l e (RM 4 91) s m args below meth c H locs 0 0 Q (F0 m 32 ls []) := by
        intro fu
        induction fu with
        | zero => intro x7 x8 x9 q_s_10 q_aside_11 q_reactions_12 q_newSplits_13 q_storiesThen_14 q_heatThen_15 H locs ls hf hG hl; exact no_e hf
        | succ fu ih =>
          intro x7 x8 x9 q_s_10 q_aside_11 q_reactions_12 q_newSplits_13 q_storiesThen_14 q_heatThen_15 H locs ls hf hG hl
          rw [f_X4_touchiest_L32_s] at hf
          refine lv_iload hx hb dX4_touchiest_32 (lv_at hl 5 rfl) ?_
          refine lv_aload_n hx hb dX4_touchiest_34 rfl (lv_at hl 0 rfl) ?_
          refine w_get4 F hK hG k1 0 rfl 0 (by decide) k0 rfl dX4_touchiest_35 ?_
          refine lv_iconst (v := nI 4) hx hb dX4_touchiest_38 rfl ?_
          refine w_ialdk F hK hG 1 rfl (Nat.le_of_ble_eq_true rfl) (Nat.le_of_ble_eq_true rfl) dX4_touchiest_39 ?_
          refine lv_icmp_ge (tgt := 92) hx hb dX4_touchiest_40 (by decide) (fun c16 => ?_) (fun c16 => ?_)
          · have hf := it_e c16 hf
            exact hk_32 x7 x8 q_s_10 q_aside_11 q_reactions_12 q_newSplits_13 q_storiesThen_14 q_heatThen_15 _ _ ls hf hG (lv_sub hl [0, 2, 3, 4] rfl)
          · have hf := if_e c16 hf
            refine lv_aload_n hx hb dX4_touchiest_43 rfl (lv_at hl 0 rfl) ?_
            refine lv_iload hx hb dX4_touchiest_44 (lv_at hl 5 rfl) ?_
            refine lv_iload_n hx hb dX4_touchiest_46 rfl (lv_at hl 1 rfl) ?_
            obtain ⟨q_s_17, q_aside_18, q_reactions_19, q_newSplits_20, q_storiesThen_21, q_heatThen_22, h23, hf⟩ := bd6_e hf
            refine k_Wv F hK hA hG (c_X4_tryHeat l D y a H.size Fu q_s_10 q_aside_11 q_before q_known q_slots q_isSaved q_pad q_length q_letters q_heats q_reactions_12 q_newSplits_13 q_storiesThen_14 q_heatThen_15 q_place q_isWrong q_toldLetter q_toldHeat q_toldStory q_toldWords q_toldStories x9 p1 q_s_17 q_aside_18 q_reactions_19 q_newSplits_20 q_storiesThen_21 q_heatThen_22 h23) (cwV 2 F.2.2.2.2 gX4_touchiest_X4_tryHeat rfl rfl rfl (by decide +kernel) ⟨Nat.le_of_ble_eq_true rfl, Nat.le_of_ble_eq_true rfl⟩) 0 rfl rfl rfl rfl rfl hl.1 (Nat.le_of_ble_eq_true rfl) dX4_touchiest_47 ⟨Nat.le_refl 0, Nat.le_refl 0⟩ (fun H locs hG => ?_)
            refine lv_aload_n hx hb dX4_touchiest_50 rfl (lv_at hl 0 rfl) ?_
            refine w_get4 F hK hG k1 0 rfl 10 (by decide) k2 rfl dX4_touchiest_51 ?_
            refine lv_iload hx hb dX4_touchiest_54 (lv_at hl 4 rfl) ?_
            obtain ⟨v25, ev25, hf⟩ := nm_o hf
            have hJ : ∀ (ls : Array Slot), lv_has ls 6 [(0, .ref (a 0)), (1, .int p1), (2, .int p2), (4, .int x8), (5, .int x9)] → W p l e (RM 4 91) s m args below meth c H locs 0 0 Q (F0 m 65 ls [.int v25]) := by
              intro ls hl
              refine lv_istore_n (lv' := [(3, .int v25), (0, .ref (a 0)), (1, .int p1), (2, .int p2), (4, .int x8), (5, .int x9)]) hx hb dX4_touchiest_65 rfl hl (by decide) rfl (fun ls hl => ?_)
              refine lv_aload_n hx hb dX4_touchiest_66 rfl (lv_at hl 1 rfl) ?_
              refine w_get4 F hK hG k1 0 rfl 10 (by decide) k2 rfl dX4_touchiest_67 ?_
              refine lv_iload hx hb dX4_touchiest_70 (lv_at hl 4 rfl) ?_
              obtain ⟨v27, ev27, hf⟩ := nm_o hf
              have hJ : ∀ (ls : Array Slot), lv_has ls 6 [(0, .ref (a 0)), (1, .int p1), (2, .int p2), (3, .int v25), (5, .int x9)] → W p l e (RM 4 91) s m args below meth c H locs 0 0 Q (F0 m 84 ls [.int v27]) := by
                intro ls hl
                refine lv_istore (lv' := [(4, .int v27), (0, .ref (a 0)), (1, .int p1), (2, .int p2), (3, .int v25), (5, .int x9)]) hx hb dX4_touchiest_84 hl (by decide) rfl (fun ls hl => ?_)
                refine lv_iinc (v := x9 + (nI 1)) (lv' := [(5, .int (x9 + (nI 1))), (4, .int v27), (0, .ref (a 0)), (1, .int p1), (2, .int p2), (3, .int v25)]) hx hb dX4_touchiest_86 hl (k := 5) rfl rfl (by decide) rfl (fun ls hl => ?_)
                refine lv_goto (tgt := 32) hx hb dX4_touchiest_89 (by decide) ?_
                exact ih v25 v27 (x9 + (nI 1)) q_s_17 q_aside_18 q_reactions_19 q_newSplits_20 q_storiesThen_21 q_heatThen_22 _ _ ls hf hG (lv_sub hl [2, 3, 4, 5, 1, 0] rfl)
              refine lv_icmp_le (tgt := 82) hx hb dX4_touchiest_72 (by decide) (fun c26 => ?_) (fun c26 => ?_)
              · refine lv_iload hx hb dX4_touchiest_82 (lv_at hl 4 rfl) ?_
                have qv27 := (ev27.trans (if_pos c26))
                subst qv27
                exact hJ ls (lv_sub hl [1, 2, 3, 0, 5] rfl)
              · refine lv_aload_n hx hb dX4_touchiest_75 rfl (lv_at hl 1 rfl) ?_
                refine w_get4 F hK hG k1 0 rfl 10 (by decide) k2 rfl dX4_touchiest_76 ?_
                refine lv_goto (tgt := 84) hx hb dX4_touchiest_79 (by decide) ?_
                have qv27 := (ev27.trans (if_neg c26))
                subst qv27
                exact hJ ls (lv_sub hl [1, 2, 3, 0, 5] rfl)
            refine lv_icmp_le (tgt := 64) hx hb dX4_touchiest_56 (by decide) (fun c24 => ?_) (fun c24 => ?_)
            · refine lv_iload_n hx hb dX4_touchiest_64 rfl (lv_at hl 3 rfl) ?_
              have qv25 := (ev25.trans (if_pos c24))
              subst qv25
              exact hJ ls (lv_sub hl [0, 1, 2, 4, 5] rfl)
            · refine lv_iload hx hb dX4_touchiest_59 (lv_at hl 5 rfl) ?_
              refine lv_goto (tgt := 65) hx hb dX4_touchiest_61 (by decide) ?_
              have qv25 := (ev25.trans (if_neg c24))
              subst qv25
              exact hJ ls (lv_sub hl [0, 1, 2, 4, 5] rfl)
      exact hL32 Fu (-6) (-1) (nI 0) q_s q_aside q_reactions q_newSplits q_storiesThen q_heatThen _ _ ls hf hG (lv_sub hl [3, 4, 5, 2, 1, 0] rfl)
    · have hf := it_e c6 hf
      refine lv_bipush (v := -2) hx hb dX4_touchiest_20 rfl ?_
      have hf := so_e hf
      have e0 : (-2) = ro := congrArg (fun z => z.1) hf
      have e1 : q_s = q_s_o := congrArg (fun z => z.2.1) hf
      have e2 : q_aside = q_aside_o := congrArg (fun z => z.2.2.1) hf
      have e3 : q_reactions = q_reactions_o := congrArg (fun z => z.2.2.2.1) hf
      have e4 : q_newSplits = q_newSplits_o := congrArg (fun z => z.2.2.2.2.1) hf
      have e5 : q_storiesThen = q_storiesThen_o := congrArg (fun z => z.2.2.2.2.2.1) hf
      have e6 : q_heatThen = q_heatThen_o := congrArg (fun z => z.2.2.2.2.2.2) hf
      exact hret _ _ _ _ _ e0 (by rw [← e1, ← e2, ← e3, ← e4, ← e5, ← e6]; exact hG) dX4_touchiest_22
set_option maxHeartbeats 1000000 in
set_option maxRecDepth 100000 in
theorem c_X4_coolestPair (l : Launch) (D : va_G) (y : Nat → ClassId) (a : Nat → Nat) (sz : Nat) (Fu : Nat) (q_s : Ar) (q_aside : Ar) (q_before : Ar) (q_known : Int32) (q_slots : Ar) (q_isSaved : Ar) (q_pad : Ar) (q_length : Int32) (q_letters : Ar) (q_heats : Ar) (q_reactions : Int32) (q_newSplits : Int32) (q_storiesThen : Int32) (q_heatThen : Int32) (q_place : Int32) (q_isWrong : Int32) (q_toldLetter : Ar) (q_toldHeat : Ar) (q_toldStory : Ar) (q_toldWords : Int32) (q_toldStories : Int32) (p1 : Int32) (ro : Int32) (hf : f_X4_coolestPair Fu q_s p1 = some (ro)) : MI l yX4_coolestPair wsX4_coolestPair 3 70 [.ref (a 0), .int p1] D y (w_X4 y a q_s q_aside q_before q_known q_slots q_isSaved q_pad q_length q_letters q_heats q_reactions q_newSplits q_storiesThen q_heatThen q_place q_isWrong q_toldLetter q_toldHeat q_toldStory q_toldWords q_toldStories) sz ro (w_X4 y a q_s q_aside q_before q_known q_slots q_isSaved q_pad q_length q_letters q_heats q_reactions q_newSplits q_storiesThen q_heatThen q_place q_isWrong q_toldLetter q_toldHeat q_toldStory q_toldWords q_toldStories) := by
  refine M_i (cc := cX4_coolestPair) (maxL := 9) (own := RX4) (by decide) rfl rfl (Nat.le_of_ble_eq_true rfl) ?_
  intro p e s m args below meth c A Q F hK hA H locs hG hret ls hl
  have hx := F.1
  have hb := F.2.1
  have hl : lv_has ls 9 [(0, .ref (a 0)), (1, .int p1)] := hl
  have k0 := F.2.2.2.2 (.fieldLink RX4 7 "HeatedStoriesModel" "s" "[I") (List.mem_of_getElem? (i := 1) rfl)
  have k1 : ∀ w ∈ wsX40, w ∈ wsX4_coolestPair := (fun w h => List.mem_cons_of_mem _ (List.mem_append_right _ (h)))
  unfold f_X4_coolestPair at hf
  refine lv_iload_n hx hb dX4_coolestPair_0 rfl (lv_at hl 1 rfl) ?_
  refine lv_iconst (v := nI 0) hx hb dX4_coolestPair_1 rfl ?_
  refine lv_iconst (v := nI 1) hx hb dX4_coolestPair_2 rfl ?_
  obtain ⟨r1, h2, hf⟩ := bd1_e hf
  refine k_Si F hK hA hG (c_X4_in l D y  H.size Fu  p1 (nI 0) (nI 1) r1 h2) (va_cwS 3 F.2.2.2.2 gX4_coolestPair_X4_in rfl rfl rfl (by decide +kernel) ⟨Nat.le_of_ble_eq_true rfl, Nat.le_of_ble_eq_true rfl⟩) rfl rfl hl.1 (Nat.le_of_ble_eq_true rfl) dX4_coolestPair_3 ⟨Nat.le_refl 0, Nat.le_refl 0⟩ (fun H locs hG => ?_)
  refine lv_if_ne (tgt := 12) hx hb dX4_coolestPair_6 (by decide) (fun c3 => ?_) (fun c3 => ?_)
  · have hf := if_e c3 hf
    refine lv_bipush (v := -6) hx hb dX4_coolestPair_12 rfl ?_
    refine lv_istore_n (lv' := [(2, .int (-6)), (0, .ref (a 0)), (1, .int p1)]) hx hb dX4_coolestPair_14 rfl hl (by decide) rfl (fun ls hl => ?_)
    refine lv_bipush (v := -6) hx hb dX4_coolestPair_15 rfl ?_
    refine lv_istore_n (lv' := [(3, .int (-6)), (2, .int (-6)), (0, .ref (a 0)), (1, .int p1)]) hx hb dX4_coolestPair_17 rfl hl (by decide) rfl (fun ls hl => ?_)
    refine lv_iconst (v := nI 0) hx hb dX4_coolestPair_18 rfl ?_
    refine lv_istore (lv' := [(4, .int (nI 0)), (3, .int (-6)), (2, .int (-6)), (0, .ref (a 0)), (1, .int p1)]) hx hb dX4_coolestPair_19 hl (by decide) rfl (fun ls hl => ?_)
    refine lv_iconst (v := nI 0) hx hb dX4_coolestPair_21 rfl ?_
    refine lv_istore (lv' := [(5, .int (nI 0)), (4, .int (nI 0)), (3, .int (-6)), (2, .int (-6)), (0, .ref (a 0)), (1, .int p1)]) hx hb dX4_coolestPair_22 hl (by decide) rfl (fun ls hl => ?_)
    obtain ⟨k_24, ek_24, hf⟩ := jn_e hf
    have hk_24 : ∀ (v35 : Int32) (v36 : Int32) (H : Heap) (locs : List Loc) (ls : Array Slot), k_24 v35 v36 = some (ro) → GG D A s.heap (w_X4 y a q_s q_aside q_before q_known q_slots q_isSaved q_pad q_length q_letters q_heats q_reactions q_newSplits q_storiesThen q_heatThen q_place q_isWrong q_toldLetter q_toldHeat q_toldStory q_toldWords q_toldStories) H locs → lv_has ls 9 [(1, .int p1), (2, .int v35), (3, .int v36)] → W p l e (RM 3 70) s m args below meth c H locs 0 0 Q (F0 m 152 ls []) := by
      intro v35 v36 H locs ls hf hG hl
      rw [ek_24] at hf
      refine lv_iload_n hx hb dX4_coolestPair_152 rfl (lv_at hl 0 rfl) ?_
      obtain ⟨v38, ev38, hf⟩ := nm_o hf
      have hJ : ∀ (ls : Array Slot), lv_has ls 9 [] → W p l e (RM 3 70) s m args below meth c H locs 0 0 Q (F0 m 161 ls [.int v38]) := by
        intro ls hl
        have hf := so_e hf
        have e0 : v38 = ro := hf
        exact hret _ _ _ _ _ e0 hG dX4_coolestPair_161
      refine lv_if_ne (tgt := 160) hx hb dX4_coolestPair_153 (by decide) (fun c37 => ?_) (fun c37 => ?_)
      · refine lv_iload_n hx hb dX4_coolestPair_160 rfl (lv_at hl 2 rfl) ?_
        have qv38 := (ev38.trans (if_neg c37))
        subst qv38
        exact hJ ls (lv_sub hl [] rfl)
      · refine lv_iload_n hx hb dX4_coolestPair_156 rfl (lv_at hl 1 rfl) ?_
        refine lv_goto (tgt := 161) hx hb dX4_coolestPair_157 (by decide) ?_
        have qv38 := (ev38.trans (if_pos c37))
        subst qv38
        exact hJ ls (lv_sub hl [] rfl)
    have hL24 : ∀ (fu : Nat) (x4 : Int32) (x5 : Int32) (x6 : Int32) (x7 : Int32) (H : Heap) (locs : List Loc) (ls : Array Slot), f_X4_coolestPair_L24 Fu k_24 q_s fu x4 x5 x6 x7 = some (ro) → GG D A s.heap (w_X4 y a q_s q_aside q_before q_known q_slots q_isSaved q_pad q_length q_letters q_heats q_reactions q_newSplits q_storiesThen q_heatThen q_place q_isWrong q_toldLetter q_toldHeat q_toldStory q_toldWords q_toldStories) H locs → lv_has ls 9 [(0, .ref (a 0)), (1, .int p1), (2, .int x4), (3, .int x5), (4, .int x6), (5, .int x7)] → W p l e (RM 3 70) s m args below meth c H locs 0 0 Q (F0 m 24 ls []) := by
      intro fu
      induction fu with
      | zero => intro x4 x5 x6 x7 H locs ls hf hG hl; exact no_e hf
      | succ fu ih =>
        intro x4 x5 x6 x7 H locs ls hf hG hl
        rw [f_X4_coolestPair_L24_s] at hf
        refine lv_iload hx hb dX4_coolestPair_24 (lv_at hl 5 rfl) ?_
        refine lv_aload_n hx hb dX4_coolestPair_26 rfl (lv_at hl 0 rfl) ?_
        refine w_get4 F hK hG k1 0 rfl 0 (by decide) k0 rfl dX4_coolestPair_27 ?_
        refine lv_iconst (v := nI 3) hx hb dX4_coolestPair_30 rfl ?_
        refine w_ialdk F hK hG 1 rfl (Nat.le_of_ble_eq_true rfl) (Nat.le_of_ble_eq_true rfl) dX4_coolestPair_31 ?_
        refine lv_icmp_ge (tgt := 152) hx hb dX4_coolestPair_32 (by decide) (fun c8 => ?_) (fun c8 => ?_)
        · have hf := it_e c8 hf
          exact hk_24 x4 x5 _ _ ls hf hG (lv_sub hl [1, 2, 3] rfl)
        · have hf := if_e c8 hf
          refine lv_iload hx hb dX4_coolestPair_35 (lv_at hl 5 rfl) ?_
          refine lv_iconst (v := nI 1) hx hb dX4_coolestPair_37 rfl ?_
          refine lv_iadd hx hb dX4_coolestPair_38 ?_
          refine lv_istore (lv' := [(6, .int (x7 + (nI 1))), (0, .ref (a 0)), (1, .int p1), (2, .int x4), (3, .int x5), (4, .int x6), (5, .int x7)]) hx hb dX4_coolestPair_39 hl (by decide) rfl (fun ls hl => ?_)
          obtain ⟨k_41, ek_41, hf⟩ := jn_e hf
          have hk_41 : ∀ (v32 : Int32) (v33 : Int32) (v34 : Int32) (H : Heap) (locs : List Loc) (ls : Array Slot), k_41 v32 v33 v34 = some (ro) → GG D A s.heap (w_X4 y a q_s q_aside q_before q_known q_slots q_isSaved q_pad q_length q_letters q_heats q_reactions q_newSplits q_storiesThen q_heatThen q_place q_isWrong q_toldLetter q_toldHeat q_toldStory q_toldWords q_toldStories) H locs → lv_has ls 9 [(0, .ref (a 0)), (1, .int p1), (2, .int v32), (3, .int v33), (4, .int v34), (5, .int x7)] → W p l e (RM 3 70) s m args below meth c H locs 0 0 Q (F0 m 146 ls []) := by
            intro v32 v33 v34 H locs ls hf hG hl
            rw [ek_41] at hf
            refine lv_iinc (v := x7 + (nI 1)) (lv' := [(5, .int (x7 + (nI 1))), (0, .ref (a 0)), (1, .int p1), (2, .int v32), (3, .int v33), (4, .int v34)]) hx hb dX4_coolestPair_146 hl (k := 5) rfl rfl (by decide) rfl (fun ls hl => ?_)
            refine lv_goto (tgt := 24) hx hb dX4_coolestPair_149 (by decide) ?_
            exact ih v32 v33 v34 (x7 + (nI 1)) _ _ ls hf hG (lv_sub hl [1, 2, 3, 4, 5, 0] rfl)
          have hL41 : ∀ (fu : Nat) (x9 : Int32) (x10 : Int32) (x11 : Int32) (x12 : Int32) (H : Heap) (locs : List Loc) (ls : Array Slot), f_X4_coolestPair_L41 Fu k_41 q_s x7 fu x9 x10 x11 x12 = some (ro) → GG D A s.heap (w_X4 y a q_s q_aside q_before q_known q_slots q_isSaved q_pad q_length q_letters q_heats q_reactions q_newSplits q_storiesThen q_heatThen q_place q_isWrong q_toldLetter q_toldHeat q_toldStory q_toldWords q_toldStories) H locs → lv_has ls 9 [(0, .ref (a 0)), (1, .int p1), (2, .int x9), (3, .int x10), (4, .int x11), (5, .int x7), (6, .int x12)] → W p l e (RM 3 70) s m args below meth c H locs 0 0 Q (F0 m 41 ls []) := by
            intro fu
            induction fu with
            | zero => intro x9 x10 x11 x12 H locs ls hf hG hl; exact no_e hf
            | succ fu ih =>
              intro x9 x10 x11 x12 H locs ls hf hG hl
              rw [f_X4_coolestPair_L41_s] at hf
              refine lv_iload hx hb dX4_coolestPair_41 (lv_at hl 6 rfl) ?_
              refine lv_aload_n hx hb dX4_coolestPair_43 rfl (lv_at hl 0 rfl) ?_
              refine w_get4 F hK hG k1 0 rfl 0 (by decide) k0 rfl dX4_coolestPair_44 ?_
              refine lv_iconst (v := nI 3) hx hb dX4_coolestPair_47 rfl ?_
              refine w_ialdk F hK hG 1 rfl (Nat.le_of_ble_eq_true rfl) (Nat.le_of_ble_eq_true rfl) dX4_coolestPair_48 ?_
              refine lv_icmp_ge (tgt := 146) hx hb dX4_coolestPair_49 (by decide) (fun c13 => ?_) (fun c13 => ?_)
              · have hf := it_e c13 hf
                exact hk_41 x9 x10 x11 _ _ ls hf hG (lv_sub hl [0, 1, 2, 3, 4, 5] rfl)
              · have hf := if_e c13 hf
                refine lv_aload_n hx hb dX4_coolestPair_52 rfl (lv_at hl 0 rfl) ?_
                refine lv_iload hx hb dX4_coolestPair_53 (lv_at hl 5 rfl) ?_
                obtain ⟨r14, h15, hf⟩ := bd1_e hf
                refine k_Wi F hK hA hG (c_X4_heatOf l D y a H.size Fu q_s q_aside q_before q_known q_slots q_isSaved q_pad q_length q_letters q_heats q_reactions q_newSplits q_storiesThen q_heatThen q_place q_isWrong q_toldLetter q_toldHeat q_toldStory q_toldWords q_toldStories x7 r14 h15) (cwV 1 F.2.2.2.2 gX4_coolestPair_X4_heatOf rfl rfl rfl (by decide +kernel) ⟨Nat.le_of_ble_eq_true rfl, Nat.le_of_ble_eq_true rfl⟩) 0 rfl rfl rfl rfl rfl hl.1 (Nat.le_of_ble_eq_true rfl) dX4_coolestPair_55 ⟨Nat.le_refl 0, Nat.le_refl 0⟩ (fun H locs hG => ?_)
                refine lv_aload_n hx hb dX4_coolestPair_58 rfl (lv_at hl 0 rfl) ?_
                refine lv_iload hx hb dX4_coolestPair_59 (lv_at hl 6 rfl) ?_
                obtain ⟨r16, h17, hf⟩ := bd1_e hf
                refine k_Wi F hK hA hG (c_X4_heatOf l D y a H.size Fu q_s q_aside q_before q_known q_slots q_isSaved q_pad q_length q_letters q_heats q_reactions q_newSplits q_storiesThen q_heatThen q_place q_isWrong q_toldLetter q_toldHeat q_toldStory q_toldWords q_toldStories x12 r16 h17) (cwV 1 F.2.2.2.2 gX4_coolestPair_X4_heatOf rfl rfl rfl (by decide +kernel) ⟨Nat.le_of_ble_eq_true rfl, Nat.le_of_ble_eq_true rfl⟩) 0 rfl rfl rfl rfl rfl hl.1 (Nat.le_of_ble_eq_true rfl) dX4_coolestPair_61 ⟨Nat.le_refl 0, Nat.le_refl 0⟩ (fun H locs hG => ?_)
                refine lv_iadd hx hb dX4_coolestPair_64 ?_
                refine lv_istore (lv' := [(7, .int (r14 + r16)), (0, .ref (a 0)), (1, .int p1), (2, .int x9), (3, .int x10), (4, .int x11), (5, .int x7), (6, .int x12)]) hx hb dX4_coolestPair_65 hl (by decide) rfl (fun ls hl => ?_)
                refine lv_aload_n hx hb dX4_coolestPair_67 rfl (lv_at hl 1 rfl) ?_
                refine lv_iload hx hb dX4_coolestPair_68 (lv_at hl 6 rfl) ?_
                obtain ⟨r18, h19, hf⟩ := bd1_e hf
                refine k_Wi F hK hA hG (c_X4_theme l D y a H.size Fu q_s q_aside q_before q_known q_slots q_isSaved q_pad q_length q_letters q_heats q_reactions q_newSplits q_storiesThen q_heatThen q_place q_isWrong q_toldLetter q_toldHeat q_toldStory q_toldWords q_toldStories x7 r18 h19) (cwV 1 F.2.2.2.2 gX4_coolestPair_X4_theme rfl rfl rfl (by decide +kernel) ⟨Nat.le_of_ble_eq_true rfl, Nat.le_of_ble_eq_true rfl⟩) 0 rfl rfl rfl rfl rfl hl.1 (Nat.le_of_ble_eq_true rfl) dX4_coolestPair_70 ⟨Nat.le_refl 0, Nat.le_refl 0⟩ (fun H locs hG => ?_)
                refine lv_aload_n hx hb dX4_coolestPair_73 rfl (lv_at hl 1 rfl) ?_
                refine lv_iload hx hb dX4_coolestPair_74 (lv_at hl 7 rfl) ?_
                obtain ⟨r20, h21, hf⟩ := bd1_e hf
                refine k_Wi F hK hA hG (c_X4_theme l D y a H.size Fu q_s q_aside q_before q_known q_slots q_isSaved q_pad q_length q_letters q_heats q_reactions q_newSplits q_storiesThen q_heatThen q_place q_isWrong q_toldLetter q_toldHeat q_toldStory q_toldWords q_toldStories x12 r20 h21) (cwV 1 F.2.2.2.2 gX4_coolestPair_X4_theme rfl rfl rfl (by decide +kernel) ⟨Nat.le_of_ble_eq_true rfl, Nat.le_of_ble_eq_true rfl⟩) 0 rfl rfl rfl rfl rfl hl.1 (Nat.le_of_ble_eq_true rfl) dX4_coolestPair_76 ⟨Nat.le_refl 0, Nat.le_refl 0⟩ (fun H locs hG => ?_)
                obtain ⟨v25, ev25, hf⟩ := nm_o hf
                have hJ : ∀ (ls : Array Slot), lv_has ls 9 [(0, .ref (a 0)), (1, .int p1), (2, .int x9), (3, .int x10), (4, .int x11), (5, .int x7), (6, .int x12), (7, .int (r14 + r16))] → W p l e (RM 3 70) s m args below meth c H locs 0 0 Q (F0 m 100 ls [.int v25]) := by
                  intro ls hl
                  refine lv_istore (lv' := [(8, .int v25), (0, .ref (a 0)), (1, .int p1), (2, .int x9), (3, .int x10), (4, .int x11), (5, .int x7), (6, .int x12), (7, .int (r14 + r16))]) hx hb dX4_coolestPair_100 hl (by decide) rfl (fun ls hl => ?_)
                  refine lv_iload hx hb dX4_coolestPair_102 (lv_at hl 0 rfl) ?_
                  obtain ⟨v27, ev27, hf⟩ := nm_o hf
                  have hJ : ∀ (ls : Array Slot), lv_has ls 9 [(0, .ref (a 0)), (1, .int p1), (3, .int x10), (4, .int x11), (5, .int x7), (6, .int x12), (7, .int (r14 + r16)), (8, .int v25)] → W p l e (RM 3 70) s m args below meth c H locs 0 0 Q (F0 m 113 ls [.int v27]) := by
                    intro ls hl
                    refine lv_istore_n (lv' := [(2, .int v27), (0, .ref (a 0)), (1, .int p1), (3, .int x10), (4, .int x11), (5, .int x7), (6, .int x12), (7, .int (r14 + r16)), (8, .int v25)]) hx hb dX4_coolestPair_113 rfl hl (by decide) rfl (fun ls hl => ?_)
                    refine lv_iload hx hb dX4_coolestPair_114 (lv_at hl 8 rfl) ?_
                    obtain ⟨v29, ev29, hf⟩ := nm_o hf
                    have hJ : ∀ (ls : Array Slot), lv_has ls 9 [(0, .ref (a 0)), (1, .int p1), (2, .int v27), (4, .int x11), (5, .int x7), (6, .int x12), (7, .int (r14 + r16)), (8, .int v25)] → W p l e (RM 3 70) s m args below meth c H locs 0 0 Q (F0 m 125 ls [.int v29]) := by
                      intro ls hl
                      refine lv_istore_n (lv' := [(3, .int v29), (0, .ref (a 0)), (1, .int p1), (2, .int v27), (4, .int x11), (5, .int x7), (6, .int x12), (7, .int (r14 + r16)), (8, .int v25)]) hx hb dX4_coolestPair_125 rfl hl (by decide) rfl (fun ls hl => ?_)
                      refine lv_iload hx hb dX4_coolestPair_126 (lv_at hl 8 rfl) ?_
                      obtain ⟨v31, ev31, hf⟩ := nm_o hf
                      have hJ : ∀ (ls : Array Slot), lv_has ls 9 [(0, .ref (a 0)), (1, .int p1), (2, .int v27), (3, .int v29), (5, .int x7), (6, .int x12)] → W p l e (RM 3 70) s m args below meth c H locs 0 0 Q (F0 m 138 ls [.int v31]) := by
                        intro ls hl
                        refine lv_istore (lv' := [(4, .int v31), (0, .ref (a 0)), (1, .int p1), (2, .int v27), (3, .int v29), (5, .int x7), (6, .int x12)]) hx hb dX4_coolestPair_138 hl (by decide) rfl (fun ls hl => ?_)
                        refine lv_iinc (v := x12 + (nI 1)) (lv' := [(6, .int (x12 + (nI 1))), (4, .int v31), (0, .ref (a 0)), (1, .int p1), (2, .int v27), (3, .int v29), (5, .int x7)]) hx hb dX4_coolestPair_140 hl (k := 6) rfl rfl (by decide) rfl (fun ls hl => ?_)
                        refine lv_goto (tgt := 41) hx hb dX4_coolestPair_143 (by decide) ?_
                        exact ih v27 v29 v31 (x12 + (nI 1)) _ _ ls hf hG (lv_sub hl [2, 3, 4, 5, 1, 6, 0] rfl)
                      refine lv_if_eq (tgt := 136) hx hb dX4_coolestPair_128 (by decide) (fun c30 => ?_) (fun c30 => ?_)
                      · refine lv_iload hx hb dX4_coolestPair_136 (lv_at hl 4 rfl) ?_
                        have qv31 := (ev31.trans (if_pos c30))
                        subst qv31
                        exact hJ ls (lv_sub hl [1, 2, 3, 0, 5, 6] rfl)
                      · refine lv_iload hx hb dX4_coolestPair_131 (lv_at hl 7 rfl) ?_
                        refine lv_goto (tgt := 138) hx hb dX4_coolestPair_133 (by decide) ?_
                        have qv31 := (ev31.trans (if_neg c30))
                        subst qv31
                        exact hJ ls (lv_sub hl [1, 2, 3, 0, 5, 6] rfl)
                    refine lv_if_eq (tgt := 124) hx hb dX4_coolestPair_116 (by decide) (fun c28 => ?_) (fun c28 => ?_)
                    · refine lv_iload_n hx hb dX4_coolestPair_124 rfl (lv_at hl 3 rfl) ?_
                      have qv29 := (ev29.trans (if_pos c28))
                      subst qv29
                      exact hJ ls (lv_sub hl [1, 2, 0, 4, 5, 6, 7, 8] rfl)
                    · refine lv_iload hx hb dX4_coolestPair_119 (lv_at hl 6 rfl) ?_
                      refine lv_goto (tgt := 125) hx hb dX4_coolestPair_121 (by decide) ?_
                      have qv29 := (ev29.trans (if_neg c28))
                      subst qv29
                      exact hJ ls (lv_sub hl [1, 2, 0, 4, 5, 6, 7, 8] rfl)
                  refine lv_if_eq (tgt := 112) hx hb dX4_coolestPair_104 (by decide) (fun c26 => ?_) (fun c26 => ?_)
                  · refine lv_iload_n hx hb dX4_coolestPair_112 rfl (lv_at hl 3 rfl) ?_
                    have qv27 := (ev27.trans (if_pos c26))
                    subst qv27
                    exact hJ ls (lv_sub hl [1, 2, 4, 5, 6, 7, 8, 0] rfl)
                  · refine lv_iload hx hb dX4_coolestPair_107 (lv_at hl 6 rfl) ?_
                    refine lv_goto (tgt := 113) hx hb dX4_coolestPair_109 (by decide) ?_
                    have qv27 := (ev27.trans (if_neg c26))
                    subst qv27
                    exact hJ ls (lv_sub hl [1, 2, 4, 5, 6, 7, 8, 0] rfl)
                refine lv_icmp_ne (tgt := 99) hx hb dX4_coolestPair_79 (by decide) (fun c22 => ?_) (fun c22 => ?_)
                · refine lv_iconst (v := nI 0) hx hb dX4_coolestPair_99 rfl ?_
                  have qv25 := (ev25.trans (if_neg c22))
                  subst qv25
                  exact hJ ls (lv_sub hl [1, 2, 3, 4, 5, 6, 7, 0] rfl)
                · refine lv_iload_n hx hb dX4_coolestPair_82 rfl (lv_at hl 3 rfl) ?_
                  refine lv_bipush (v := -6) hx hb dX4_coolestPair_83 rfl ?_
                  refine lv_icmp_eq (tgt := 95) hx hb dX4_coolestPair_85 (by decide) (fun c23 => ?_) (fun c23 => ?_)
                  · refine lv_iconst (v := nI 1) hx hb dX4_coolestPair_95 rfl ?_
                    refine lv_goto (tgt := 100) hx hb dX4_coolestPair_96 (by decide) ?_
                    have qv25 := ((ev25.trans (if_pos c22)).trans (if_pos c23))
                    subst qv25
                    exact hJ ls (lv_sub hl [1, 2, 3, 4, 5, 6, 7, 0] rfl)
                  · refine lv_iload hx hb dX4_coolestPair_88 (lv_at hl 0 rfl) ?_
                    refine lv_iload hx hb dX4_coolestPair_90 (lv_at hl 5 rfl) ?_
                    refine lv_icmp_ge (tgt := 99) hx hb dX4_coolestPair_92 (by decide) (fun c24 => ?_) (fun c24 => ?_)
                    · refine lv_iconst (v := nI 0) hx hb dX4_coolestPair_99 rfl ?_
                      have qv25 := (((ev25.trans (if_pos c22)).trans (if_neg c23)).trans (if_pos c24))
                      subst qv25
                      exact hJ ls (lv_sub hl [1, 2, 3, 4, 5, 6, 7, 0] rfl)
                    · refine lv_iconst (v := nI 1) hx hb dX4_coolestPair_95 rfl ?_
                      refine lv_goto (tgt := 100) hx hb dX4_coolestPair_96 (by decide) ?_
                      have qv25 := (((ev25.trans (if_pos c22)).trans (if_neg c23)).trans (if_neg c24))
                      subst qv25
                      exact hJ ls (lv_sub hl [1, 2, 3, 4, 5, 6, 7, 0] rfl)
          exact hL41 Fu x4 x5 x6 (x7 + (nI 1)) _ _ ls hf hG (lv_sub hl [1, 2, 3, 4, 5, 6, 0] rfl)
    exact hL24 Fu (-6) (-6) (nI 0) (nI 0) _ _ ls hf hG (lv_sub hl [4, 5, 3, 2, 1, 0] rfl)
  · have hf := it_e c3 hf
    refine lv_bipush (v := -2) hx hb dX4_coolestPair_9 rfl ?_
    have hf := so_e hf
    have e0 : (-2) = ro := hf
    exact hret _ _ _ _ _ e0 hG dX4_coolestPair_11
set_option maxHeartbeats 1000000 in
set_option maxRecDepth 100000 in
theorem c_X4_put (l : Launch) (D : va_G) (y : Nat → ClassId) (a : Nat → Nat) (sz : Nat) (Fu : Nat) (q_s : Ar) (q_aside : Ar) (q_before : Ar) (q_known : Int32) (q_slots : Ar) (q_isSaved : Ar) (q_pad : Ar) (q_length : Int32) (q_letters : Ar) (q_heats : Ar) (q_reactions : Int32) (q_newSplits : Int32) (q_storiesThen : Int32) (q_heatThen : Int32) (q_place : Int32) (q_isWrong : Int32) (q_toldLetter : Ar) (q_toldHeat : Ar) (q_toldStory : Ar) (q_toldWords : Int32) (q_toldStories : Int32) (p1 : Int64) (ro : Int32) (q_pad_o : Ar) (q_length_o : Int32) (hf : f_X4_put Fu q_pad q_length p1 = some (ro, q_pad_o, q_length_o)) : MI l yX4_put wsX4_put 1 22 [.ref (a 0), .long p1] D y (w_X4 y a q_s q_aside q_before q_known q_slots q_isSaved q_pad q_length q_letters q_heats q_reactions q_newSplits q_storiesThen q_heatThen q_place q_isWrong q_toldLetter q_toldHeat q_toldStory q_toldWords q_toldStories) sz ro (w_X4 y a q_s q_aside q_before q_known q_slots q_isSaved q_pad_o q_length_o q_letters q_heats q_reactions q_newSplits q_storiesThen q_heatThen q_place q_isWrong q_toldLetter q_toldHeat q_toldStory q_toldWords q_toldStories) := by
  refine M_i (cc := cX4_put) (maxL := 8) (own := RX4) (by decide) rfl rfl (Nat.le_of_ble_eq_true rfl) ?_
  intro p e s m args below meth c A Q F hK hA H locs hG hret ls hl
  have hx := F.1
  have hb := F.2.1
  have hl : lv_has ls 8 [(0, .ref (a 0)), (1, .long p1)] := hl
  have k0 := F.2.2.2.2 (.constantLong RX4 143 (255)) (List.mem_of_getElem? (i := 1) rfl)
  have k1 := F.2.2.2.2 (.fieldLink RX4 119 "HeatedStoriesModel" "length" "I") (List.mem_of_getElem? (i := 2) rfl)
  have k2 : ∀ w ∈ wsX40, w ∈ wsX4_put := (fun w h => List.mem_cons_of_mem _ (List.mem_append_right _ (h)))
  have k3 := F.2.2.2.2 (.fieldLink RX4 26 "HeatedStoriesModel" "pad" "[I") (List.mem_of_getElem? (i := 3) rfl)
  unfold f_X4_put at hf
  refine lv_iconst (v := nI 0) hx hb dX4_put_0 rfl ?_
  refine lv_istore_n (lv' := [(3, .int (nI 0)), (0, .ref (a 0)), (1, .long p1)]) hx hb dX4_put_1 rfl hl (by decide) rfl (fun ls hl => ?_)
  refine lv_iconst (v := nI 0) hx hb dX4_put_2 rfl ?_
  refine lv_istore (lv' := [(4, .int (nI 0)), (3, .int (nI 0)), (0, .ref (a 0)), (1, .long p1)]) hx hb dX4_put_3 hl (by decide) rfl (fun ls hl => ?_)
  refine lv_iconst (v := nI 0) hx hb dX4_put_5 rfl ?_
  refine lv_istore (lv' := [(5, .int (nI 0)), (4, .int (nI 0)), (3, .int (nI 0)), (0, .ref (a 0)), (1, .long p1)]) hx hb dX4_put_6 hl (by decide) rfl (fun ls hl => ?_)
  obtain ⟨k_8, ek_8, hf⟩ := jn_e hf
  have hk_8 : ∀ (v18 : Int32) (v19 : Int32) (H : Heap) (locs : List Loc) (ls : Array Slot), k_8 v18 v19 = some (ro, q_pad_o, q_length_o) → GG D A s.heap (w_X4 y a q_s q_aside q_before q_known q_slots q_isSaved q_pad q_length q_letters q_heats q_reactions q_newSplits q_storiesThen q_heatThen q_place q_isWrong q_toldLetter q_toldHeat q_toldStory q_toldWords q_toldStories) H locs → lv_has ls 8 [(0, .ref (a 0)), (1, .long p1), (3, .int v18), (4, .int v19)] → W p l e (RM 1 22) s m args below meth c H locs 0 0 Q (F0 m 101 ls []) := by
    intro v18 v19 H locs ls hf hG hl
    rw [ek_8] at hf
    refine lv_iload hx hb dX4_put_101 (lv_at hl 3 rfl) ?_
    refine lv_if_eq (tgt := 109) hx hb dX4_put_103 (by decide) (fun c20 => ?_) (fun c20 => ?_)
    · have hf := it_e c20 hf
      refine lv_aload_n hx hb dX4_put_109 rfl (lv_at hl 0 rfl) ?_
      refine w_get4 F hK hG k2 0 rfl 7 (by decide) k1 rfl dX4_put_110 ?_
      refine lv_iload_n hx hb dX4_put_113 rfl (lv_at hl 2 rfl) ?_
      refine lv_iadd hx hb dX4_put_114 ?_
      refine lv_bipush (v := nI 60) hx hb dX4_put_115 rfl ?_
      refine lv_icmp_le (tgt := 123) hx hb dX4_put_117 (by decide) (fun c21 => ?_) (fun c21 => ?_)
      · have hf := it_e c21 hf
        refine lv_iconst (v := nI 0) hx hb dX4_put_123 rfl ?_
        refine lv_istore (lv' := [(5, .int (nI 0)), (0, .ref (a 0)), (1, .long p1), (3, .int v18), (4, .int v19)]) hx hb dX4_put_124 hl (by decide) rfl (fun ls hl => ?_)
        obtain ⟨k_126, ek_126, hf⟩ := jn_e hf
        have hk_126 : ∀ (q_pad_27 : Ar) (H : Heap) (locs : List Loc) (ls : Array Slot), k_126 q_pad_27 = some (ro, q_pad_o, q_length_o) → GG D A s.heap (w_X4 y a q_s q_aside q_before q_known q_slots q_isSaved q_pad_27 q_length q_letters q_heats q_reactions q_newSplits q_storiesThen q_heatThen q_place q_isWrong q_toldLetter q_toldHeat q_toldStory q_toldWords q_toldStories) H locs → lv_has ls 8 [(0, .ref (a 0)), (3, .int v18)] → W p l e (RM 1 22) s m args below meth c H locs 0 0 Q (F0 m 166 ls []) := by
          intro q_pad_27 H locs ls hf hG hl
          rw [ek_126] at hf
          refine lv_aload_n hx hb dX4_put_166 rfl (lv_at hl 0 rfl) ?_
          refine lv_dup hx hb dX4_put_167 rfl ?_
          refine w_get4 F hK hG k2 0 rfl 7 (by decide) k1 rfl dX4_put_168 ?_
          refine lv_iload_n hx hb dX4_put_171 rfl (lv_at hl 1 rfl) ?_
          refine lv_iadd hx hb dX4_put_172 ?_
          refine w_put4 F hK hG k2 0 rfl 7 (by decide) k1 rfl rfl rfl (Nat.le_of_ble_eq_true rfl) (w_X4 y a q_s q_aside q_before q_known q_slots q_isSaved q_pad_27 (q_length + v18) q_letters q_heats q_reactions q_newSplits q_storiesThen q_heatThen q_place q_isWrong q_toldLetter q_toldHeat q_toldStory q_toldWords q_toldStories) rfl dX4_put_173 (fun H locs hG => ?_)
          refine lv_aload_n hx hb dX4_put_176 rfl (lv_at hl 0 rfl) ?_
          refine w_get4 F hK hG k2 0 rfl 7 (by decide) k1 rfl dX4_put_177 ?_
          have hf := so_e hf
          have e0 : (q_length + v18) = ro := congrArg (fun z => z.1) hf
          have e1 : q_pad_27 = q_pad_o := congrArg (fun z => z.2.1) hf
          have e2 : (q_length + v18) = q_length_o := congrArg (fun z => z.2.2) hf
          exact hret _ _ _ _ _ e0 (by rw [← e1, ← e2]; exact hG) dX4_put_180
        have hL126 : ∀ (fu : Nat) (x22 : Int32) (q_pad_23 : Ar) (H : Heap) (locs : List Loc) (ls : Array Slot), f_X4_put_L126 Fu k_126 q_length p1 v18 fu x22 q_pad_23 = some (ro, q_pad_o, q_length_o) → GG D A s.heap (w_X4 y a q_s q_aside q_before q_known q_slots q_isSaved q_pad_23 q_length q_letters q_heats q_reactions q_newSplits q_storiesThen q_heatThen q_place q_isWrong q_toldLetter q_toldHeat q_toldStory q_toldWords q_toldStories) H locs → lv_has ls 8 [(0, .ref (a 0)), (1, .long p1), (3, .int v18), (5, .int x22)] → W p l e (RM 1 22) s m args below meth c H locs 0 0 Q (F0 m 126 ls []) := by
          intro fu
          induction fu with
          | zero => intro x22 q_pad_23 H locs ls hf hG hl; exact no_e hf
          | succ fu ih =>
            intro x22 q_pad_23 H locs ls hf hG hl
            rw [f_X4_put_L126_s] at hf
            refine lv_iload hx hb dX4_put_126 (lv_at hl 3 rfl) ?_
            refine lv_iload_n hx hb dX4_put_128 rfl (lv_at hl 2 rfl) ?_
            refine lv_icmp_ge (tgt := 166) hx hb dX4_put_129 (by decide) (fun c24 => ?_) (fun c24 => ?_)
            · have hf := it_e c24 hf
              exact hk_126 q_pad_23 _ _ ls hf hG (lv_sub hl [0, 2] rfl)
            · have hf := if_e c24 hf
              refine lv_aload_n hx hb dX4_put_132 rfl (lv_at hl 0 rfl) ?_
              refine w_get4 F hK hG k2 0 rfl 6 (by decide) k3 rfl dX4_put_133 ?_
              refine lv_aload_n hx hb dX4_put_136 rfl (lv_at hl 0 rfl) ?_
              refine w_get4 F hK hG k2 0 rfl 7 (by decide) k1 rfl dX4_put_137 ?_
              refine lv_iload_n hx hb dX4_put_140 rfl (lv_at hl 2 rfl) ?_
              refine lv_iadd hx hb dX4_put_141 ?_
              refine lv_iconst (v := nI 1) hx hb dX4_put_142 rfl ?_
              refine lv_isub hx hb dX4_put_143 ?_
              refine lv_iload hx hb dX4_put_144 (lv_at hl 3 rfl) ?_
              refine lv_isub hx hb dX4_put_146 ?_
              refine lv_lload_n hx hb dX4_put_147 rfl (lv_at hl 1 rfl) ?_
              refine lv_bipush (v := nI 8) hx hb dX4_put_148 rfl ?_
              refine lv_iload hx hb dX4_put_150 (lv_at hl 3 rfl) ?_
              refine lv_imul hx hb dX4_put_152 ?_
              refine lv_lushr (v := (lushr p1 ((nI 8) * x22))) hx hb dX4_put_153 rfl ?_
              refine lv_ldc2 (v := lN 255) hx hb F.2.2.2.1 (show (Cond.constantLong RX4 143 (lN 255)).before args s = true from k0) dX4_put_154 ?_
              refine lv_land hx hb dX4_put_157 ?_
              refine lv_l2i (v := (((lushr p1 ((nI 8) * x22)) &&& (lN 255))).toInt32) hx hb dX4_put_158 rfl ?_
              obtain ⟨g25, hf⟩ := gd_e hf
              refine w_iast F hK hG 6 rfl g25 (w_X4 y a q_s q_aside q_before q_known q_slots q_isSaved (upd q_pad_23 (((q_length + v18) - (nI 1)) - x22).toNatClampNeg ((((lushr p1 ((nI 8) * x22)) &&& (lN 255))).toInt32)) q_length q_letters q_heats q_reactions q_newSplits q_storiesThen q_heatThen q_place q_isWrong q_toldLetter q_toldHeat q_toldStory q_toldWords q_toldStories) rfl dX4_put_159 (fun H locs hG => ?_)
              obtain ⟨q_pad_26, eq_pad_26, hf⟩ := nm_o hf
              rw [← eq_pad_26] at hG
              refine lv_iinc (v := x22 + (nI 1)) (lv' := [(5, .int (x22 + (nI 1))), (0, .ref (a 0)), (1, .long p1), (3, .int v18)]) hx hb dX4_put_160 hl (k := 3) rfl rfl (by decide) rfl (fun ls hl => ?_)
              refine lv_goto (tgt := 126) hx hb dX4_put_163 (by decide) ?_
              exact ih (x22 + (nI 1)) q_pad_26 _ _ ls hf hG (lv_sub hl [1, 2, 3, 0] rfl)
        exact hL126 Fu (nI 0) q_pad _ _ ls hf hG (lv_sub hl [1, 2, 3, 0] rfl)
      · have hf := if_e c21 hf
        refine lv_bipush (v := -4) hx hb dX4_put_120 rfl ?_
        have hf := so_e hf
        have e0 : (-4) = ro := congrArg (fun z => z.1) hf
        have e1 : q_pad = q_pad_o := congrArg (fun z => z.2.1) hf
        have e2 : q_length = q_length_o := congrArg (fun z => z.2.2) hf
        exact hret _ _ _ _ _ e0 (by rw [← e1, ← e2]; exact hG) dX4_put_122
    · have hf := if_e c20 hf
      refine lv_bipush (v := -2) hx hb dX4_put_106 rfl ?_
      have hf := so_e hf
      have e0 : (-2) = ro := congrArg (fun z => z.1) hf
      have e1 : q_pad = q_pad_o := congrArg (fun z => z.2.1) hf
      have e2 : q_length = q_length_o := congrArg (fun z => z.2.2) hf
      exact hret _ _ _ _ _ e0 (by rw [← e1, ← e2]; exact hG) dX4_put_108
  have hL8 : ∀ (fu : Nat) (x1 : Int32) (x2 : Int32) (x3 : Int32) (H : Heap) (locs : List Loc) (ls : Array Slot), f_X4_put_L8 Fu k_8 p1 fu x1 x2 x3 = some (ro, q_pad_o, q_length_o) → GG D A s.heap (w_X4 y a q_s q_aside q_before q_known q_slots q_isSaved q_pad q_length q_letters q_heats q_reactions q_newSplits q_storiesThen q_heatThen q_place q_isWrong q_toldLetter q_toldHeat q_toldStory q_toldWords q_toldStories) H locs → lv_has ls 8 [(0, .ref (a 0)), (1, .long p1), (3, .int x1), (4, .int x2), (5, .int x3)] → W p l e (RM 1 22) s m args below meth c H locs 0 0 Q (F0 m 8 ls []) := by
    intro fu
    induction fu with
    | zero => intro x1 x2 x3 H locs ls hf hG hl; exact no_e hf
    | succ fu ih =>
      intro x1 x2 x3 H locs ls hf hG hl
      rw [f_X4_put_L8_s] at hf
      refine lv_iload hx hb dX4_put_8 (lv_at hl 4 rfl) ?_
      refine lv_bipush (v := nI 8) hx hb dX4_put_10 rfl ?_
      refine lv_icmp_ge (tgt := 101) hx hb dX4_put_12 (by decide) (fun c4 => ?_) (fun c4 => ?_)
      · have hf := it_e c4 hf
        exact hk_8 x1 x2 _ _ ls hf hG (lv_sub hl [0, 1, 2, 3] rfl)
      · have hf := if_e c4 hf
        refine lv_lload_n hx hb dX4_put_15 rfl (lv_at hl 1 rfl) ?_
        refine lv_bipush (v := nI 8) hx hb dX4_put_16 rfl ?_
        refine lv_iload hx hb dX4_put_18 (lv_at hl 4 rfl) ?_
        refine lv_imul hx hb dX4_put_20 ?_
        refine lv_lushr (v := (lushr p1 ((nI 8) * x3))) hx hb dX4_put_21 rfl ?_
        refine lv_ldc2 (v := lN 255) hx hb F.2.2.2.1 (show (Cond.constantLong RX4 143 (lN 255)).before args s = true from k0) dX4_put_22 ?_
        refine lv_land hx hb dX4_put_25 ?_
        refine lv_l2i (v := (((lushr p1 ((nI 8) * x3)) &&& (lN 255))).toInt32) hx hb dX4_put_26 rfl ?_
        obtain ⟨v5, ev5, hf⟩ := nm_o hf
        refine w_nm ev5 ?_
        refine lv_istore (lv' := [(6, .int v5), (0, .ref (a 0)), (1, .long p1), (3, .int x1), (4, .int x2), (5, .int x3)]) hx hb dX4_put_27 hl (by decide) rfl (fun ls hl => ?_)
        refine lv_iload hx hb dX4_put_29 (lv_at hl 5 rfl) ?_
        obtain ⟨v8, ev8, hf⟩ := nm_o hf
        have hJ : ∀ (ls : Array Slot), lv_has ls 8 [(0, .ref (a 0)), (1, .long p1), (3, .int x1), (4, .int x2), (5, .int x3), (6, .int v5)] → W p l e (RM 1 22) s m args below meth c H locs 0 0 Q (F0 m 51 ls [.int v8]) := by
          intro ls hl
          refine lv_istore (lv' := [(7, .int v8), (0, .ref (a 0)), (1, .long p1), (3, .int x1), (4, .int x2), (5, .int x3), (6, .int v5)]) hx hb dX4_put_51 hl (by decide) rfl (fun ls hl => ?_)
          refine lv_iload hx hb dX4_put_53 (lv_at hl 4 rfl) ?_
          obtain ⟨j15, ej15, hf⟩ := jn_e hf
          have hj15 : ∀ (v14 : Int32) (H : Heap) (locs : List Loc) (ls : Array Slot), j15 v14 = some (ro, q_pad_o, q_length_o) → GG D A s.heap (w_X4 y a q_s q_aside q_before q_known q_slots q_isSaved q_pad q_length q_letters q_heats q_reactions q_newSplits q_storiesThen q_heatThen q_place q_isWrong q_toldLetter q_toldHeat q_toldStory q_toldWords q_toldStories) H locs → lv_has ls 8 [(0, .ref (a 0)), (1, .long p1), (3, .int x1), (5, .int x3), (7, .int v8)] → W p l e (RM 1 22) s m args below meth c H locs 0 0 Q (F0 m 80 ls [.int v14]) := by
            intro v14 H locs ls hf hG hl
            rw [ej15] at hf
            refine lv_istore (lv' := [(4, .int v14), (0, .ref (a 0)), (1, .long p1), (3, .int x1), (5, .int x3), (7, .int v8)]) hx hb dX4_put_80 hl (by decide) rfl (fun ls hl => ?_)
            refine lv_iload_n hx hb dX4_put_82 rfl (lv_at hl 3 rfl) ?_
            refine lv_iload hx hb dX4_put_83 (lv_at hl 5 rfl) ?_
            obtain ⟨v17, ev17, hf⟩ := nm_o hf
            have hJ : ∀ (ls : Array Slot), lv_has ls 8 [(0, .ref (a 0)), (1, .long p1), (4, .int v14), (5, .int x3)] → W p l e (RM 1 22) s m args below meth c H locs 0 0 Q (F0 m 93 ls [.int v17, .int x1]) := by
              intro ls hl
              refine lv_iadd hx hb dX4_put_93 ?_
              refine lv_istore_n (lv' := [(3, .int (x1 + v17)), (0, .ref (a 0)), (1, .long p1), (4, .int v14), (5, .int x3)]) hx hb dX4_put_94 rfl hl (by decide) rfl (fun ls hl => ?_)
              refine lv_iinc (v := x3 + (nI 1)) (lv' := [(5, .int (x3 + (nI 1))), (3, .int (x1 + v17)), (0, .ref (a 0)), (1, .long p1), (4, .int v14)]) hx hb dX4_put_95 hl (k := 4) rfl rfl (by decide) rfl (fun ls hl => ?_)
              refine lv_goto (tgt := 8) hx hb dX4_put_98 (by decide) ?_
              exact ih (x1 + v17) v14 (x3 + (nI 1)) _ _ ls hf hG (lv_sub hl [2, 3, 1, 4, 0] rfl)
            refine lv_if_eq (tgt := 92) hx hb dX4_put_85 (by decide) (fun c16 => ?_) (fun c16 => ?_)
            · refine lv_iconst (v := nI 1) hx hb dX4_put_92 rfl ?_
              have qv17 := (ev17.trans (if_pos c16))
              subst qv17
              exact hJ ls (lv_sub hl [1, 2, 0, 4] rfl)
            · refine lv_iconst (v := nI 0) hx hb dX4_put_88 rfl ?_
              refine lv_goto (tgt := 93) hx hb dX4_put_89 (by decide) ?_
              have qv17 := (ev17.trans (if_neg c16))
              subst qv17
              exact hJ ls (lv_sub hl [1, 2, 0, 4] rfl)
          refine lv_if_ne (tgt := 75) hx hb dX4_put_55 (by decide) (fun c9 => ?_) (fun c9 => ?_)
          · have hf := if_e c9 hf
            refine lv_iconst (v := nI 1) hx hb dX4_put_75 rfl ?_
            refine lv_goto (tgt := 80) hx hb dX4_put_76 (by decide) ?_
            exact hj15 (nI 1) _ _ ls hf hG (lv_sub hl [1, 2, 3, 5, 0] rfl)
          · have hf := it_e c9 hf
            refine lv_iload hx hb dX4_put_58 (lv_at hl 0 rfl) ?_
            refine lv_if_ne (tgt := 79) hx hb dX4_put_60 (by decide) (fun c10 => ?_) (fun c10 => ?_)
            · have hf := if_e c10 hf
              refine lv_iconst (v := nI 0) hx hb dX4_put_79 rfl ?_
              exact hj15 (nI 0) _ _ ls hf hG (lv_sub hl [1, 2, 3, 5, 0] rfl)
            · have hf := it_e c10 hf
              refine lv_iload hx hb dX4_put_63 (lv_at hl 6 rfl) ?_
              refine lv_bipush (v := nI 33) hx hb dX4_put_65 rfl ?_
              refine lv_bipush (v := nI 126) hx hb dX4_put_67 rfl ?_
              obtain ⟨r11, h12, hf⟩ := bd1_e hf
              refine k_Si F hK hA hG (c_X4_in l D y  H.size Fu  v5 (nI 33) (nI 126) r11 h12) (va_cwS 3 F.2.2.2.2 gX4_put_X4_in rfl rfl rfl (by decide +kernel) ⟨Nat.le_of_ble_eq_true rfl, Nat.le_of_ble_eq_true rfl⟩) rfl rfl hl.1 (Nat.le_of_ble_eq_true rfl) dX4_put_69 ⟨Nat.le_refl 0, Nat.le_refl 0⟩ (fun H locs hG => ?_)
              refine lv_if_ne (tgt := 79) hx hb dX4_put_72 (by decide) (fun c13 => ?_) (fun c13 => ?_)
              · have hf := if_e c13 hf
                refine lv_iconst (v := nI 0) hx hb dX4_put_79 rfl ?_
                exact hj15 (nI 0) _ _ ls hf hG (lv_sub hl [1, 2, 3, 5, 0] rfl)
              · have hf := it_e c13 hf
                refine lv_iconst (v := nI 1) hx hb dX4_put_75 rfl ?_
                refine lv_goto (tgt := 80) hx hb dX4_put_76 (by decide) ?_
                exact hj15 (nI 1) _ _ ls hf hG (lv_sub hl [1, 2, 3, 5, 0] rfl)
        refine lv_if_le (tgt := 50) hx hb dX4_put_31 (by decide) (fun c6 => ?_) (fun c6 => ?_)
        · refine lv_iconst (v := nI 0) hx hb dX4_put_50 rfl ?_
          have qv8 := (ev8.trans (if_pos c6))
          subst qv8
          exact hJ ls (lv_sub hl [1, 2, 3, 4, 5, 0] rfl)
        · refine lv_lload_n hx hb dX4_put_34 rfl (lv_at hl 2 rfl) ?_
          refine lv_bipush (v := nI 8) hx hb dX4_put_35 rfl ?_
          refine lv_iload hx hb dX4_put_37 (lv_at hl 5 rfl) ?_
          refine lv_imul hx hb dX4_put_39 ?_
          refine lv_lushr (v := (lushr p1 ((nI 8) * x3))) hx hb dX4_put_40 rfl ?_
          refine lv_lconst (v := lN 0) hx hb dX4_put_41 rfl ?_
          refine W.lcmp hx hb dX4_put_42 ?_
          refine lv_if_ne (tgt := 50) hx hb dX4_put_43 (by decide) (fun c7 => ?_) (fun c7 => ?_)
          · refine lv_iconst (v := nI 0) hx hb dX4_put_50 rfl ?_
            have qv8 := ((ev8.trans (if_neg c6)).trans (if_neg c7))
            subst qv8
            exact hJ ls (lv_sub hl [1, 2, 3, 4, 5, 0] rfl)
          · refine lv_iconst (v := nI 1) hx hb dX4_put_46 rfl ?_
            refine lv_goto (tgt := 51) hx hb dX4_put_47 (by decide) ?_
            have qv8 := ((ev8.trans (if_neg c6)).trans (if_pos c7))
            subst qv8
            exact hJ ls (lv_sub hl [1, 2, 3, 4, 5, 0] rfl)
  exact hL8 Fu (nI 0) (nI 0) (nI 0) _ _ ls hf hG (lv_sub hl [3, 4, 2, 1, 0] rfl)
set_option maxHeartbeats 1000000 in
set_option maxRecDepth 100000 in
theorem c_X4_wipe (l : Launch) (D : va_G) (y : Nat → ClassId) (a : Nat → Nat) (sz : Nat) (Fu : Nat) (q_s : Ar) (q_aside : Ar) (q_before : Ar) (q_known : Int32) (q_slots : Ar) (q_isSaved : Ar) (q_pad : Ar) (q_length : Int32) (q_letters : Ar) (q_heats : Ar) (q_reactions : Int32) (q_newSplits : Int32) (q_storiesThen : Int32) (q_heatThen : Int32) (q_place : Int32) (q_isWrong : Int32) (q_toldLetter : Ar) (q_toldHeat : Ar) (q_toldStory : Ar) (q_toldWords : Int32) (q_toldStories : Int32) (ro : Int32) (q_length_o : Int32) (hf : f_X4_wipe Fu q_length = some (ro, q_length_o)) : MI l yX4_wipe wsX4_wipe 0 0 [.ref (a 0)] D y (w_X4 y a q_s q_aside q_before q_known q_slots q_isSaved q_pad q_length q_letters q_heats q_reactions q_newSplits q_storiesThen q_heatThen q_place q_isWrong q_toldLetter q_toldHeat q_toldStory q_toldWords q_toldStories) sz ro (w_X4 y a q_s q_aside q_before q_known q_slots q_isSaved q_pad q_length_o q_letters q_heats q_reactions q_newSplits q_storiesThen q_heatThen q_place q_isWrong q_toldLetter q_toldHeat q_toldStory q_toldWords q_toldStories) := by
  refine M_i (cc := cX4_wipe) (maxL := 2) (own := RX4) (by decide) rfl rfl (Nat.le_of_ble_eq_true rfl) ?_
  intro p e s m args below meth c A Q F hK hA H locs hG hret ls hl
  have hx := F.1
  have hb := F.2.1
  have hl : lv_has ls 2 [(0, .ref (a 0))] := hl
  have k0 := F.2.2.2.2 (.fieldLink RX4 119 "HeatedStoriesModel" "length" "I") (List.mem_of_getElem? (i := 1) rfl)
  have k1 : ∀ w ∈ wsX40, w ∈ wsX4_wipe := (fun w h => List.mem_cons_of_mem _ (List.mem_append_right _ (h)))
  unfold f_X4_wipe at hf
  refine lv_aload_n hx hb dX4_wipe_0 rfl (lv_at hl 0 rfl) ?_
  refine w_get4 F hK hG k1 0 rfl 7 (by decide) k0 rfl dX4_wipe_1 ?_
  refine lv_istore_n (lv' := [(1, .int q_length), (0, .ref (a 0))]) hx hb dX4_wipe_4 rfl hl (by decide) rfl (fun ls hl => ?_)
  refine lv_aload_n hx hb dX4_wipe_5 rfl (lv_at hl 1 rfl) ?_
  refine lv_iconst (v := nI 0) hx hb dX4_wipe_6 rfl ?_
  refine w_put4 F hK hG k1 0 rfl 7 (by decide) k0 rfl rfl rfl (Nat.le_of_ble_eq_true rfl) (w_X4 y a q_s q_aside q_before q_known q_slots q_isSaved q_pad (nI 0) q_letters q_heats q_reactions q_newSplits q_storiesThen q_heatThen q_place q_isWrong q_toldLetter q_toldHeat q_toldStory q_toldWords q_toldStories) rfl dX4_wipe_7 (fun H locs hG => ?_)
  refine lv_iload_n hx hb dX4_wipe_10 rfl (lv_at hl 0 rfl) ?_
  have hf := so_e hf
  have e0 : q_length = ro := congrArg (fun z => z.1) hf
  have e1 : (nI 0) = q_length_o := congrArg (fun z => z.2) hf
  exact hret _ _ _ _ _ e0 (by rw [← e1]; exact hG) dX4_wipe_11
set_option maxHeartbeats 1000000 in
set_option maxRecDepth 100000 in
theorem c_X4_sign (l : Launch) (D : va_G) (y : Nat → ClassId) (a : Nat → Nat) (sz : Nat) (Fu : Nat) (q_s : Ar) (q_aside : Ar) (q_before : Ar) (q_known : Int32) (q_slots : Ar) (q_isSaved : Ar) (q_pad : Ar) (q_length : Int32) (q_letters : Ar) (q_heats : Ar) (q_reactions : Int32) (q_newSplits : Int32) (q_storiesThen : Int32) (q_heatThen : Int32) (q_place : Int32) (q_isWrong : Int32) (q_toldLetter : Ar) (q_toldHeat : Ar) (q_toldStory : Ar) (q_toldWords : Int32) (q_toldStories : Int32) (p1 : Int32) (p2 : Int32) (ro : Int32) (q_place_o : Int32) (q_isWrong_o : Int32) (hf : f_X4_sign Fu q_pad q_length q_place q_isWrong p1 p2 = some (ro, q_place_o, q_isWrong_o)) : MI l yX4_sign wsX4_sign 1 22 [.ref (a 0), .int p1, .int p2] D y (w_X4 y a q_s q_aside q_before q_known q_slots q_isSaved q_pad q_length q_letters q_heats q_reactions q_newSplits q_storiesThen q_heatThen q_place q_isWrong q_toldLetter q_toldHeat q_toldStory q_toldWords q_toldStories) sz ro (w_X4 y a q_s q_aside q_before q_known q_slots q_isSaved q_pad q_length q_letters q_heats q_reactions q_newSplits q_storiesThen q_heatThen q_place_o q_isWrong_o q_toldLetter q_toldHeat q_toldStory q_toldWords q_toldStories) := by
  refine M_i (cc := cX4_sign) (maxL := 4) (own := RX4) (by decide) rfl rfl (Nat.le_of_ble_eq_true rfl) ?_
  intro p e s m args below meth c A Q F hK hA H locs hG hret ls hl
  have hx := F.1
  have hb := F.2.1
  have hl : lv_has ls 4 [(0, .ref (a 0)), (1, .int p1), (2, .int p2)] := hl
  have k0 := F.2.2.2.2 (.fieldLink RX4 145 "HeatedStoriesModel" "place" "I") (List.mem_of_getElem? (i := 1) rfl)
  have k1 : ∀ w ∈ wsX40, w ∈ wsX4_sign := (fun w h => List.mem_cons_of_mem _ (List.mem_append_right _ (h)))
  have k2 := F.2.2.2.2 (.fieldLink RX4 119 "HeatedStoriesModel" "length" "I") (List.mem_of_getElem? (i := 2) rfl)
  have k3 := F.2.2.2.2 (.fieldLink RX4 26 "HeatedStoriesModel" "pad" "[I") (List.mem_of_getElem? (i := 3) rfl)
  have k4 := F.2.2.2.2 (.fieldLink RX4 148 "HeatedStoriesModel" "isWrong" "Z") (List.mem_of_getElem? (i := 4) rfl)
  unfold f_X4_sign at hf
  refine lv_aload_n hx hb dX4_sign_0 rfl (lv_at hl 0 rfl) ?_
  refine w_get4 F hK hG k1 0 rfl 14 (by decide) k0 rfl dX4_sign_1 ?_
  refine lv_aload_n hx hb dX4_sign_4 rfl (lv_at hl 0 rfl) ?_
  refine w_get4 F hK hG k1 0 rfl 7 (by decide) k2 rfl dX4_sign_5 ?_
  obtain ⟨j4, ej4, hf⟩ := jn_e hf
  have hj4 : ∀ (v3 : Int32) (H : Heap) (locs : List Loc) (ls : Array Slot), j4 v3 = some (ro, q_place_o, q_isWrong_o) → GG D A s.heap (w_X4 y a q_s q_aside q_before q_known q_slots q_isSaved q_pad q_length q_letters q_heats q_reactions q_newSplits q_storiesThen q_heatThen q_place q_isWrong q_toldLetter q_toldHeat q_toldStory q_toldWords q_toldStories) H locs → lv_has ls 4 [(0, .ref (a 0)), (1, .int p1), (2, .int p2)] → W p l e (RM 1 22) s m args below meth c H locs 0 0 Q (F0 m 24 ls [.int v3]) := by
    intro v3 H locs ls hf hG hl
    rw [ej4] at hf
    refine lv_istore_n (lv' := [(3, .int v3), (0, .ref (a 0)), (1, .int p1), (2, .int p2)]) hx hb dX4_sign_24 rfl hl (by decide) rfl (fun ls hl => ?_)
    refine lv_aload_n hx hb dX4_sign_25 rfl (lv_at hl 1 rfl) ?_
    refine lv_aload_n hx hb dX4_sign_26 rfl (lv_at hl 1 rfl) ?_
    refine w_get4 F hK hG k1 0 rfl 15 (by decide) k4 rfl dX4_sign_27 ?_
    obtain ⟨j10, ej10, hf⟩ := jn_e hf
    have hj10 : ∀ (v9 : Int32) (H : Heap) (locs : List Loc) (ls : Array Slot), j10 v9 = some (ro, q_place_o, q_isWrong_o) → GG D A s.heap (w_X4 y a q_s q_aside q_before q_known q_slots q_isSaved q_pad q_length q_letters q_heats q_reactions q_newSplits q_storiesThen q_heatThen q_place q_isWrong q_toldLetter q_toldHeat q_toldStory q_toldWords q_toldStories) H locs → lv_has ls 4 [(0, .ref (a 0)), (3, .int v3)] → W p l e (RM 1 22) s m args below meth c H locs 0 0 Q (F0 m 47 ls [.int v9, .ref (a 0)]) := by
      intro v9 H locs ls hf hG hl
      rw [ej10] at hf
      obtain ⟨g11, hf⟩ := gd_e hf
      refine w_put4 F hK hG k1 0 rfl 15 (by decide) k4 rfl (bz_n g11) (bz_f g11) (Nat.le_of_ble_eq_true rfl) (w_X4 y a q_s q_aside q_before q_known q_slots q_isSaved q_pad q_length q_letters q_heats q_reactions q_newSplits q_storiesThen q_heatThen q_place v9 q_toldLetter q_toldHeat q_toldStory q_toldWords q_toldStories) rfl dX4_sign_47 (fun H locs hG => ?_)
      refine lv_aload_n hx hb dX4_sign_50 rfl (lv_at hl 0 rfl) ?_
      refine lv_dup hx hb dX4_sign_51 rfl ?_
      refine w_get4 F hK hG k1 0 rfl 14 (by decide) k0 rfl dX4_sign_52 ?_
      refine lv_aload_n hx hb dX4_sign_55 rfl (lv_at hl 0 rfl) ?_
      refine w_get4 F hK hG k1 0 rfl 15 (by decide) k4 rfl dX4_sign_56 ?_
      obtain ⟨v13, ev13, hf⟩ := nm_o hf
      have hJ : ∀ (ls : Array Slot), lv_has ls 4 [(3, .int v3)] → W p l e (RM 1 22) s m args below meth c H locs 0 0 Q (F0 m 67 ls [.int v13, .int q_place, .ref (a 0)]) := by
        intro ls hl
        refine lv_iadd hx hb dX4_sign_67 ?_
        refine w_put4 F hK hG k1 0 rfl 14 (by decide) k0 rfl rfl rfl (Nat.le_of_ble_eq_true rfl) (w_X4 y a q_s q_aside q_before q_known q_slots q_isSaved q_pad q_length q_letters q_heats q_reactions q_newSplits q_storiesThen q_heatThen (q_place + v13) v9 q_toldLetter q_toldHeat q_toldStory q_toldWords q_toldStories) rfl dX4_sign_68 (fun H locs hG => ?_)
        refine lv_iload_n hx hb dX4_sign_71 rfl (lv_at hl 0 rfl) ?_
        have hf := so_e hf
        have e0 : v3 = ro := congrArg (fun z => z.1) hf
        have e1 : (q_place + v13) = q_place_o := congrArg (fun z => z.2.1) hf
        have e2 : v9 = q_isWrong_o := congrArg (fun z => z.2.2) hf
        exact hret _ _ _ _ _ e0 (by rw [← e1, ← e2]; exact hG) dX4_sign_72
      refine lv_if_eq (tgt := 66) hx hb dX4_sign_59 (by decide) (fun c12 => ?_) (fun c12 => ?_)
      · refine lv_iconst (v := nI 1) hx hb dX4_sign_66 rfl ?_
        have qv13 := (ev13.trans (if_pos c12))
        subst qv13
        exact hJ ls (lv_sub hl [1] rfl)
      · refine lv_iconst (v := nI 0) hx hb dX4_sign_62 rfl ?_
        refine lv_goto (tgt := 67) hx hb dX4_sign_63 (by decide) ?_
        have qv13 := (ev13.trans (if_neg c12))
        subst qv13
        exact hJ ls (lv_sub hl [1] rfl)
    refine lv_if_ne (tgt := 42) hx hb dX4_sign_30 (by decide) (fun c5 => ?_) (fun c5 => ?_)
    · have hf := if_e c5 hf
      refine lv_iconst (v := nI 1) hx hb dX4_sign_42 rfl ?_
      refine lv_goto (tgt := 47) hx hb dX4_sign_43 (by decide) ?_
      exact hj10 (nI 1) _ _ ls hf hG (lv_sub hl [1, 0] rfl)
    · have hf := it_e c5 hf
      refine lv_iload_n hx hb dX4_sign_33 rfl (lv_at hl 0 rfl) ?_
      refine lv_iload_n hx hb dX4_sign_34 rfl (lv_at hl 2 rfl) ?_
      refine lv_iload_n hx hb dX4_sign_35 rfl (lv_at hl 3 rfl) ?_
      obtain ⟨r6, h7, hf⟩ := bd1_e hf
      refine k_Si F hK hA hG (c_X4_in l D y  H.size Fu  v3 p1 p2 r6 h7) (va_cwS 3 F.2.2.2.2 gX4_sign_X4_in rfl rfl rfl (by decide +kernel) ⟨Nat.le_of_ble_eq_true rfl, Nat.le_of_ble_eq_true rfl⟩) rfl rfl hl.1 (Nat.le_of_ble_eq_true rfl) dX4_sign_36 ⟨Nat.le_refl 0, Nat.le_refl 0⟩ (fun H locs hG => ?_)
      refine lv_if_ne (tgt := 46) hx hb dX4_sign_39 (by decide) (fun c8 => ?_) (fun c8 => ?_)
      · have hf := if_e c8 hf
        refine lv_iconst (v := nI 0) hx hb dX4_sign_46 rfl ?_
        exact hj10 (nI 0) _ _ ls hf hG (lv_sub hl [1, 0] rfl)
      · have hf := it_e c8 hf
        refine lv_iconst (v := nI 1) hx hb dX4_sign_42 rfl ?_
        refine lv_goto (tgt := 47) hx hb dX4_sign_43 (by decide) ?_
        exact hj10 (nI 1) _ _ ls hf hG (lv_sub hl [1, 0] rfl)
  refine lv_icmp_ge (tgt := 23) hx hb dX4_sign_8 (by decide) (fun c1 => ?_) (fun c1 => ?_)
  · have hf := it_e c1 hf
    refine lv_iconst (v := nI 0) hx hb dX4_sign_23 rfl ?_
    exact hj4 (nI 0) _ _ ls hf hG (lv_sub hl [0, 1, 2] rfl)
  · have hf := if_e c1 hf
    refine lv_aload_n hx hb dX4_sign_11 rfl (lv_at hl 0 rfl) ?_
    refine w_get4 F hK hG k1 0 rfl 6 (by decide) k3 rfl dX4_sign_12 ?_
    refine lv_aload_n hx hb dX4_sign_15 rfl (lv_at hl 0 rfl) ?_
    refine w_get4 F hK hG k1 0 rfl 14 (by decide) k0 rfl dX4_sign_16 ?_
    obtain ⟨g2, hf⟩ := gd_e hf
    refine w_iald F hK hG 6 rfl g2 dX4_sign_19 ?_
    refine lv_goto (tgt := 24) hx hb dX4_sign_20 (by decide) ?_
    exact hj4 (q_pad (q_place).toNatClampNeg) _ _ ls hf hG (lv_sub hl [0, 1, 2] rfl)
set_option maxHeartbeats 1000000 in
set_option maxRecDepth 100000 in
theorem c_X4_isNext (l : Launch) (D : va_G) (y : Nat → ClassId) (a : Nat → Nat) (sz : Nat) (Fu : Nat) (q_s : Ar) (q_aside : Ar) (q_before : Ar) (q_known : Int32) (q_slots : Ar) (q_isSaved : Ar) (q_pad : Ar) (q_length : Int32) (q_letters : Ar) (q_heats : Ar) (q_reactions : Int32) (q_newSplits : Int32) (q_storiesThen : Int32) (q_heatThen : Int32) (q_place : Int32) (q_isWrong : Int32) (q_toldLetter : Ar) (q_toldHeat : Ar) (q_toldStory : Ar) (q_toldWords : Int32) (q_toldStories : Int32) (p1 : Int32) (p2 : Int32) (ro : Int32) (hf : f_X4_isNext Fu q_pad q_length q_place q_isWrong p1 p2 = some (ro)) : MI l yX4_isNext wsX4_isNext 1 22 [.ref (a 0), .int p1, .int p2] D y (w_X4 y a q_s q_aside q_before q_known q_slots q_isSaved q_pad q_length q_letters q_heats q_reactions q_newSplits q_storiesThen q_heatThen q_place q_isWrong q_toldLetter q_toldHeat q_toldStory q_toldWords q_toldStories) sz ro (w_X4 y a q_s q_aside q_before q_known q_slots q_isSaved q_pad q_length q_letters q_heats q_reactions q_newSplits q_storiesThen q_heatThen q_place q_isWrong q_toldLetter q_toldHeat q_toldStory q_toldWords q_toldStories) := by
  refine M_z (cc := cX4_isNext) (maxL := 3) (own := RX4) (by decide) rfl rfl (Nat.le_of_ble_eq_true rfl) ?_
  intro p e s m args below meth c A Q F hK hA H locs hG hret ls hl
  have hx := F.1
  have hb := F.2.1
  have hl : lv_has ls 3 [(0, .ref (a 0)), (1, .int p1), (2, .int p2)] := hl
  have k0 := F.2.2.2.2 (.fieldLink RX4 148 "HeatedStoriesModel" "isWrong" "Z") (List.mem_of_getElem? (i := 1) rfl)
  have k1 : ∀ w ∈ wsX40, w ∈ wsX4_isNext := (fun w h => List.mem_cons_of_mem _ (List.mem_append_right _ (h)))
  have k2 := F.2.2.2.2 (.fieldLink RX4 145 "HeatedStoriesModel" "place" "I") (List.mem_of_getElem? (i := 2) rfl)
  have k3 := F.2.2.2.2 (.fieldLink RX4 119 "HeatedStoriesModel" "length" "I") (List.mem_of_getElem? (i := 3) rfl)
  have k4 := F.2.2.2.2 (.fieldLink RX4 26 "HeatedStoriesModel" "pad" "[I") (List.mem_of_getElem? (i := 4) rfl)
  unfold f_X4_isNext at hf
  refine lv_aload_n hx hb dX4_isNext_0 rfl (lv_at hl 0 rfl) ?_
  refine w_get4 F hK hG k1 0 rfl 15 (by decide) k0 rfl dX4_isNext_1 ?_
  obtain ⟨j8, ej8, hf⟩ := jn_e hf
  have hj8 : ∀ (v7 : Int32) (H : Heap) (locs : List Loc) (ls : Array Slot), j8 v7 = some (ro) → GG D A s.heap (w_X4 y a q_s q_aside q_before q_known q_slots q_isSaved q_pad q_length q_letters q_heats q_reactions q_newSplits q_storiesThen q_heatThen q_place q_isWrong q_toldLetter q_toldHeat q_toldStory q_toldWords q_toldStories) H locs → lv_has ls 3 [] → W p l e (RM 1 22) s m args below meth c H locs 0 0 Q (F0 m 40 ls [.int v7]) := by
    intro v7 H locs ls hf hG hl
    rw [ej8] at hf
    obtain ⟨gz, hf⟩ := gd_e hf
    have hf := so_e hf
    have e0 : v7 = ro := hf
    exact hret _ _ _ _ _ (bz_n gz) e0 hG dX4_isNext_40
  refine lv_if_ne (tgt := 39) hx hb dX4_isNext_4 (by decide) (fun c1 => ?_) (fun c1 => ?_)
  · have hf := if_e c1 hf
    refine lv_iconst (v := nI 0) hx hb dX4_isNext_39 rfl ?_
    exact hj8 (nI 0) _ _ ls hf hG (lv_sub hl [] rfl)
  · have hf := it_e c1 hf
    refine lv_aload_n hx hb dX4_isNext_7 rfl (lv_at hl 0 rfl) ?_
    refine w_get4 F hK hG k1 0 rfl 14 (by decide) k2 rfl dX4_isNext_8 ?_
    refine lv_aload_n hx hb dX4_isNext_11 rfl (lv_at hl 0 rfl) ?_
    refine w_get4 F hK hG k1 0 rfl 7 (by decide) k3 rfl dX4_isNext_12 ?_
    refine lv_icmp_ge (tgt := 39) hx hb dX4_isNext_15 (by decide) (fun c2 => ?_) (fun c2 => ?_)
    · have hf := it_e c2 hf
      refine lv_iconst (v := nI 0) hx hb dX4_isNext_39 rfl ?_
      exact hj8 (nI 0) _ _ ls hf hG (lv_sub hl [] rfl)
    · have hf := if_e c2 hf
      refine lv_aload_n hx hb dX4_isNext_18 rfl (lv_at hl 0 rfl) ?_
      refine w_get4 F hK hG k1 0 rfl 6 (by decide) k4 rfl dX4_isNext_19 ?_
      refine lv_aload_n hx hb dX4_isNext_22 rfl (lv_at hl 0 rfl) ?_
      refine w_get4 F hK hG k1 0 rfl 14 (by decide) k2 rfl dX4_isNext_23 ?_
      obtain ⟨g3, hf⟩ := gd_e hf
      refine w_iald F hK hG 6 rfl g3 dX4_isNext_26 ?_
      refine lv_iload_n hx hb dX4_isNext_27 rfl (lv_at hl 1 rfl) ?_
      refine lv_iload_n hx hb dX4_isNext_28 rfl (lv_at hl 2 rfl) ?_
      obtain ⟨r4, h5, hf⟩ := bd1_e hf
      refine k_Si F hK hA hG (c_X4_in l D y  H.size Fu  (q_pad (q_place).toNatClampNeg) p1 p2 r4 h5) (va_cwS 3 F.2.2.2.2 gX4_isNext_X4_in rfl rfl rfl (by decide +kernel) ⟨Nat.le_of_ble_eq_true rfl, Nat.le_of_ble_eq_true rfl⟩) rfl rfl hl.1 (Nat.le_of_ble_eq_true rfl) dX4_isNext_29 ⟨Nat.le_refl 0, Nat.le_refl 0⟩ (fun H locs hG => ?_)
      refine lv_if_eq (tgt := 39) hx hb dX4_isNext_32 (by decide) (fun c6 => ?_) (fun c6 => ?_)
      · have hf := it_e c6 hf
        refine lv_iconst (v := nI 0) hx hb dX4_isNext_39 rfl ?_
        exact hj8 (nI 0) _ _ ls hf hG (lv_sub hl [] rfl)
      · have hf := if_e c6 hf
        refine lv_iconst (v := nI 1) hx hb dX4_isNext_35 rfl ?_
        refine lv_goto (tgt := 40) hx hb dX4_isNext_36 (by decide) ?_
        exact hj8 (nI 1) _ _ ls hf hG (lv_sub hl [] rfl)
set_option maxHeartbeats 1000000 in
set_option maxRecDepth 100000 in
theorem c_X4_readPad (l : Launch) (D : va_G) (y : Nat → ClassId) (a : Nat → Nat) (sz : Nat) (Fu : Nat) (q_s : Ar) (q_aside : Ar) (q_before : Ar) (q_known : Int32) (q_slots : Ar) (q_isSaved : Ar) (q_pad : Ar) (q_length : Int32) (q_letters : Ar) (q_heats : Ar) (q_reactions : Int32) (q_newSplits : Int32) (q_storiesThen : Int32) (q_heatThen : Int32) (q_place : Int32) (q_isWrong : Int32) (q_toldLetter : Ar) (q_toldHeat : Ar) (q_toldStory : Ar) (q_toldWords : Int32) (q_toldStories : Int32) (q_place_o : Int32) (q_isWrong_o : Int32) (q_toldLetter_o : Ar) (q_toldHeat_o : Ar) (q_toldStory_o : Ar) (q_toldWords_o : Int32) (q_toldStories_o : Int32) (hf : f_X4_readPad Fu q_pad q_length q_place q_isWrong q_toldLetter q_toldHeat q_toldStory q_toldWords q_toldStories = some (q_place_o, q_isWrong_o, q_toldLetter_o, q_toldHeat_o, q_toldStory_o, q_toldWords_o, q_toldStories_o)) : MV l yX4_readPad wsX4_readPad 2 45 [.ref (a 0)] D y (w_X4 y a q_s q_aside q_before q_known q_slots q_isSaved q_pad q_length q_letters q_heats q_reactions q_newSplits q_storiesThen q_heatThen q_place q_isWrong q_toldLetter q_toldHeat q_toldStory q_toldWords q_toldStories) sz (w_X4 y a q_s q_aside q_before q_known q_slots q_isSaved q_pad q_length q_letters q_heats q_reactions q_newSplits q_storiesThen q_heatThen q_place_o q_isWrong_o q_toldLetter_o q_toldHeat_o q_toldStory_o q_toldWords_o q_toldStories_o) := by
  refine M_v (cc := cX4_readPad) (maxL := 5) (own := RX4) (by decide) rfl rfl (Nat.le_of_ble_eq_true rfl) ?_
  intro p e s m args below meth c A Q F hK hA H locs hG hret ls hl
  have hx := F.1
  have hb := F.2.1
  have hl : lv_has ls 5 [(0, .ref (a 0))] := hl
  have k0 := F.2.2.2.2 (.fieldLink RX4 145 "HeatedStoriesModel" "place" "I") (List.mem_of_getElem? (i := 1) rfl)
  have k1 : ∀ w ∈ wsX40, w ∈ wsX4_readPad := (fun w h => List.mem_cons_of_mem _ (List.mem_append_right _ (h)))
  have k2 := F.2.2.2.2 (.fieldLink RX4 148 "HeatedStoriesModel" "isWrong" "Z") (List.mem_of_getElem? (i := 2) rfl)
  have k3 := F.2.2.2.2 (.fieldLink RX4 152 "HeatedStoriesModel" "toldWords" "I") (List.mem_of_getElem? (i := 3) rfl)
  have k4 := F.2.2.2.2 (.fieldLink RX4 155 "HeatedStoriesModel" "toldStories" "I") (List.mem_of_getElem? (i := 4) rfl)
  have k5 := F.2.2.2.2 (.fieldLink RX4 35 "HeatedStoriesModel" "toldLetter" "[I") (List.mem_of_getElem? (i := 5) rfl)
  have k6 := F.2.2.2.2 (.fieldLink RX4 38 "HeatedStoriesModel" "toldHeat" "[I") (List.mem_of_getElem? (i := 6) rfl)
  have k7 := F.2.2.2.2 (.fieldLink RX4 41 "HeatedStoriesModel" "toldStory" "[I") (List.mem_of_getElem? (i := 7) rfl)
  have k8 := F.2.2.2.2 (.fieldLink RX4 119 "HeatedStoriesModel" "length" "I") (List.mem_of_getElem? (i := 8) rfl)
  unfold f_X4_readPad at hf
  refine lv_aload_n hx hb dX4_readPad_0 rfl (lv_at hl 0 rfl) ?_
  refine lv_iconst (v := nI 0) hx hb dX4_readPad_1 rfl ?_
  refine w_put4 F hK hG k1 0 rfl 14 (by decide) k0 rfl rfl rfl (Nat.le_of_ble_eq_true rfl) (w_X4 y a q_s q_aside q_before q_known q_slots q_isSaved q_pad q_length q_letters q_heats q_reactions q_newSplits q_storiesThen q_heatThen (nI 0) q_isWrong q_toldLetter q_toldHeat q_toldStory q_toldWords q_toldStories) rfl dX4_readPad_2 (fun H locs hG => ?_)
  refine lv_aload_n hx hb dX4_readPad_5 rfl (lv_at hl 0 rfl) ?_
  refine lv_iconst (v := nI 0) hx hb dX4_readPad_6 rfl ?_
  refine w_put4 F hK hG k1 0 rfl 15 (by decide) k2 rfl rfl rfl (Nat.le_of_ble_eq_true rfl) (w_X4 y a q_s q_aside q_before q_known q_slots q_isSaved q_pad q_length q_letters q_heats q_reactions q_newSplits q_storiesThen q_heatThen (nI 0) (nI 0) q_toldLetter q_toldHeat q_toldStory q_toldWords q_toldStories) rfl dX4_readPad_7 (fun H locs hG => ?_)
  refine lv_aload_n hx hb dX4_readPad_10 rfl (lv_at hl 0 rfl) ?_
  refine lv_iconst (v := nI 0) hx hb dX4_readPad_11 rfl ?_
  refine w_put4 F hK hG k1 0 rfl 19 (by decide) k3 rfl rfl rfl (Nat.le_of_ble_eq_true rfl) (w_X4 y a q_s q_aside q_before q_known q_slots q_isSaved q_pad q_length q_letters q_heats q_reactions q_newSplits q_storiesThen q_heatThen (nI 0) (nI 0) q_toldLetter q_toldHeat q_toldStory (nI 0) q_toldStories) rfl dX4_readPad_12 (fun H locs hG => ?_)
  refine lv_aload_n hx hb dX4_readPad_15 rfl (lv_at hl 0 rfl) ?_
  refine lv_iconst (v := nI 1) hx hb dX4_readPad_16 rfl ?_
  refine w_put4 F hK hG k1 0 rfl 20 (by decide) k4 rfl rfl rfl (Nat.le_of_ble_eq_true rfl) (w_X4 y a q_s q_aside q_before q_known q_slots q_isSaved q_pad q_length q_letters q_heats q_reactions q_newSplits q_storiesThen q_heatThen (nI 0) (nI 0) q_toldLetter q_toldHeat q_toldStory (nI 0) (nI 1)) rfl dX4_readPad_17 (fun H locs hG => ?_)
  refine lv_iconst (v := nI 1) hx hb dX4_readPad_20 rfl ?_
  refine lv_istore_n (lv' := [(1, .int (nI 1)), (0, .ref (a 0))]) hx hb dX4_readPad_21 rfl hl (by decide) rfl (fun ls hl => ?_)
  obtain ⟨k_22, ek_22, hf⟩ := jn_e hf
  have hk_22 : ∀ (q_place_57 : Int32) (q_isWrong_58 : Int32) (q_toldLetter_59 : Ar) (q_toldHeat_60 : Ar) (q_toldStory_61 : Ar) (q_toldWords_62 : Int32) (q_toldStories_63 : Int32) (H : Heap) (locs : List Loc) (ls : Array Slot), k_22 q_place_57 q_isWrong_58 q_toldLetter_59 q_toldHeat_60 q_toldStory_61 q_toldWords_62 q_toldStories_63 = some (q_place_o, q_isWrong_o, q_toldLetter_o, q_toldHeat_o, q_toldStory_o, q_toldWords_o, q_toldStories_o) → GG D A s.heap (w_X4 y a q_s q_aside q_before q_known q_slots q_isSaved q_pad q_length q_letters q_heats q_reactions q_newSplits q_storiesThen q_heatThen q_place_57 q_isWrong_58 q_toldLetter_59 q_toldHeat_60 q_toldStory_61 q_toldWords_62 q_toldStories_63) H locs → lv_has ls 5 [] → W p l e (RM 2 45) s m args below meth c H locs 0 0 Q (F0 m 209 ls []) := by
    intro q_place_57 q_isWrong_58 q_toldLetter_59 q_toldHeat_60 q_toldStory_61 q_toldWords_62 q_toldStories_63 H locs ls hf hG hl
    rw [ek_22] at hf
    have hf := so_e hf
    have e0 : q_place_57 = q_place_o := congrArg (fun z => z.1) hf
    have e1 : q_isWrong_58 = q_isWrong_o := congrArg (fun z => z.2.1) hf
    have e2 : q_toldLetter_59 = q_toldLetter_o := congrArg (fun z => z.2.2.1) hf
    have e3 : q_toldHeat_60 = q_toldHeat_o := congrArg (fun z => z.2.2.2.1) hf
    have e4 : q_toldStory_61 = q_toldStory_o := congrArg (fun z => z.2.2.2.2.1) hf
    have e5 : q_toldWords_62 = q_toldWords_o := congrArg (fun z => z.2.2.2.2.2.1) hf
    have e6 : q_toldStories_63 = q_toldStories_o := congrArg (fun z => z.2.2.2.2.2.2) hf
    exact hret _ _ _ _ (by rw [← e0, ← e1, ← e2, ← e3, ← e4, ← e5, ← e6]; exact hG) dX4_readPad_209
  have hL22 : ∀ (fu : Nat) (x1 : Int32) (q_place_2 : Int32) (q_isWrong_3 : Int32) (q_toldLetter_4 : Ar) (q_toldHeat_5 : Ar) (q_toldStory_6 : Ar) (q_toldWords_7 : Int32) (q_toldStories_8 : Int32) (H : Heap) (locs : List Loc) (ls : Array Slot), f_X4_readPad_L22 Fu k_22 q_pad q_length fu x1 q_place_2 q_isWrong_3 q_toldLetter_4 q_toldHeat_5 q_toldStory_6 q_toldWords_7 q_toldStories_8 = some (q_place_o, q_isWrong_o, q_toldLetter_o, q_toldHeat_o, q_toldStory_o, q_toldWords_o, q_toldStories_o) → GG D A s.heap (w_X4 y a q_s q_aside q_before q_known q_slots q_isSaved q_pad q_length q_letters q_heats q_reactions q_newSplits q_storiesThen q_heatThen q_place_2 q_isWrong_3 q_toldLetter_4 q_toldHeat_5 q_toldStory_6 q_toldWords_7 q_toldStories_8) H locs → lv_has ls 5 [(0, .ref (a 0)), (1, .int x1)] → W p l e (RM 2 45) s m args below meth c H locs 0 0 Q (F0 m 22 ls []) := by
    intro fu
    induction fu with
    | zero => intro x1 q_place_2 q_isWrong_3 q_toldLetter_4 q_toldHeat_5 q_toldStory_6 q_toldWords_7 q_toldStories_8 H locs ls hf hG hl; exact no_e hf
    | succ fu ih =>
      intro x1 q_place_2 q_isWrong_3 q_toldLetter_4 q_toldHeat_5 q_toldStory_6 q_toldWords_7 q_toldStories_8 H locs ls hf hG hl
      rw [f_X4_readPad_L22_s] at hf
      refine lv_iload_n hx hb dX4_readPad_22 rfl (lv_at hl 1 rfl) ?_
      refine lv_if_eq (tgt := 209) hx hb dX4_readPad_23 (by decide) (fun c9 => ?_) (fun c9 => ?_)
      · have hf := it_e c9 hf
        exact hk_22 q_place_2 q_isWrong_3 q_toldLetter_4 q_toldHeat_5 q_toldStory_6 q_toldWords_7 q_toldStories_8 _ _ ls hf hG (lv_sub hl [] rfl)
      · have hf := if_e c9 hf
        refine lv_aload_n hx hb dX4_readPad_26 rfl (lv_at hl 0 rfl) ?_
        refine lv_bipush (v := nI 97) hx hb dX4_readPad_27 rfl ?_
        refine lv_bipush (v := nI 122) hx hb dX4_readPad_29 rfl ?_
        obtain ⟨r10, q_place_11, q_isWrong_12, h13, hf⟩ := bd3_e hf
        refine k_Wi F hK hA hG (c_X4_sign l D y a H.size Fu q_s q_aside q_before q_known q_slots q_isSaved q_pad q_length q_letters q_heats q_reactions q_newSplits q_storiesThen q_heatThen q_place_2 q_isWrong_3 q_toldLetter_4 q_toldHeat_5 q_toldStory_6 q_toldWords_7 q_toldStories_8 (nI 97) (nI 122) r10 q_place_11 q_isWrong_12 h13) (cwV 2 F.2.2.2.2 gX4_readPad_X4_sign rfl rfl rfl (by decide +kernel) ⟨Nat.le_of_ble_eq_true rfl, Nat.le_of_ble_eq_true rfl⟩) 0 rfl rfl rfl rfl rfl hl.1 (Nat.le_of_ble_eq_true rfl) dX4_readPad_31 ⟨Nat.le_refl 0, Nat.le_refl 0⟩ (fun H locs hG => ?_)
        refine lv_istore_n (lv' := [(2, .int r10), (0, .ref (a 0)), (1, .int x1)]) hx hb dX4_readPad_34 rfl hl (by decide) rfl (fun ls hl => ?_)
        refine lv_aload_n hx hb dX4_readPad_35 rfl (lv_at hl 1 rfl) ?_
        refine lv_bipush (v := nI 49) hx hb dX4_readPad_36 rfl ?_
        refine lv_bipush (v := nI 57) hx hb dX4_readPad_38 rfl ?_
        obtain ⟨r14, h15, hf⟩ := bd1_e hf
        refine k_Wi F hK hA hG (c_X4_isNext l D y a H.size Fu q_s q_aside q_before q_known q_slots q_isSaved q_pad q_length q_letters q_heats q_reactions q_newSplits q_storiesThen q_heatThen q_place_11 q_isWrong_12 q_toldLetter_4 q_toldHeat_5 q_toldStory_6 q_toldWords_7 q_toldStories_8 (nI 49) (nI 57) r14 h15) (cwV 2 F.2.2.2.2 gX4_readPad_X4_isNext rfl rfl rfl (by decide +kernel) ⟨Nat.le_of_ble_eq_true rfl, Nat.le_of_ble_eq_true rfl⟩) 0 rfl rfl rfl rfl rfl hl.1 (Nat.le_of_ble_eq_true rfl) dX4_readPad_40 ⟨Nat.le_refl 0, Nat.le_refl 0⟩ (fun H locs hG => ?_)
        obtain ⟨j24, ej24, hf⟩ := jn_e hf
        have hj24 : ∀ (v21 : Int32) (q_place_22 : Int32) (q_isWrong_23 : Int32) (H : Heap) (locs : List Loc) (ls : Array Slot), j24 v21 q_place_22 q_isWrong_23 = some (q_place_o, q_isWrong_o, q_toldLetter_o, q_toldHeat_o, q_toldStory_o, q_toldWords_o, q_toldStories_o) → GG D A s.heap (w_X4 y a q_s q_aside q_before q_known q_slots q_isSaved q_pad q_length q_letters q_heats q_reactions q_newSplits q_storiesThen q_heatThen q_place_22 q_isWrong_23 q_toldLetter_4 q_toldHeat_5 q_toldStory_6 q_toldWords_7 q_toldStories_8) H locs → lv_has ls 5 [(0, .ref (a 0)), (2, .int r10)] → W p l e (RM 2 45) s m args below meth c H locs 0 0 Q (F0 m 61 ls [.int v21]) := by
          intro v21 q_place_22 q_isWrong_23 H locs ls hf hG hl
          rw [ej24] at hf
          refine lv_istore_n (lv' := [(3, .int v21), (0, .ref (a 0)), (2, .int r10)]) hx hb dX4_readPad_61 rfl hl (by decide) rfl (fun ls hl => ?_)
          refine lv_iload_n hx hb dX4_readPad_62 rfl (lv_at hl 0 rfl) ?_
          obtain ⟨j36, ej36, hf⟩ := jn_e hf
          have hj36 : ∀ (v33 : Int32) (q_place_34 : Int32) (q_isWrong_35 : Int32) (H : Heap) (locs : List Loc) (ls : Array Slot), j36 v33 q_place_34 q_isWrong_35 = some (q_place_o, q_isWrong_o, q_toldLetter_o, q_toldHeat_o, q_toldStory_o, q_toldWords_o, q_toldStories_o) → GG D A s.heap (w_X4 y a q_s q_aside q_before q_known q_slots q_isSaved q_pad q_length q_letters q_heats q_reactions q_newSplits q_storiesThen q_heatThen q_place_34 q_isWrong_35 q_toldLetter_4 q_toldHeat_5 q_toldStory_6 q_toldWords_7 q_toldStories_8) H locs → lv_has ls 5 [(0, .ref (a 0)), (2, .int r10)] → W p l e (RM 2 45) s m args below meth c H locs 0 0 Q (F0 m 97 ls [.int v33]) := by
            intro v33 q_place_34 q_isWrong_35 H locs ls hf hG hl
            rw [ej36] at hf
            refine lv_istore_n (lv' := [(3, .int v33), (0, .ref (a 0)), (2, .int r10)]) hx hb dX4_readPad_97 rfl hl (by decide) rfl (fun ls hl => ?_)
            refine lv_aload_n hx hb dX4_readPad_98 rfl (lv_at hl 1 rfl) ?_
            refine w_get4 F hK hG k1 0 rfl 16 (by decide) k5 rfl dX4_readPad_99 ?_
            refine lv_aload_n hx hb dX4_readPad_102 rfl (lv_at hl 1 rfl) ?_
            refine w_get4 F hK hG k1 0 rfl 19 (by decide) k3 rfl dX4_readPad_103 ?_
            refine lv_iload_n hx hb dX4_readPad_106 rfl (lv_at hl 2 rfl) ?_
            refine lv_bipush (v := nI 97) hx hb dX4_readPad_107 rfl ?_
            refine lv_isub hx hb dX4_readPad_109 ?_
            obtain ⟨g37, hf⟩ := gd_e hf
            refine w_iast F hK hG 9 rfl g37 (w_X4 y a q_s q_aside q_before q_known q_slots q_isSaved q_pad q_length q_letters q_heats q_reactions q_newSplits q_storiesThen q_heatThen q_place_34 q_isWrong_35 (upd q_toldLetter_4 (q_toldWords_7).toNatClampNeg (r10 - (nI 97))) q_toldHeat_5 q_toldStory_6 q_toldWords_7 q_toldStories_8) rfl dX4_readPad_110 (fun H locs hG => ?_)
            obtain ⟨q_toldLetter_38, eq_toldLetter_38, hf⟩ := nm_o hf
            rw [← eq_toldLetter_38] at hG
            refine lv_aload_n hx hb dX4_readPad_111 rfl (lv_at hl 1 rfl) ?_
            refine w_get4 F hK hG k1 0 rfl 17 (by decide) k6 rfl dX4_readPad_112 ?_
            refine lv_aload_n hx hb dX4_readPad_115 rfl (lv_at hl 1 rfl) ?_
            refine w_get4 F hK hG k1 0 rfl 19 (by decide) k3 rfl dX4_readPad_116 ?_
            refine lv_iload_n hx hb dX4_readPad_119 rfl (lv_at hl 0 rfl) ?_
            obtain ⟨g39, hf⟩ := gd_e hf
            refine w_iast F hK hG 10 rfl g39 (w_X4 y a q_s q_aside q_before q_known q_slots q_isSaved q_pad q_length q_letters q_heats q_reactions q_newSplits q_storiesThen q_heatThen q_place_34 q_isWrong_35 q_toldLetter_38 (upd q_toldHeat_5 (q_toldWords_7).toNatClampNeg v33) q_toldStory_6 q_toldWords_7 q_toldStories_8) rfl dX4_readPad_120 (fun H locs hG => ?_)
            refine lv_aload_n hx hb dX4_readPad_121 rfl (lv_at hl 1 rfl) ?_
            refine w_get4 F hK hG k1 0 rfl 18 (by decide) k7 rfl dX4_readPad_122 ?_
            refine lv_aload_n hx hb dX4_readPad_125 rfl (lv_at hl 1 rfl) ?_
            refine w_get4 F hK hG k1 0 rfl 19 (by decide) k3 rfl dX4_readPad_126 ?_
            refine lv_aload_n hx hb dX4_readPad_129 rfl (lv_at hl 1 rfl) ?_
            refine w_get4 F hK hG k1 0 rfl 20 (by decide) k4 rfl dX4_readPad_130 ?_
            refine lv_iconst (v := nI 1) hx hb dX4_readPad_133 rfl ?_
            refine lv_isub hx hb dX4_readPad_134 ?_
            obtain ⟨g40, hf⟩ := gd_e hf
            refine w_iast F hK hG 11 rfl g40 (w_X4 y a q_s q_aside q_before q_known q_slots q_isSaved q_pad q_length q_letters q_heats q_reactions q_newSplits q_storiesThen q_heatThen q_place_34 q_isWrong_35 q_toldLetter_38 (upd q_toldHeat_5 (q_toldWords_7).toNatClampNeg v33) (upd q_toldStory_6 (q_toldWords_7).toNatClampNeg (q_toldStories_8 - (nI 1))) q_toldWords_7 q_toldStories_8) rfl dX4_readPad_135 (fun H locs hG => ?_)
            obtain ⟨q_toldStory_41, eq_toldStory_41, hf⟩ := nm_o hf
            rw [← eq_toldStory_41] at hG
            refine lv_aload_n hx hb dX4_readPad_136 rfl (lv_at hl 1 rfl) ?_
            refine lv_dup hx hb dX4_readPad_137 rfl ?_
            refine w_get4 F hK hG k1 0 rfl 19 (by decide) k3 rfl dX4_readPad_138 ?_
            refine lv_iconst (v := nI 1) hx hb dX4_readPad_141 rfl ?_
            refine lv_iadd hx hb dX4_readPad_142 ?_
            refine w_put4 F hK hG k1 0 rfl 19 (by decide) k3 rfl rfl rfl (Nat.le_of_ble_eq_true rfl) (w_X4 y a q_s q_aside q_before q_known q_slots q_isSaved q_pad q_length q_letters q_heats q_reactions q_newSplits q_storiesThen q_heatThen q_place_34 q_isWrong_35 q_toldLetter_38 (upd q_toldHeat_5 (q_toldWords_7).toNatClampNeg v33) q_toldStory_41 (q_toldWords_7 + (nI 1)) q_toldStories_8) rfl dX4_readPad_143 (fun H locs hG => ?_)
            refine lv_aload_n hx hb dX4_readPad_146 rfl (lv_at hl 1 rfl) ?_
            refine lv_bipush (v := nI 47) hx hb dX4_readPad_147 rfl ?_
            refine lv_bipush (v := nI 47) hx hb dX4_readPad_149 rfl ?_
            obtain ⟨r42, h43, hf⟩ := bd1_e hf
            refine k_Wi F hK hA hG (c_X4_isNext l D y a H.size Fu q_s q_aside q_before q_known q_slots q_isSaved q_pad q_length q_letters q_heats q_reactions q_newSplits q_storiesThen q_heatThen q_place_34 q_isWrong_35 q_toldLetter_38 (upd q_toldHeat_5 (q_toldWords_7).toNatClampNeg v33) q_toldStory_41 (q_toldWords_7 + (nI 1)) q_toldStories_8 (nI 47) (nI 47) r42 h43) (cwV 2 F.2.2.2.2 gX4_readPad_X4_isNext rfl rfl rfl (by decide +kernel) ⟨Nat.le_of_ble_eq_true rfl, Nat.le_of_ble_eq_true rfl⟩) 0 rfl rfl rfl rfl rfl hl.1 (Nat.le_of_ble_eq_true rfl) dX4_readPad_151 ⟨Nat.le_refl 0, Nat.le_refl 0⟩ (fun H locs hG => ?_)
            obtain ⟨j56, ej56, hf⟩ := jn_e hf
            have hj56 : ∀ (v52 : Int32) (q_place_53 : Int32) (q_isWrong_54 : Int32) (q_toldStories_55 : Int32) (H : Heap) (locs : List Loc) (ls : Array Slot), j56 v52 q_place_53 q_isWrong_54 q_toldStories_55 = some (q_place_o, q_isWrong_o, q_toldLetter_o, q_toldHeat_o, q_toldStory_o, q_toldWords_o, q_toldStories_o) → GG D A s.heap (w_X4 y a q_s q_aside q_before q_known q_slots q_isSaved q_pad q_length q_letters q_heats q_reactions q_newSplits q_storiesThen q_heatThen q_place_53 q_isWrong_54 q_toldLetter_38 (upd q_toldHeat_5 (q_toldWords_7).toNatClampNeg v33) q_toldStory_41 (q_toldWords_7 + (nI 1)) q_toldStories_55) H locs → lv_has ls 5 [(0, .ref (a 0)), (1, .int v52)] → W p l e (RM 2 45) s m args below meth c H locs 0 0 Q (F0 m 206 ls []) := by
              intro v52 q_place_53 q_isWrong_54 q_toldStories_55 H locs ls hf hG hl
              rw [ej56] at hf
              refine lv_goto (tgt := 22) hx hb dX4_readPad_206 (by decide) ?_
              exact ih v52 q_place_53 q_isWrong_54 q_toldLetter_38 (upd q_toldHeat_5 (q_toldWords_7).toNatClampNeg v33) q_toldStory_41 (q_toldWords_7 + (nI 1)) q_toldStories_55 _ _ ls hf hG (lv_sub hl [0, 1] rfl)
            refine lv_if_eq (tgt := 182) hx hb dX4_readPad_154 (by decide) (fun c44 => ?_) (fun c44 => ?_)
            · have hf := it_e c44 hf
              refine lv_aload_n hx hb dX4_readPad_182 rfl (lv_at hl 1 rfl) ?_
              refine w_get4 F hK hG k1 0 rfl 15 (by decide) k2 rfl dX4_readPad_183 ?_
              obtain ⟨v47, ev47, hf⟩ := nm_o hf
              have hJ : ∀ (ls : Array Slot), lv_has ls 5 [(0, .ref (a 0))] → W p l e (RM 2 45) s m args below meth c H locs 0 0 Q (F0 m 205 ls [.int v47]) := by
                intro ls hl
                refine lv_istore_n (lv' := [(1, .int v47), (0, .ref (a 0))]) hx hb dX4_readPad_205 rfl hl (by decide) rfl (fun ls hl => ?_)
                exact hj56 v47 q_place_34 q_isWrong_35 q_toldStories_8 _ _ ls hf hG (lv_sub hl [1, 0] rfl)
              refine lv_if_ne (tgt := 204) hx hb dX4_readPad_186 (by decide) (fun c45 => ?_) (fun c45 => ?_)
              · refine lv_iconst (v := nI 0) hx hb dX4_readPad_204 rfl ?_
                have qv47 := (ev47.trans (if_neg c45))
                subst qv47
                exact hJ ls (lv_sub hl [1] rfl)
              · refine lv_aload_n hx hb dX4_readPad_189 rfl (lv_at hl 1 rfl) ?_
                refine w_get4 F hK hG k1 0 rfl 14 (by decide) k0 rfl dX4_readPad_190 ?_
                refine lv_aload_n hx hb dX4_readPad_193 rfl (lv_at hl 1 rfl) ?_
                refine w_get4 F hK hG k1 0 rfl 7 (by decide) k8 rfl dX4_readPad_194 ?_
                refine lv_icmp_ge (tgt := 204) hx hb dX4_readPad_197 (by decide) (fun c46 => ?_) (fun c46 => ?_)
                · refine lv_iconst (v := nI 0) hx hb dX4_readPad_204 rfl ?_
                  have qv47 := ((ev47.trans (if_pos c45)).trans (if_pos c46))
                  subst qv47
                  exact hJ ls (lv_sub hl [1] rfl)
                · refine lv_iconst (v := nI 1) hx hb dX4_readPad_200 rfl ?_
                  refine lv_goto (tgt := 205) hx hb dX4_readPad_201 (by decide) ?_
                  have qv47 := ((ev47.trans (if_pos c45)).trans (if_neg c46))
                  subst qv47
                  exact hJ ls (lv_sub hl [1] rfl)
            · have hf := if_e c44 hf
              refine lv_aload_n hx hb dX4_readPad_157 rfl (lv_at hl 1 rfl) ?_
              refine lv_bipush (v := nI 47) hx hb dX4_readPad_158 rfl ?_
              refine lv_bipush (v := nI 47) hx hb dX4_readPad_160 rfl ?_
              obtain ⟨r48, q_place_49, q_isWrong_50, h51, hf⟩ := bd3_e hf
              refine k_Wi F hK hA hG (c_X4_sign l D y a H.size Fu q_s q_aside q_before q_known q_slots q_isSaved q_pad q_length q_letters q_heats q_reactions q_newSplits q_storiesThen q_heatThen q_place_34 q_isWrong_35 q_toldLetter_38 (upd q_toldHeat_5 (q_toldWords_7).toNatClampNeg v33) q_toldStory_41 (q_toldWords_7 + (nI 1)) q_toldStories_8 (nI 47) (nI 47) r48 q_place_49 q_isWrong_50 h51) (cwV 2 F.2.2.2.2 gX4_readPad_X4_sign rfl rfl rfl (by decide +kernel) ⟨Nat.le_of_ble_eq_true rfl, Nat.le_of_ble_eq_true rfl⟩) 0 rfl rfl rfl rfl rfl hl.1 (Nat.le_of_ble_eq_true rfl) dX4_readPad_162 ⟨Nat.le_refl 0, Nat.le_refl 0⟩ (fun H locs hG => ?_)
              refine lv_istore (lv' := [(4, .int r48), (3, .int v33), (0, .ref (a 0)), (2, .int r10)]) hx hb dX4_readPad_165 hl (by decide) rfl (fun ls hl => ?_)
              refine lv_aload_n hx hb dX4_readPad_167 rfl (lv_at hl 2 rfl) ?_
              refine lv_dup hx hb dX4_readPad_168 rfl ?_
              refine w_get4 F hK hG k1 0 rfl 20 (by decide) k4 rfl dX4_readPad_169 ?_
              refine lv_iconst (v := nI 1) hx hb dX4_readPad_172 rfl ?_
              refine lv_iadd hx hb dX4_readPad_173 ?_
              refine w_put4 F hK hG k1 0 rfl 20 (by decide) k4 rfl rfl rfl (Nat.le_of_ble_eq_true rfl) (w_X4 y a q_s q_aside q_before q_known q_slots q_isSaved q_pad q_length q_letters q_heats q_reactions q_newSplits q_storiesThen q_heatThen q_place_49 q_isWrong_50 q_toldLetter_38 (upd q_toldHeat_5 (q_toldWords_7).toNatClampNeg v33) q_toldStory_41 (q_toldWords_7 + (nI 1)) (q_toldStories_8 + (nI 1))) rfl dX4_readPad_174 (fun H locs hG => ?_)
              refine lv_iconst (v := nI 1) hx hb dX4_readPad_177 rfl ?_
              refine lv_istore_n (lv' := [(1, .int (nI 1)), (4, .int r48), (3, .int v33), (0, .ref (a 0)), (2, .int r10)]) hx hb dX4_readPad_178 rfl hl (by decide) rfl (fun ls hl => ?_)
              refine lv_goto (tgt := 206) hx hb dX4_readPad_179 (by decide) ?_
              exact hj56 (nI 1) q_place_49 q_isWrong_50 (q_toldStories_8 + (nI 1)) _ _ ls hf hG (lv_sub hl [3, 0] rfl)
          refine lv_if_le (tgt := 96) hx hb dX4_readPad_63 (by decide) (fun c25 => ?_) (fun c25 => ?_)
          · have hf := it_e c25 hf
            refine lv_iload_n hx hb dX4_readPad_96 rfl (lv_at hl 0 rfl) ?_
            exact hj36 v21 q_place_22 q_isWrong_23 _ _ ls hf hG (lv_sub hl [1, 2] rfl)
          · have hf := if_e c25 hf
            refine lv_aload_n hx hb dX4_readPad_66 rfl (lv_at hl 1 rfl) ?_
            refine lv_bipush (v := nI 48) hx hb dX4_readPad_67 rfl ?_
            refine lv_bipush (v := nI 57) hx hb dX4_readPad_69 rfl ?_
            obtain ⟨r26, h27, hf⟩ := bd1_e hf
            refine k_Wi F hK hA hG (c_X4_isNext l D y a H.size Fu q_s q_aside q_before q_known q_slots q_isSaved q_pad q_length q_letters q_heats q_reactions q_newSplits q_storiesThen q_heatThen q_place_22 q_isWrong_23 q_toldLetter_4 q_toldHeat_5 q_toldStory_6 q_toldWords_7 q_toldStories_8 (nI 48) (nI 57) r26 h27) (cwV 2 F.2.2.2.2 gX4_readPad_X4_isNext rfl rfl rfl (by decide +kernel) ⟨Nat.le_of_ble_eq_true rfl, Nat.le_of_ble_eq_true rfl⟩) 0 rfl rfl rfl rfl rfl hl.1 (Nat.le_of_ble_eq_true rfl) dX4_readPad_71 ⟨Nat.le_refl 0, Nat.le_refl 0⟩ (fun H locs hG => ?_)
            refine lv_if_eq (tgt := 96) hx hb dX4_readPad_74 (by decide) (fun c28 => ?_) (fun c28 => ?_)
            · have hf := it_e c28 hf
              refine lv_iload_n hx hb dX4_readPad_96 rfl (lv_at hl 0 rfl) ?_
              exact hj36 v21 q_place_22 q_isWrong_23 _ _ ls hf hG (lv_sub hl [1, 2] rfl)
            · have hf := if_e c28 hf
              refine lv_bipush (v := nI 10) hx hb dX4_readPad_77 rfl ?_
              refine lv_iload_n hx hb dX4_readPad_79 rfl (lv_at hl 0 rfl) ?_
              refine lv_imul hx hb dX4_readPad_80 ?_
              refine lv_aload_n hx hb dX4_readPad_81 rfl (lv_at hl 1 rfl) ?_
              refine lv_bipush (v := nI 48) hx hb dX4_readPad_82 rfl ?_
              refine lv_bipush (v := nI 57) hx hb dX4_readPad_84 rfl ?_
              obtain ⟨r29, q_place_30, q_isWrong_31, h32, hf⟩ := bd3_e hf
              refine k_Wi F hK hA hG (c_X4_sign l D y a H.size Fu q_s q_aside q_before q_known q_slots q_isSaved q_pad q_length q_letters q_heats q_reactions q_newSplits q_storiesThen q_heatThen q_place_22 q_isWrong_23 q_toldLetter_4 q_toldHeat_5 q_toldStory_6 q_toldWords_7 q_toldStories_8 (nI 48) (nI 57) r29 q_place_30 q_isWrong_31 h32) (cwV 2 F.2.2.2.2 gX4_readPad_X4_sign rfl rfl rfl (by decide +kernel) ⟨Nat.le_of_ble_eq_true rfl, Nat.le_of_ble_eq_true rfl⟩) 0 rfl rfl rfl rfl rfl hl.1 (Nat.le_of_ble_eq_true rfl) dX4_readPad_86 ⟨Nat.le_refl 0, Nat.le_refl 0⟩ (fun H locs hG => ?_)
              refine lv_iadd hx hb dX4_readPad_89 ?_
              refine lv_bipush (v := nI 48) hx hb dX4_readPad_90 rfl ?_
              refine lv_isub hx hb dX4_readPad_92 ?_
              refine lv_goto (tgt := 97) hx hb dX4_readPad_93 (by decide) ?_
              exact hj36 ((((nI 10) * v21) + r29) - (nI 48)) q_place_30 q_isWrong_31 _ _ ls hf hG (lv_sub hl [1, 2] rfl)
        refine lv_if_eq (tgt := 60) hx hb dX4_readPad_43 (by decide) (fun c16 => ?_) (fun c16 => ?_)
        · have hf := it_e c16 hf
          refine lv_iconst (v := nI 0) hx hb dX4_readPad_60 rfl ?_
          exact hj24 (nI 0) q_place_11 q_isWrong_12 _ _ ls hf hG (lv_sub hl [1, 0] rfl)
        · have hf := if_e c16 hf
          refine lv_aload_n hx hb dX4_readPad_46 rfl (lv_at hl 1 rfl) ?_
          refine lv_bipush (v := nI 49) hx hb dX4_readPad_47 rfl ?_
          refine lv_bipush (v := nI 57) hx hb dX4_readPad_49 rfl ?_
          obtain ⟨r17, q_place_18, q_isWrong_19, h20, hf⟩ := bd3_e hf
          refine k_Wi F hK hA hG (c_X4_sign l D y a H.size Fu q_s q_aside q_before q_known q_slots q_isSaved q_pad q_length q_letters q_heats q_reactions q_newSplits q_storiesThen q_heatThen q_place_11 q_isWrong_12 q_toldLetter_4 q_toldHeat_5 q_toldStory_6 q_toldWords_7 q_toldStories_8 (nI 49) (nI 57) r17 q_place_18 q_isWrong_19 h20) (cwV 2 F.2.2.2.2 gX4_readPad_X4_sign rfl rfl rfl (by decide +kernel) ⟨Nat.le_of_ble_eq_true rfl, Nat.le_of_ble_eq_true rfl⟩) 0 rfl rfl rfl rfl rfl hl.1 (Nat.le_of_ble_eq_true rfl) dX4_readPad_51 ⟨Nat.le_refl 0, Nat.le_refl 0⟩ (fun H locs hG => ?_)
          refine lv_bipush (v := nI 48) hx hb dX4_readPad_54 rfl ?_
          refine lv_isub hx hb dX4_readPad_56 ?_
          refine lv_goto (tgt := 61) hx hb dX4_readPad_57 (by decide) ?_
          exact hj24 (r17 - (nI 48)) q_place_18 q_isWrong_19 _ _ ls hf hG (lv_sub hl [1, 0] rfl)
  exact hL22 Fu (nI 1) (nI 0) (nI 0) q_toldLetter q_toldHeat q_toldStory (nI 0) (nI 1) _ _ ls hf hG (lv_sub hl [1, 0] rfl)
set_option maxHeartbeats 1000000 in
set_option maxRecDepth 100000 in
theorem c_X4_fault (l : Launch) (D : va_G) (y : Nat → ClassId) (a : Nat → Nat) (sz : Nat) (Fu : Nat) (q_s : Ar) (q_aside : Ar) (q_before : Ar) (q_known : Int32) (q_slots : Ar) (q_isSaved : Ar) (q_pad : Ar) (q_length : Int32) (q_letters : Ar) (q_heats : Ar) (q_reactions : Int32) (q_newSplits : Int32) (q_storiesThen : Int32) (q_heatThen : Int32) (q_place : Int32) (q_isWrong : Int32) (q_toldLetter : Ar) (q_toldHeat : Ar) (q_toldStory : Ar) (q_toldWords : Int32) (q_toldStories : Int32) (ro : Int32) (q_place_o : Int32) (q_isWrong_o : Int32) (q_toldLetter_o : Ar) (q_toldHeat_o : Ar) (q_toldStory_o : Ar) (q_toldWords_o : Int32) (q_toldStories_o : Int32) (hf : f_X4_fault Fu q_pad q_length q_place q_isWrong q_toldLetter q_toldHeat q_toldStory q_toldWords q_toldStories = some (ro, q_place_o, q_isWrong_o, q_toldLetter_o, q_toldHeat_o, q_toldStory_o, q_toldWords_o, q_toldStories_o)) : MI l yX4_fault wsX4_fault 3 69 [.ref (a 0)] D y (w_X4 y a q_s q_aside q_before q_known q_slots q_isSaved q_pad q_length q_letters q_heats q_reactions q_newSplits q_storiesThen q_heatThen q_place q_isWrong q_toldLetter q_toldHeat q_toldStory q_toldWords q_toldStories) sz ro (w_X4 y a q_s q_aside q_before q_known q_slots q_isSaved q_pad q_length q_letters q_heats q_reactions q_newSplits q_storiesThen q_heatThen q_place_o q_isWrong_o q_toldLetter_o q_toldHeat_o q_toldStory_o q_toldWords_o q_toldStories_o) := by
  refine M_i (cc := cX4_fault) (maxL := 1) (own := RX4) (by decide) rfl rfl (Nat.le_of_ble_eq_true rfl) ?_
  intro p e s m args below meth c A Q F hK hA H locs hG hret ls hl
  have hx := F.1
  have hb := F.2.1
  have hl : lv_has ls 1 [(0, .ref (a 0))] := hl
  have k0 := F.2.2.2.2 (.fieldLink RX4 148 "HeatedStoriesModel" "isWrong" "Z") (List.mem_of_getElem? (i := 1) rfl)
  have k1 : ∀ w ∈ wsX40, w ∈ wsX4_fault := (fun w h => List.mem_cons_of_mem _ (List.mem_append_right _ (h)))
  have k2 := F.2.2.2.2 (.fieldLink RX4 145 "HeatedStoriesModel" "place" "I") (List.mem_of_getElem? (i := 2) rfl)
  unfold f_X4_fault at hf
  refine lv_aload_n hx hb dX4_fault_0 rfl (lv_at hl 0 rfl) ?_
  obtain ⟨q_place_1, q_isWrong_2, q_toldLetter_3, q_toldHeat_4, q_toldStory_5, q_toldWords_6, q_toldStories_7, h8, hf⟩ := bd7_e hf
  refine k_Wv F hK hA hG (c_X4_readPad l D y a H.size Fu q_s q_aside q_before q_known q_slots q_isSaved q_pad q_length q_letters q_heats q_reactions q_newSplits q_storiesThen q_heatThen q_place q_isWrong q_toldLetter q_toldHeat q_toldStory q_toldWords q_toldStories q_place_1 q_isWrong_2 q_toldLetter_3 q_toldHeat_4 q_toldStory_5 q_toldWords_6 q_toldStories_7 h8) (cwV 0 F.2.2.2.2 gX4_fault_X4_readPad rfl rfl rfl (by decide +kernel) ⟨Nat.le_of_ble_eq_true rfl, Nat.le_of_ble_eq_true rfl⟩) 0 rfl rfl rfl rfl rfl hl.1 (Nat.le_of_ble_eq_true rfl) dX4_fault_1 ⟨Nat.le_refl 0, Nat.le_refl 0⟩ (fun H locs hG => ?_)
  refine lv_aload_n hx hb dX4_fault_4 rfl (lv_at hl 0 rfl) ?_
  refine w_get4 F hK hG k1 0 rfl 15 (by decide) k0 rfl dX4_fault_5 ?_
  obtain ⟨v10, ev10, hf⟩ := nm_o hf
  have hJ : ∀ (ls : Array Slot), lv_has ls 1 [] → W p l e (RM 3 69) s m args below meth c H locs 0 0 Q (F0 m 20 ls [.int v10]) := by
    intro ls hl
    have hf := so_e hf
    have e0 : v10 = ro := congrArg (fun z => z.1) hf
    have e1 : q_place_1 = q_place_o := congrArg (fun z => z.2.1) hf
    have e2 : q_isWrong_2 = q_isWrong_o := congrArg (fun z => z.2.2.1) hf
    have e3 : q_toldLetter_3 = q_toldLetter_o := congrArg (fun z => z.2.2.2.1) hf
    have e4 : q_toldHeat_4 = q_toldHeat_o := congrArg (fun z => z.2.2.2.2.1) hf
    have e5 : q_toldStory_5 = q_toldStory_o := congrArg (fun z => z.2.2.2.2.2.1) hf
    have e6 : q_toldWords_6 = q_toldWords_o := congrArg (fun z => z.2.2.2.2.2.2.1) hf
    have e7 : q_toldStories_7 = q_toldStories_o := congrArg (fun z => z.2.2.2.2.2.2.2) hf
    exact hret _ _ _ _ _ e0 (by rw [← e1, ← e2, ← e3, ← e4, ← e5, ← e6, ← e7]; exact hG) dX4_fault_20
  refine lv_if_eq (tgt := 18) hx hb dX4_fault_8 (by decide) (fun c9 => ?_) (fun c9 => ?_)
  · refine lv_bipush (v := -6) hx hb dX4_fault_18 rfl ?_
    have qv10 := (ev10.trans (if_pos c9))
    subst qv10
    exact hJ ls (lv_sub hl [] rfl)
  · refine lv_aload_n hx hb dX4_fault_11 rfl (lv_at hl 0 rfl) ?_
    refine w_get4 F hK hG k1 0 rfl 14 (by decide) k2 rfl dX4_fault_12 ?_
    refine lv_goto (tgt := 20) hx hb dX4_fault_15 (by decide) ?_
    have qv10 := (ev10.trans (if_neg c9))
    subst qv10
    exact hJ ls (lv_sub hl [] rfl)
