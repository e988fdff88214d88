set_option maxHeartbeats 1000000 in
set_option maxRecDepth 100000 in
theorem c_X2_split (l : Launch) (D : va_G) (y : Nat → ClassId) (a : Nat → Nat) (sz : Nat) (Fu : Nat) (q_settings : Ar) (q_letters : Ar) (q_heats : Ar) (q_starts : Ar) (q_families : Ar) (q_generations : Ar) (q_tally : Ar) (q_stories : Int32) (q_nextFamily : Int32) (q_splits : Int32) (q_boilings : Int32) (q_fizzles : Int32) (p1 : Int32) (p2 : Int32) (q_starts_o : Ar) (q_families_o : Ar) (q_generations_o : Ar) (q_stories_o : Int32) (hf : f_X2_split Fu q_starts q_families q_generations q_stories p1 p2 = some (q_starts_o, q_families_o, q_generations_o, q_stories_o)) : MV l yX2_split wsX2_split 1 40 [.ref (a 0), .int p1, .int p2] D y (w_X2 y a q_settings q_letters q_heats q_starts q_families q_generations q_tally q_stories q_nextFamily q_splits q_boilings q_fizzles) sz (w_X2 y a q_settings q_letters q_heats q_starts_o q_families_o q_generations_o q_tally q_stories_o q_nextFamily q_splits q_boilings q_fizzles) := by
  refine M_v (cc := cX2_split) (maxL := 4) (own := RX2) (by decide) rfl rfl (Nat.le_of_ble_eq_true rfl) ?_
  intro p e s m args below meth c A Q F hK hA H locs hG hret ls hl
  have hx := F.1
  have hb := F.2.1
  have hl : lv_has ls 4 [(0, .ref (a 0)), (1, .int p1), (2, .int p2)] := hl
  have k0 := F.2.2.2.2 (.fieldLink RX2 43 "HeatedStories$Shelf" "stories" "I") (List.mem_of_getElem? (i := 1) rfl)
  have k1 : ∀ w ∈ wsX20, w ∈ wsX2_split := (fun w h => List.mem_cons_of_mem _ (List.mem_append_right _ (h)))
  have k2 := F.2.2.2.2 (.fieldLink RX2 21 "HeatedStories$Shelf" "starts" "[I") (List.mem_of_getElem? (i := 2) rfl)
  have k3 := F.2.2.2.2 (.methodLink RX2 37 arraycopyName) (List.mem_of_getElem? (i := 3) rfl)
  have k4 := F.2.2.2.2 (.native arraycopyName) (List.mem_of_getElem? (i := 4) rfl)
  have k5 := F.2.2.2.2 (.static arraycopyName) (List.mem_of_getElem? (i := 5) rfl)
  have k6 := F.2.2.2.2 (.initialized "java/lang/System") (List.mem_of_getElem? (i := 6) rfl)
  have k7 := F.2.2.2.2 (.fieldLink RX2 24 "HeatedStories$Shelf" "families" "[I") (List.mem_of_getElem? (i := 7) rfl)
  have k8 := F.2.2.2.2 (.fieldLink RX2 27 "HeatedStories$Shelf" "generations" "[I") (List.mem_of_getElem? (i := 8) rfl)
  unfold f_X2_split at hf
  refine lv_aload_n hx hb dX2_split_0 rfl (lv_at hl 0 rfl) ?_
  refine w_get2 F hK hG k1 0 rfl 7 (by decide) k0 rfl dX2_split_1 ?_
  refine lv_iload_n hx hb dX2_split_4 rfl (lv_at hl 1 rfl) ?_
  refine lv_isub hx hb dX2_split_5 ?_
  refine lv_istore_n (lv' := [(3, .int (q_stories - p1)), (0, .ref (a 0)), (1, .int p1), (2, .int p2)]) hx hb dX2_split_6 rfl hl (by decide) rfl (fun ls hl => ?_)
  refine lv_aload_n hx hb dX2_split_7 rfl (lv_at hl 1 rfl) ?_
  refine w_get2 F hK hG k1 0 rfl 3 (by decide) k2 rfl dX2_split_8 ?_
  refine lv_iload_n hx hb dX2_split_11 rfl (lv_at hl 2 rfl) ?_
  refine lv_iconst (v := nI 1) hx hb dX2_split_12 rfl ?_
  refine lv_iadd hx hb dX2_split_13 ?_
  refine lv_aload_n hx hb dX2_split_14 rfl (lv_at hl 1 rfl) ?_
  refine w_get2 F hK hG k1 0 rfl 3 (by decide) k2 rfl dX2_split_15 ?_
  refine lv_iload_n hx hb dX2_split_18 rfl (lv_at hl 2 rfl) ?_
  refine lv_iconst (v := nI 2) hx hb dX2_split_19 rfl ?_
  refine lv_iadd hx hb dX2_split_20 ?_
  refine lv_iload_n hx hb dX2_split_21 rfl (lv_at hl 0 rfl) ?_
  obtain ⟨g1, hf⟩ := gd_e hf
  refine w_copy F hK hG hl.1 k3 k4 k5 k6 4 4 rfl rfl g1 (w_X2 y a q_settings q_letters q_heats (cpA q_starts q_starts (p1 + (nI 1)) (p1 + (nI 2)) (q_stories - p1)) q_families q_generations q_tally q_stories q_nextFamily q_splits q_boilings q_fizzles) rfl ⟨Nat.le_of_ble_eq_true rfl, by decide⟩ dX2_split_22 (fun H locs hG => ?_)
  obtain ⟨q_starts_2, eq_starts_2, hf⟩ := nm_o hf
  rw [← eq_starts_2] at hG
  refine lv_aload_n hx hb dX2_split_25 rfl (lv_at hl 1 rfl) ?_
  refine w_get2 F hK hG k1 0 rfl 3 (by decide) k2 rfl dX2_split_26 ?_
  refine lv_iload_n hx hb dX2_split_29 rfl (lv_at hl 2 rfl) ?_
  refine lv_iconst (v := nI 1) hx hb dX2_split_30 rfl ?_
  refine lv_iadd hx hb dX2_split_31 ?_
  refine lv_iload_n hx hb dX2_split_32 rfl (lv_at hl 3 rfl) ?_
  obtain ⟨g3, hf⟩ := gd_e hf
  refine w_iast F hK hG 4 rfl g3 (w_X2 y a q_settings q_letters q_heats (upd q_starts_2 (p1 + (nI 1)).toNatClampNeg p2) q_families q_generations q_tally q_stories q_nextFamily q_splits q_boilings q_fizzles) rfl dX2_split_33 (fun H locs hG => ?_)
  refine lv_aload_n hx hb dX2_split_34 rfl (lv_at hl 1 rfl) ?_
  refine w_get2 F hK hG k1 0 rfl 4 (by decide) k7 rfl dX2_split_35 ?_
  refine lv_iload_n hx hb dX2_split_38 rfl (lv_at hl 2 rfl) ?_
  refine lv_aload_n hx hb dX2_split_39 rfl (lv_at hl 1 rfl) ?_
  refine w_get2 F hK hG k1 0 rfl 4 (by decide) k7 rfl dX2_split_40 ?_
  refine lv_iload_n hx hb dX2_split_43 rfl (lv_at hl 2 rfl) ?_
  refine lv_iconst (v := nI 1) hx hb dX2_split_44 rfl ?_
  refine lv_iadd hx hb dX2_split_45 ?_
  refine lv_iload_n hx hb dX2_split_46 rfl (lv_at hl 0 rfl) ?_
  obtain ⟨g4, hf⟩ := gd_e hf
  refine w_copy F hK hG hl.1 k3 k4 k5 k6 5 5 rfl rfl g4 (w_X2 y a q_settings q_letters q_heats (upd q_starts_2 (p1 + (nI 1)).toNatClampNeg p2) (cpA q_families q_families p1 (p1 + (nI 1)) (q_stories - p1)) q_generations q_tally q_stories q_nextFamily q_splits q_boilings q_fizzles) rfl ⟨Nat.le_of_ble_eq_true rfl, by decide⟩ dX2_split_47 (fun H locs hG => ?_)
  obtain ⟨q_families_5, eq_families_5, hf⟩ := nm_o hf
  rw [← eq_families_5] at hG
  refine lv_aload_n hx hb dX2_split_50 rfl (lv_at hl 1 rfl) ?_
  refine w_get2 F hK hG k1 0 rfl 5 (by decide) k8 rfl dX2_split_51 ?_
  refine lv_iload_n hx hb dX2_split_54 rfl (lv_at hl 2 rfl) ?_
  refine lv_aload_n hx hb dX2_split_55 rfl (lv_at hl 1 rfl) ?_
  refine w_get2 F hK hG k1 0 rfl 5 (by decide) k8 rfl dX2_split_56 ?_
  refine lv_iload_n hx hb dX2_split_59 rfl (lv_at hl 2 rfl) ?_
  refine lv_iconst (v := nI 1) hx hb dX2_split_60 rfl ?_
  refine lv_iadd hx hb dX2_split_61 ?_
  refine lv_iload_n hx hb dX2_split_62 rfl (lv_at hl 0 rfl) ?_
  obtain ⟨g6, hf⟩ := gd_e hf
  refine w_copy F hK hG hl.1 k3 k4 k5 k6 6 6 rfl rfl g6 (w_X2 y a q_settings q_letters q_heats (upd q_starts_2 (p1 + (nI 1)).toNatClampNeg p2) q_families_5 (cpA q_generations q_generations p1 (p1 + (nI 1)) (q_stories - p1)) q_tally q_stories q_nextFamily q_splits q_boilings q_fizzles) rfl ⟨Nat.le_of_ble_eq_true rfl, by decide⟩ dX2_split_63 (fun H locs hG => ?_)
  obtain ⟨q_generations_7, eq_generations_7, hf⟩ := nm_o hf
  rw [← eq_generations_7] at hG
  refine lv_aload_n hx hb dX2_split_66 rfl (lv_at hl 1 rfl) ?_
  refine w_get2 F hK hG k1 0 rfl 5 (by decide) k8 rfl dX2_split_67 ?_
  refine lv_iload_n hx hb dX2_split_70 rfl (lv_at hl 2 rfl) ?_
  refine lv_iconst (v := nI 1) hx hb dX2_split_71 rfl ?_
  refine lv_iadd hx hb dX2_split_72 ?_
  refine lv_dup2_11 hx hb dX2_split_73 rfl rfl ?_
  obtain ⟨g8, hf⟩ := gd_e hf
  refine w_iald F hK hG 6 rfl g8 dX2_split_74 ?_
  refine lv_iconst (v := nI 1) hx hb dX2_split_75 rfl ?_
  refine lv_iadd hx hb dX2_split_76 ?_
  obtain ⟨g9, hf⟩ := gd_e hf
  refine w_iast F hK hG 6 rfl g9 (w_X2 y a q_settings q_letters q_heats (upd q_starts_2 (p1 + (nI 1)).toNatClampNeg p2) q_families_5 (upd q_generations_7 (p1 + (nI 1)).toNatClampNeg ((q_generations_7 (p1 + (nI 1)).toNatClampNeg) + (nI 1))) q_tally q_stories q_nextFamily q_splits q_boilings q_fizzles) rfl dX2_split_77 (fun H locs hG => ?_)
  obtain ⟨q_generations_10, eq_generations_10, hf⟩ := nm_o hf
  rw [← eq_generations_10] at hG
  refine lv_aload_n hx hb dX2_split_78 rfl (lv_at hl 1 rfl) ?_
  refine lv_dup hx hb dX2_split_79 rfl ?_
  refine w_get2 F hK hG k1 0 rfl 7 (by decide) k0 rfl dX2_split_80 ?_
  refine lv_iconst (v := nI 1) hx hb dX2_split_83 rfl ?_
  refine lv_iadd hx hb dX2_split_84 ?_
  refine w_put2 F hK hG k1 0 rfl 7 (by decide) k0 rfl rfl rfl (Nat.le_of_ble_eq_true rfl) (w_X2 y a q_settings q_letters q_heats (upd q_starts_2 (p1 + (nI 1)).toNatClampNeg p2) q_families_5 q_generations_10 q_tally (q_stories + (nI 1)) q_nextFamily q_splits q_boilings q_fizzles) rfl dX2_split_85 (fun H locs hG => ?_)
  have hf := so_e hf
  have e0 : (upd q_starts_2 (p1 + (nI 1)).toNatClampNeg p2) = q_starts_o := congrArg (fun z => z.1) hf
  have e1 : q_families_5 = q_families_o := congrArg (fun z => z.2.1) hf
  have e2 : q_generations_10 = q_generations_o := congrArg (fun z => z.2.2.1) hf
  have e3 : (q_stories + (nI 1)) = q_stories_o := congrArg (fun z => z.2.2.2) hf
  exact hret _ _ _ _ (by rw [← e0, ← e1, ← e2, ← e3]; exact hG) dX2_split_88
set_option maxHeartbeats 1000000 in
set_option maxRecDepth 100000 in
theorem c_X2_reactAt (l : Launch) (D : va_G) (y : Nat → ClassId) (a : Nat → Nat) (sz : Nat) (Fu : Nat) (q_settings : Ar) (q_letters : Ar) (q_heats : Ar) (q_starts : Ar) (q_families : Ar) (q_generations : Ar) (q_tally : Ar) (q_stories : Int32) (q_nextFamily : Int32) (q_splits : Int32) (q_boilings : Int32) (q_fizzles : Int32) (p1 : Int32) (q_heats_o : Ar) (q_starts_o : Ar) (q_families_o : Ar) (q_generations_o : Ar) (q_stories_o : Int32) (q_splits_o : Int32) (q_boilings_o : Int32) (q_fizzles_o : Int32) (hf : f_X2_reactAt Fu q_settings q_heats q_starts q_families q_generations q_stories q_splits q_boilings q_fizzles p1 = some (q_heats_o, q_starts_o, q_families_o, q_generations_o, q_stories_o, q_splits_o, q_boilings_o, q_fizzles_o)) : MV l yX2_reactAt wsX2_reactAt 2 63 [.ref (a 0), .int p1] D y (w_X2 y a q_settings q_letters q_heats q_starts q_families q_generations q_tally q_stories q_nextFamily q_splits q_boilings q_fizzles) sz (w_X2 y a q_settings q_letters q_heats_o q_starts_o q_families_o q_generations_o q_tally q_stories_o q_nextFamily q_splits_o q_boilings_o q_fizzles_o) := by
  refine M_v (cc := cX2_reactAt) (maxL := 5) (own := RX2) (by decide) rfl rfl (Nat.le_of_ble_eq_true rfl) ?_
  intro p e s m args below meth c A Q F hK hA H locs hG hret ls hl
  have hx := F.1
  have hb := F.2.1
  have hl : lv_has ls 5 [(0, .ref (a 0)), (1, .int p1)] := hl
  have k0 := F.2.2.2.2 (.fieldLink RX2 21 "HeatedStories$Shelf" "starts" "[I") (List.mem_of_getElem? (i := 1) rfl)
  have k1 : ∀ w ∈ wsX20, w ∈ wsX2_reactAt := (fun w h => List.mem_cons_of_mem _ (List.mem_append_right _ (h)))
  have k2 := F.2.2.2.2 (.fieldLink RX2 43 "HeatedStories$Shelf" "stories" "I") (List.mem_of_getElem? (i := 3) rfl)
  have k3 := F.2.2.2.2 (.fieldLink RX2 56 "HeatedStories$Shelf" "fizzles" "I") (List.mem_of_getElem? (i := 5) rfl)
  have k4 := F.2.2.2.2 (.fieldLink RX2 50 "HeatedStories$Shelf" "splits" "I") (List.mem_of_getElem? (i := 4) rfl)
  have k5 := F.2.2.2.2 (.fieldLink RX2 53 "HeatedStories$Shelf" "boilings" "I") (List.mem_of_getElem? (i := 2) rfl)
  have k6 := F.2.2.2.2 (.fieldLink RX2 18 "HeatedStories$Shelf" "heats" "[I") (List.mem_of_getElem? (i := 6) rfl)
  have k7 := F.2.2.2.2 (.fieldLink RX2 9 "HeatedStories$Shelf" "settings" "[I") (List.mem_of_getElem? (i := 7) rfl)
  unfold f_X2_reactAt at hf
  refine lv_aload_n hx hb dX2_reactAt_0 rfl (lv_at hl 0 rfl) ?_
  refine lv_iload_n hx hb dX2_reactAt_1 rfl (lv_at hl 1 rfl) ?_
  obtain ⟨r1, h2, hf⟩ := bd1_e hf
  refine k_Wi F hK hA hG (c_X2_storyAt l D y a H.size Fu q_settings q_letters q_heats q_starts q_families q_generations q_tally q_stories q_nextFamily q_splits q_boilings q_fizzles p1 r1 h2) (cwV 1 F.2.2.2.2 gX2_reactAt_X2_storyAt rfl rfl rfl (by decide +kernel) ⟨Nat.le_of_ble_eq_true rfl, Nat.le_of_ble_eq_true rfl⟩) 0 rfl rfl rfl rfl rfl hl.1 (Nat.le_of_ble_eq_true rfl) dX2_reactAt_2 ⟨Nat.le_refl 0, Nat.le_refl 0⟩ (fun H locs hG => ?_)
  refine lv_istore_n (lv' := [(2, .int r1), (0, .ref (a 0)), (1, .int p1)]) hx hb dX2_reactAt_5 rfl hl (by decide) rfl (fun ls hl => ?_)
  refine lv_aload_n hx hb dX2_reactAt_6 rfl (lv_at hl 1 rfl) ?_
  refine w_get2 F hK hG k1 0 rfl 3 (by decide) k0 rfl dX2_reactAt_7 ?_
  refine lv_iload_n hx hb dX2_reactAt_10 rfl (lv_at hl 0 rfl) ?_
  obtain ⟨g3, hf⟩ := gd_e hf
  refine w_iald F hK hG 4 rfl g3 dX2_reactAt_11 ?_
  refine lv_istore_n (lv' := [(3, .int (q_starts (r1).toNatClampNeg)), (2, .int r1), (0, .ref (a 0)), (1, .int p1)]) hx hb dX2_reactAt_12 rfl hl (by decide) rfl (fun ls hl => ?_)
  refine lv_aload_n hx hb dX2_reactAt_13 rfl (lv_at hl 2 rfl) ?_
  refine w_get2 F hK hG k1 0 rfl 3 (by decide) k0 rfl dX2_reactAt_14 ?_
  refine lv_iload_n hx hb dX2_reactAt_17 rfl (lv_at hl 1 rfl) ?_
  refine lv_iconst (v := nI 1) hx hb dX2_reactAt_18 rfl ?_
  refine lv_iadd hx hb dX2_reactAt_19 ?_
  obtain ⟨g4, hf⟩ := gd_e hf
  refine w_iald F hK hG 4 rfl g4 dX2_reactAt_20 ?_
  obtain ⟨v5, ev5, hf⟩ := nm_o hf
  refine w_nm ev5 ?_
  refine lv_istore (lv' := [(4, .int v5), (3, .int (q_starts (r1).toNatClampNeg)), (2, .int r1), (0, .ref (a 0)), (1, .int p1)]) hx hb dX2_reactAt_21 hl (by decide) rfl (fun ls hl => ?_)
  refine lv_iload_n hx hb dX2_reactAt_23 rfl (lv_at hl 4 rfl) ?_
  refine lv_iload_n hx hb dX2_reactAt_24 rfl (lv_at hl 1 rfl) ?_
  obtain ⟨j20, ej20, hf⟩ := jn_e hf
  have hj20 : ∀ (q_starts_13 : Ar) (q_families_14 : Ar) (q_generations_15 : Ar) (q_stories_16 : Int32) (q_splits_17 : Int32) (q_boilings_18 : Int32) (q_fizzles_19 : Int32) (H : Heap) (locs : List Loc) (ls : Array Slot), j20 q_starts_13 q_families_14 q_generations_15 q_stories_16 q_splits_17 q_boilings_18 q_fizzles_19 = some (q_heats_o, q_starts_o, q_families_o, q_generations_o, q_stories_o, q_splits_o, q_boilings_o, q_fizzles_o) → GG D A s.heap (w_X2 y a q_settings q_letters q_heats q_starts_13 q_families_14 q_generations_15 q_tally q_stories_16 q_nextFamily q_splits_17 q_boilings_18 q_fizzles_19) H locs → lv_has ls 5 [(0, .ref (a 0)), (1, .int p1), (3, .int (q_starts (r1).toNatClampNeg)), (4, .int v5)] → W p l e (RM 2 63) s m args below meth c H locs 0 0 Q (F0 m 79 ls []) := by
    intro q_starts_13 q_families_14 q_generations_15 q_stories_16 q_splits_17 q_boilings_18 q_fizzles_19 H locs ls hf hG hl
    rw [ej20] at hf
    refine lv_aload_n hx hb dX2_reactAt_79 rfl (lv_at hl 0 rfl) ?_
    refine w_get2 F hK hG k1 0 rfl 2 (by decide) k6 rfl dX2_reactAt_80 ?_
    refine lv_iload_n hx hb dX2_reactAt_83 rfl (lv_at hl 1 rfl) ?_
    refine lv_iconst (v := nI 0) hx hb dX2_reactAt_84 rfl ?_
    obtain ⟨g21, hf⟩ := gd_e hf
    refine w_iast F hK hG 3 rfl g21 (w_X2 y a q_settings q_letters (upd q_heats (p1).toNatClampNeg (nI 0)) q_starts_13 q_families_14 q_generations_15 q_tally q_stories_16 q_nextFamily q_splits_17 q_boilings_18 q_fizzles_19) rfl dX2_reactAt_85 (fun H locs hG => ?_)
    refine lv_iload_n hx hb dX2_reactAt_86 rfl (lv_at hl 1 rfl) ?_
    refine lv_iload_n hx hb dX2_reactAt_87 rfl (lv_at hl 2 rfl) ?_
    obtain ⟨j26, ej26, hf⟩ := jn_e hf
    have hj26 : ∀ (q_heats_25 : Ar) (H : Heap) (locs : List Loc) (ls : Array Slot), j26 q_heats_25 = some (q_heats_o, q_starts_o, q_families_o, q_generations_o, q_stories_o, q_splits_o, q_boilings_o, q_fizzles_o) → GG D A s.heap (w_X2 y a q_settings q_letters q_heats_25 q_starts_13 q_families_14 q_generations_15 q_tally q_stories_16 q_nextFamily q_splits_17 q_boilings_18 q_fizzles_19) H locs → lv_has ls 5 [(0, .ref (a 0)), (1, .int p1), (4, .int v5)] → W p l e (RM 2 63) s m args below meth c H locs 0 0 Q (F0 m 104 ls []) := by
      intro q_heats_25 H locs ls hf hG hl
      rw [ej26] at hf
      refine lv_iload_n hx hb dX2_reactAt_104 rfl (lv_at hl 1 rfl) ?_
      refine lv_iconst (v := nI 1) hx hb dX2_reactAt_105 rfl ?_
      refine lv_iadd hx hb dX2_reactAt_106 ?_
      refine lv_iload hx hb dX2_reactAt_107 (lv_at hl 2 rfl) ?_
      obtain ⟨j31, ej31, hf⟩ := jn_e hf
      have hj31 : ∀ (q_heats_30 : Ar) (H : Heap) (locs : List Loc) (ls : Array Slot), j31 q_heats_30 = some (q_heats_o, q_starts_o, q_families_o, q_generations_o, q_stories_o, q_splits_o, q_boilings_o, q_fizzles_o) → GG D A s.heap (w_X2 y a q_settings q_letters q_heats_30 q_starts_13 q_families_14 q_generations_15 q_tally q_stories_16 q_nextFamily q_splits_17 q_boilings_18 q_fizzles_19) H locs → lv_has ls 5 [] → W p l e (RM 2 63) s m args below meth c H locs 0 0 Q (F0 m 125 ls []) := by
        intro q_heats_30 H locs ls hf hG hl
        rw [ej31] at hf
        have hf := so_e hf
        have e0 : q_heats_30 = q_heats_o := congrArg (fun z => z.1) hf
        have e1 : q_starts_13 = q_starts_o := congrArg (fun z => z.2.1) hf
        have e2 : q_families_14 = q_families_o := congrArg (fun z => z.2.2.1) hf
        have e3 : q_generations_15 = q_generations_o := congrArg (fun z => z.2.2.2.1) hf
        have e4 : q_stories_16 = q_stories_o := congrArg (fun z => z.2.2.2.2.1) hf
        have e5 : q_splits_17 = q_splits_o := congrArg (fun z => z.2.2.2.2.2.1) hf
        have e6 : q_boilings_18 = q_boilings_o := congrArg (fun z => z.2.2.2.2.2.2.1) hf
        have e7 : q_fizzles_19 = q_fizzles_o := congrArg (fun z => z.2.2.2.2.2.2.2) hf
        exact hret _ _ _ _ (by rw [← e0, ← e1, ← e2, ← e3, ← e4, ← e5, ← e6, ← e7]; exact hG) dX2_reactAt_125
      refine lv_icmp_ge (tgt := 125) hx hb dX2_reactAt_109 (by decide) (fun c27 => ?_) (fun c27 => ?_)
      · have hf := it_e c27 hf
        exact hj31 q_heats_25 _ _ ls hf hG (lv_sub hl [] rfl)
      · have hf := if_e c27 hf
        refine lv_aload_n hx hb dX2_reactAt_112 rfl (lv_at hl 0 rfl) ?_
        refine lv_iload_n hx hb dX2_reactAt_113 rfl (lv_at hl 1 rfl) ?_
        refine lv_iconst (v := nI 1) hx hb dX2_reactAt_114 rfl ?_
        refine lv_iadd hx hb dX2_reactAt_115 ?_
        refine lv_aload_n hx hb dX2_reactAt_116 rfl (lv_at hl 0 rfl) ?_
        refine w_get2 F hK hG k1 0 rfl 0 (by decide) k7 rfl dX2_reactAt_117 ?_
        refine lv_iconst (v := nI 1) hx hb dX2_reactAt_120 rfl ?_
        refine w_ialdk F hK hG 1 rfl (Nat.le_of_ble_eq_true rfl) (Nat.le_of_ble_eq_true rfl) dX2_reactAt_121 ?_
        obtain ⟨q_heats_28, h29, hf⟩ := bd1_e hf
        refine k_Wv F hK hA hG (c_X2_warm l D y a H.size Fu q_settings q_letters q_heats_25 q_starts_13 q_families_14 q_generations_15 q_tally q_stories_16 q_nextFamily q_splits_17 q_boilings_18 q_fizzles_19 (p1 + (nI 1)) (q_settings 1) q_heats_28 h29) (cwV 2 F.2.2.2.2 gX2_reactAt_X2_warm rfl rfl rfl (by decide +kernel) ⟨Nat.le_of_ble_eq_true rfl, Nat.le_of_ble_eq_true rfl⟩) 0 rfl rfl rfl rfl rfl hl.1 (Nat.le_of_ble_eq_true rfl) dX2_reactAt_122 ⟨Nat.le_refl 0, Nat.le_refl 0⟩ (fun H locs hG => ?_)
        exact hj31 q_heats_28 _ _ ls hf hG (lv_sub hl [] rfl)
    refine lv_icmp_le (tgt := 104) hx hb dX2_reactAt_88 (by decide) (fun c22 => ?_) (fun c22 => ?_)
    · have hf := it_e c22 hf
      exact hj26 (upd q_heats (p1).toNatClampNeg (nI 0)) _ _ ls hf hG (lv_sub hl [0, 1, 3] rfl)
    · have hf := if_e c22 hf
      refine lv_aload_n hx hb dX2_reactAt_91 rfl (lv_at hl 0 rfl) ?_
      refine lv_iload_n hx hb dX2_reactAt_92 rfl (lv_at hl 1 rfl) ?_
      refine lv_iconst (v := nI 1) hx hb dX2_reactAt_93 rfl ?_
      refine lv_isub hx hb dX2_reactAt_94 ?_
      refine lv_aload_n hx hb dX2_reactAt_95 rfl (lv_at hl 0 rfl) ?_
      refine w_get2 F hK hG k1 0 rfl 0 (by decide) k7 rfl dX2_reactAt_96 ?_
      refine lv_iconst (v := nI 1) hx hb dX2_reactAt_99 rfl ?_
      refine w_ialdk F hK hG 1 rfl (Nat.le_of_ble_eq_true rfl) (Nat.le_of_ble_eq_true rfl) dX2_reactAt_100 ?_
      obtain ⟨q_heats_23, h24, hf⟩ := bd1_e hf
      refine k_Wv F hK hA hG (c_X2_warm l D y a H.size Fu q_settings q_letters (upd q_heats (p1).toNatClampNeg (nI 0)) q_starts_13 q_families_14 q_generations_15 q_tally q_stories_16 q_nextFamily q_splits_17 q_boilings_18 q_fizzles_19 (p1 - (nI 1)) (q_settings 1) q_heats_23 h24) (cwV 2 F.2.2.2.2 gX2_reactAt_X2_warm rfl rfl rfl (by decide +kernel) ⟨Nat.le_of_ble_eq_true rfl, Nat.le_of_ble_eq_true rfl⟩) 0 rfl rfl rfl rfl rfl hl.1 (Nat.le_of_ble_eq_true rfl) dX2_reactAt_101 ⟨Nat.le_refl 0, Nat.le_refl 0⟩ (fun H locs hG => ?_)
      exact hj26 q_heats_23 _ _ ls hf hG (lv_sub hl [0, 1, 3] rfl)
  refine lv_icmp_ne (tgt := 41) hx hb dX2_reactAt_25 (by decide) (fun c6 => ?_) (fun c6 => ?_)
  · have hf := if_e c6 hf
    refine lv_aload_n hx hb dX2_reactAt_41 rfl (lv_at hl 3 rfl) ?_
    refine w_get2 F hK hG k1 0 rfl 7 (by decide) k2 rfl dX2_reactAt_42 ?_
    refine lv_bipush (v := nI 12) hx hb dX2_reactAt_45 rfl ?_
    refine lv_icmp_ge (tgt := 69) hx hb dX2_reactAt_47 (by decide) (fun c7 => ?_) (fun c7 => ?_)
    · have hf := it_e c7 hf
      refine lv_aload_n hx hb dX2_reactAt_69 rfl (lv_at hl 3 rfl) ?_
      refine lv_dup hx hb dX2_reactAt_70 rfl ?_
      refine w_get2 F hK hG k1 0 rfl 11 (by decide) k3 rfl dX2_reactAt_71 ?_
      refine lv_iconst (v := nI 1) hx hb dX2_reactAt_74 rfl ?_
      refine lv_iadd hx hb dX2_reactAt_75 ?_
      refine w_put2 F hK hG k1 0 rfl 11 (by decide) k3 rfl rfl rfl (Nat.le_of_ble_eq_true rfl) (w_X2 y a q_settings q_letters q_heats q_starts q_families q_generations q_tally q_stories q_nextFamily q_splits q_boilings (q_fizzles + (nI 1))) rfl dX2_reactAt_76 (fun H locs hG => ?_)
      exact hj20 q_starts q_families q_generations q_stories q_splits q_boilings (q_fizzles + (nI 1)) _ _ ls hf hG (lv_sub hl [3, 4, 1, 0] rfl)
    · have hf := if_e c7 hf
      refine lv_aload_n hx hb dX2_reactAt_50 rfl (lv_at hl 3 rfl) ?_
      refine lv_dup hx hb dX2_reactAt_51 rfl ?_
      refine w_get2 F hK hG k1 0 rfl 9 (by decide) k4 rfl dX2_reactAt_52 ?_
      refine lv_iconst (v := nI 1) hx hb dX2_reactAt_55 rfl ?_
      refine lv_iadd hx hb dX2_reactAt_56 ?_
      refine w_put2 F hK hG k1 0 rfl 9 (by decide) k4 rfl rfl rfl (Nat.le_of_ble_eq_true rfl) (w_X2 y a q_settings q_letters q_heats q_starts q_families q_generations q_tally q_stories q_nextFamily (q_splits + (nI 1)) q_boilings q_fizzles) rfl dX2_reactAt_57 (fun H locs hG => ?_)
      refine lv_aload_n hx hb dX2_reactAt_60 rfl (lv_at hl 3 rfl) ?_
      refine lv_iload_n hx hb dX2_reactAt_61 rfl (lv_at hl 2 rfl) ?_
      refine lv_iload_n hx hb dX2_reactAt_62 rfl (lv_at hl 4 rfl) ?_
      obtain ⟨q_starts_8, q_families_9, q_generations_10, q_stories_11, h12, hf⟩ := bd4_e hf
      refine k_Wv F hK hA hG (c_X2_split l D y a H.size Fu q_settings q_letters q_heats q_starts q_families q_generations q_tally q_stories q_nextFamily (q_splits + (nI 1)) q_boilings q_fizzles r1 p1 q_starts_8 q_families_9 q_generations_10 q_stories_11 h12) (cwV 2 F.2.2.2.2 gX2_reactAt_X2_split rfl rfl rfl (by decide +kernel) ⟨Nat.le_of_ble_eq_true rfl, Nat.le_of_ble_eq_true rfl⟩) 0 rfl rfl rfl rfl rfl hl.1 (Nat.le_of_ble_eq_true rfl) dX2_reactAt_63 ⟨Nat.le_refl 0, Nat.le_refl 0⟩ (fun H locs hG => ?_)
      refine lv_goto (tgt := 79) hx hb dX2_reactAt_66 (by decide) ?_
      exact hj20 q_starts_8 q_families_9 q_generations_10 q_stories_11 (q_splits + (nI 1)) q_boilings q_fizzles _ _ ls hf hG (lv_sub hl [3, 4, 1, 0] rfl)
  · have hf := it_e c6 hf
    refine lv_aload_n hx hb dX2_reactAt_28 rfl (lv_at hl 3 rfl) ?_
    refine lv_dup hx hb dX2_reactAt_29 rfl ?_
    refine w_get2 F hK hG k1 0 rfl 10 (by decide) k5 rfl dX2_reactAt_30 ?_
    refine lv_iconst (v := nI 1) hx hb dX2_reactAt_33 rfl ?_
    refine lv_iadd hx hb dX2_reactAt_34 ?_
    refine w_put2 F hK hG k1 0 rfl 10 (by decide) k5 rfl rfl rfl (Nat.le_of_ble_eq_true rfl) (w_X2 y a q_settings q_letters q_heats q_starts q_families q_generations q_tally q_stories q_nextFamily q_splits (q_boilings + (nI 1)) q_fizzles) rfl dX2_reactAt_35 (fun H locs hG => ?_)
    refine lv_goto (tgt := 79) hx hb dX2_reactAt_38 (by decide) ?_
    exact hj20 q_starts q_families q_generations q_stories q_splits (q_boilings + (nI 1)) q_fizzles _ _ ls hf hG (lv_sub hl [3, 4, 1, 0] rfl)
set_option maxHeartbeats 1000000 in
set_option maxRecDepth 100000 in
theorem c_X2_react (l : Launch) (D : va_G) (y : Nat → ClassId) (a : Nat → Nat) (sz : Nat) (Fu : Nat) (q_settings : Ar) (q_letters : Ar) (q_heats : Ar) (q_starts : Ar) (q_families : Ar) (q_generations : Ar) (q_tally : Ar) (q_stories : Int32) (q_nextFamily : Int32) (q_splits : Int32) (q_boilings : Int32) (q_fizzles : Int32) (ro : Int32) (q_heats_o : Ar) (q_starts_o : Ar) (q_families_o : Ar) (q_generations_o : Ar) (q_stories_o : Int32) (q_splits_o : Int32) (q_boilings_o : Int32) (q_fizzles_o : Int32) (hf : f_X2_react Fu q_settings q_heats q_starts q_families q_generations q_stories q_splits q_boilings q_fizzles = some (ro, q_heats_o, q_starts_o, q_families_o, q_generations_o, q_stories_o, q_splits_o, q_boilings_o, q_fizzles_o)) : MI l yX2_react wsX2_react 3 87 [.ref (a 0)] D y (w_X2 y a q_settings q_letters q_heats q_starts q_families q_generations q_tally q_stories q_nextFamily q_splits q_boilings q_fizzles) sz ro (w_X2 y a q_settings q_letters q_heats_o q_starts_o q_families_o q_generations_o q_tally q_stories_o q_nextFamily q_splits_o q_boilings_o q_fizzles_o) := by
  refine M_i (cc := cX2_react) (maxL := 4) (own := RX2) (by decide) rfl rfl (Nat.le_of_ble_eq_true rfl) ?_
  intro p e s m args below meth c A Q F hK hA H locs hG hret ls hl
  have hx := F.1
  have hb := F.2.1
  have hl : lv_has ls 4 [(0, .ref (a 0))] := hl
  have k0 := F.2.2.2.2 (.constant RX2 80 (1000000)) (List.mem_of_getElem? (i := 1) rfl)
  have k1 := F.2.2.2.2 (.fieldLink RX2 18 "HeatedStories$Shelf" "heats" "[I") (List.mem_of_getElem? (i := 2) rfl)
  have k2 : ∀ w ∈ wsX20, w ∈ wsX2_react := (fun w h => List.mem_cons_of_mem _ (List.mem_append_right _ (h)))
  have k3 := F.2.2.2.2 (.fieldLink RX2 9 "HeatedStories$Shelf" "settings" "[I") (List.mem_of_getElem? (i := 3) rfl)
  have k4 := F.2.2.2.2 (.methodLink RX2 85 Lib.Math.max.name) (List.mem_of_getElem? (i := 4) rfl)
  have k5 := F.2.2.2.2 (.static Lib.Math.max.name) (List.mem_of_getElem? (i := 5) rfl)
  have k6 := F.2.2.2.2 (.initialized "java/lang/Math") (List.mem_of_getElem? (i := 6) rfl)
  have k7 := F.2.2.2.2 (.code Lib.Math.max.name Lib.Math.max.code 2 (some .int)) (List.mem_of_getElem? (i := 7) rfl)
  unfold f_X2_react at hf
  refine lv_iconst (v := nI 0) hx hb dX2_react_0 rfl ?_
  refine lv_istore_n (lv' := [(1, .int (nI 0)), (0, .ref (a 0))]) hx hb dX2_react_1 rfl hl (by decide) rfl (fun ls hl => ?_)
  refine lv_iconst (v := nI 0) hx hb dX2_react_2 rfl ?_
  refine lv_istore_n (lv' := [(2, .int (nI 0)), (1, .int (nI 0)), (0, .ref (a 0))]) hx hb dX2_react_3 rfl hl (by decide) rfl (fun ls hl => ?_)
  refine lv_iconst (v := nI 0) hx hb dX2_react_4 rfl ?_
  refine lv_istore_n (lv' := [(3, .int (nI 0)), (2, .int (nI 0)), (1, .int (nI 0)), (0, .ref (a 0))]) hx hb dX2_react_5 rfl hl (by decide) rfl (fun ls hl => ?_)
  obtain ⟨k_6, ek_6, hf⟩ := jn_e hf
  have hk_6 : ∀ (v38 : Int32) (q_heats_39 : Ar) (q_starts_40 : Ar) (q_families_41 : Ar) (q_generations_42 : Ar) (q_stories_43 : Int32) (q_splits_44 : Int32) (q_boilings_45 : Int32) (q_fizzles_46 : Int32) (H : Heap) (locs : List Loc) (ls : Array Slot), k_6 v38 q_heats_39 q_starts_40 q_families_41 q_generations_42 q_stories_43 q_splits_44 q_boilings_45 q_fizzles_46 = some (ro, q_heats_o, q_starts_o, q_families_o, q_generations_o, q_stories_o, q_splits_o, q_boilings_o, q_fizzles_o) → GG D A s.heap (w_X2 y a q_settings q_letters q_heats_39 q_starts_40 q_families_41 q_generations_42 q_tally q_stories_43 q_nextFamily q_splits_44 q_boilings_45 q_fizzles_46) H locs → lv_has ls 4 [(1, .int v38)] → W p l e (RM 3 87) s m args below meth c H locs 0 0 Q (F0 m 63 ls []) := by
    intro v38 q_heats_39 q_starts_40 q_families_41 q_generations_42 q_stories_43 q_splits_44 q_boilings_45 q_fizzles_46 H locs ls hf hG hl
    rw [ek_6] at hf
    refine lv_iload_n hx hb dX2_react_63 rfl (lv_at hl 0 rfl) ?_
    have hf := so_e hf
    have e0 : v38 = ro := congrArg (fun z => z.1) hf
    have e1 : q_heats_39 = q_heats_o := congrArg (fun z => z.2.1) hf
    have e2 : q_starts_40 = q_starts_o := congrArg (fun z => z.2.2.1) hf
    have e3 : q_families_41 = q_families_o := congrArg (fun z => z.2.2.2.1) hf
    have e4 : q_generations_42 = q_generations_o := congrArg (fun z => z.2.2.2.2.1) hf
    have e5 : q_stories_43 = q_stories_o := congrArg (fun z => z.2.2.2.2.2.1) hf
    have e6 : q_splits_44 = q_splits_o := congrArg (fun z => z.2.2.2.2.2.2.1) hf
    have e7 : q_boilings_45 = q_boilings_o := congrArg (fun z => z.2.2.2.2.2.2.2.1) hf
    have e8 : q_fizzles_46 = q_fizzles_o := congrArg (fun z => z.2.2.2.2.2.2.2.2) hf
    exact hret _ _ _ _ _ e0 (by rw [← e1, ← e2, ← e3, ← e4, ← e5, ← e6, ← e7, ← e8]; exact hG) dX2_react_64
  have hL6 : ∀ (fu : Nat) (x1 : Int32) (x2 : Int32) (x3 : Int32) (q_heats_4 : Ar) (q_starts_5 : Ar) (q_families_6 : Ar) (q_generations_7 : Ar) (q_stories_8 : Int32) (q_splits_9 : Int32) (q_boilings_10 : Int32) (q_fizzles_11 : Int32) (H : Heap) (locs : List Loc) (ls : Array Slot), f_X2_react_L6 Fu k_6 q_settings fu x1 x2 x3 q_heats_4 q_starts_5 q_families_6 q_generations_7 q_stories_8 q_splits_9 q_boilings_10 q_fizzles_11 = some (ro, q_heats_o, q_starts_o, q_families_o, q_generations_o, q_stories_o, q_splits_o, q_boilings_o, q_fizzles_o) → GG D A s.heap (w_X2 y a q_settings q_letters q_heats_4 q_starts_5 q_families_6 q_generations_7 q_tally q_stories_8 q_nextFamily q_splits_9 q_boilings_10 q_fizzles_11) H locs → lv_has ls 4 [(0, .ref (a 0)), (1, .int x1), (2, .int x2), (3, .int x3)] → W p l e (RM 3 87) s m args below meth c H locs 0 0 Q (F0 m 6 ls []) := by
    intro fu
    induction fu with
    | zero => intro x1 x2 x3 q_heats_4 q_starts_5 q_families_6 q_generations_7 q_stories_8 q_splits_9 q_boilings_10 q_fizzles_11 H locs ls hf hG hl; exact no_e hf
    | succ fu ih =>
      intro x1 x2 x3 q_heats_4 q_starts_5 q_families_6 q_generations_7 q_stories_8 q_splits_9 q_boilings_10 q_fizzles_11 H locs ls hf hG hl
      rw [f_X2_react_L6_s] at hf
      refine lv_iload_n hx hb dX2_react_6 rfl (lv_at hl 3 rfl) ?_
      refine lv_ldc (v := nI 1000000) hx hb F.2.2.2.1 (show (Cond.constant RX2 80 (nI 1000000)).before args s = true from k0) dX2_react_7 ?_
      refine lv_icmp_ge (tgt := 63) hx hb dX2_react_9 (by decide) (fun c12 => ?_) (fun c12 => ?_)
      · have hf := it_e c12 hf
        exact hk_6 x1 q_heats_4 q_starts_5 q_families_6 q_generations_7 q_stories_8 q_splits_9 q_boilings_10 q_fizzles_11 _ _ ls hf hG (lv_sub hl [1] rfl)
      · have hf := if_e c12 hf
        refine lv_iload_n hx hb dX2_react_12 rfl (lv_at hl 2 rfl) ?_
        refine lv_aload_n hx hb dX2_react_13 rfl (lv_at hl 0 rfl) ?_
        obtain ⟨r13, h14, hf⟩ := bd1_e hf
        refine k_Wi F hK hA hG (c_X2_words l D y a H.size Fu q_settings q_letters q_heats_4 q_starts_5 q_families_6 q_generations_7 q_tally q_stories_8 q_nextFamily q_splits_9 q_boilings_10 q_fizzles_11 r13 h14) (cwV 0 F.2.2.2.2 gX2_react_X2_words rfl rfl rfl (by decide +kernel) ⟨Nat.le_of_ble_eq_true rfl, Nat.le_of_ble_eq_true rfl⟩) 0 rfl rfl rfl rfl rfl hl.1 (Nat.le_of_ble_eq_true rfl) dX2_react_14 ⟨Nat.le_refl 0, Nat.le_refl 0⟩ (fun H locs hG => ?_)
        refine lv_icmp_ge (tgt := 63) hx hb dX2_react_17 (by decide) (fun c15 => ?_) (fun c15 => ?_)
        · have hf := it_e c15 hf
          exact hk_6 x1 q_heats_4 q_starts_5 q_families_6 q_generations_7 q_stories_8 q_splits_9 q_boilings_10 q_fizzles_11 _ _ ls hf hG (lv_sub hl [1] rfl)
        · have hf := if_e c15 hf
          refine lv_aload_n hx hb dX2_react_20 rfl (lv_at hl 0 rfl) ?_
          refine w_get2 F hK hG k2 0 rfl 2 (by decide) k1 rfl dX2_react_21 ?_
          refine lv_iload_n hx hb dX2_react_24 rfl (lv_at hl 2 rfl) ?_
          obtain ⟨g16, hf⟩ := gd_e hf
          refine w_iald F hK hG 3 rfl g16 dX2_react_25 ?_
          refine lv_aload_n hx hb dX2_react_26 rfl (lv_at hl 0 rfl) ?_
          refine w_get2 F hK hG k2 0 rfl 0 (by decide) k3 rfl dX2_react_27 ?_
          refine lv_iconst (v := nI 0) hx hb dX2_react_30 rfl ?_
          refine w_ialdk F hK hG 1 rfl (Nat.le_of_ble_eq_true rfl) (Nat.le_of_ble_eq_true rfl) dX2_react_31 ?_
          obtain ⟨j37, ej37, hf⟩ := jn_e hf
          have hj37 : ∀ (v27 : Int32) (v28 : Int32) (q_heats_29 : Ar) (q_starts_30 : Ar) (q_families_31 : Ar) (q_generations_32 : Ar) (q_stories_33 : Int32) (q_splits_34 : Int32) (q_boilings_35 : Int32) (q_fizzles_36 : Int32) (H : Heap) (locs : List Loc) (ls : Array Slot), j37 v27 v28 q_heats_29 q_starts_30 q_families_31 q_generations_32 q_stories_33 q_splits_34 q_boilings_35 q_fizzles_36 = some (ro, q_heats_o, q_starts_o, q_families_o, q_generations_o, q_stories_o, q_splits_o, q_boilings_o, q_fizzles_o) → GG D A s.heap (w_X2 y a q_settings q_letters q_heats_29 q_starts_30 q_families_31 q_generations_32 q_tally q_stories_33 q_nextFamily q_splits_34 q_boilings_35 q_fizzles_36) H locs → lv_has ls 4 [(0, .ref (a 0)), (1, .int v27), (2, .int v28), (3, .int x3)] → W p l e (RM 3 87) s m args below meth c H locs 0 0 Q (F0 m 57 ls []) := by
            intro v27 v28 q_heats_29 q_starts_30 q_families_31 q_generations_32 q_stories_33 q_splits_34 q_boilings_35 q_fizzles_36 H locs ls hf hG hl
            rw [ej37] at hf
            refine lv_iinc (v := x3 + (nI 1)) (lv' := [(3, .int (x3 + (nI 1))), (0, .ref (a 0)), (1, .int v27), (2, .int v28)]) hx hb dX2_react_57 hl (k := 3) rfl rfl (by decide) rfl (fun ls hl => ?_)
            refine lv_goto (tgt := 6) hx hb dX2_react_60 (by decide) ?_
            exact ih v27 v28 (x3 + (nI 1)) q_heats_29 q_starts_30 q_families_31 q_generations_32 q_stories_33 q_splits_34 q_boilings_35 q_fizzles_36 _ _ ls hf hG (lv_sub hl [1, 2, 3, 0] rfl)
          refine lv_icmp_ge (tgt := 41) hx hb dX2_react_32 (by decide) (fun c17 => ?_) (fun c17 => ?_)
          · have hf := it_e c17 hf
            refine lv_aload_n hx hb dX2_react_41 rfl (lv_at hl 0 rfl) ?_
            refine lv_iload_n hx hb dX2_react_42 rfl (lv_at hl 2 rfl) ?_
            obtain ⟨q_heats_18, q_starts_19, q_families_20, q_generations_21, q_stories_22, q_splits_23, q_boilings_24, q_fizzles_25, h26, hf⟩ := bd8_e hf
            refine k_Wv F hK hA hG (c_X2_reactAt l D y a H.size Fu q_settings q_letters q_heats_4 q_starts_5 q_families_6 q_generations_7 q_tally q_stories_8 q_nextFamily q_splits_9 q_boilings_10 q_fizzles_11 x2 q_heats_18 q_starts_19 q_families_20 q_generations_21 q_stories_22 q_splits_23 q_boilings_24 q_fizzles_25 h26) (cwV 1 F.2.2.2.2 gX2_react_X2_reactAt rfl rfl rfl (by decide +kernel) ⟨Nat.le_of_ble_eq_true rfl, Nat.le_of_ble_eq_true rfl⟩) 0 rfl rfl rfl rfl rfl hl.1 (Nat.le_of_ble_eq_true rfl) dX2_react_43 ⟨Nat.le_refl 0, Nat.le_refl 0⟩ (fun H locs hG => ?_)
            refine lv_iinc (v := x1 + (nI 1)) (lv' := [(1, .int (x1 + (nI 1))), (0, .ref (a 0)), (2, .int x2), (3, .int x3)]) hx hb dX2_react_46 hl (k := 1) rfl rfl (by decide) rfl (fun ls hl => ?_)
            refine lv_iconst (v := nI 0) hx hb dX2_react_49 rfl ?_
            refine lv_iload_n hx hb dX2_react_50 rfl (lv_at hl 2 rfl) ?_
            refine lv_iconst (v := nI 1) hx hb dX2_react_51 rfl ?_
            refine lv_isub hx hb dX2_react_52 ?_
            refine w_max F hl.1 k4 k5 k6 k7 ⟨Nat.le_of_ble_eq_true rfl, Nat.le_of_ble_eq_true rfl⟩ ⟨Nat.le_refl 0, Nat.le_refl 0⟩ dX2_react_53 ?_
            refine lv_istore_n (lv' := [(2, .int (jmax (nI 0) (x2 - (nI 1)))), (1, .int (x1 + (nI 1))), (0, .ref (a 0)), (3, .int x3)]) hx hb dX2_react_56 rfl hl (by decide) rfl (fun ls hl => ?_)
            exact hj37 (x1 + (nI 1)) (jmax (nI 0) (x2 - (nI 1))) q_heats_18 q_starts_19 q_families_20 q_generations_21 q_stories_22 q_splits_23 q_boilings_24 q_fizzles_25 _ _ ls hf hG (lv_sub hl [2, 1, 0, 3] rfl)
          · have hf := if_e c17 hf
            refine lv_iinc (v := x2 + (nI 1)) (lv' := [(2, .int (x2 + (nI 1))), (0, .ref (a 0)), (1, .int x1), (3, .int x3)]) hx hb dX2_react_35 hl (k := 2) rfl rfl (by decide) rfl (fun ls hl => ?_)
            refine lv_goto (tgt := 57) hx hb dX2_react_38 (by decide) ?_
            exact hj37 x1 (x2 + (nI 1)) q_heats_4 q_starts_5 q_families_6 q_generations_7 q_stories_8 q_splits_9 q_boilings_10 q_fizzles_11 _ _ ls hf hG (lv_sub hl [1, 2, 0, 3] rfl)
  exact hL6 Fu (nI 0) (nI 0) (nI 0) q_heats q_starts q_families q_generations q_stories q_splits q_boilings q_fizzles _ _ ls hf hG (lv_sub hl [3, 2, 1, 0] rfl)
set_option maxHeartbeats 1000000 in
set_option maxRecDepth 100000 in
theorem c_X2_heatBetween (l : Launch) (D : va_G) (y : Nat → ClassId) (a : Nat → Nat) (sz : Nat) (Fu : Nat) (q_settings : Ar) (q_letters : Ar) (q_heats : Ar) (q_starts : Ar) (q_families : Ar) (q_generations : Ar) (q_tally : Ar) (q_stories : Int32) (q_nextFamily : Int32) (q_splits : Int32) (q_boilings : Int32) (q_fizzles : Int32) (p1 : Int32) (p2 : Int32) (ro : Int32) (hf : f_X2_heatBetween Fu q_heats p1 p2 = some (ro)) : MI l yX2_heatBetween wsX2_heatBetween 0 0 [.ref (a 0), .int p1, .int p2] D y (w_X2 y a q_settings q_letters q_heats q_starts q_families q_generations q_tally q_stories q_nextFamily q_splits q_boilings q_fizzles) sz ro (w_X2 y a q_settings q_letters q_heats q_starts q_families q_generations q_tally q_stories q_nextFamily q_splits q_boilings q_fizzles) := by
  refine M_i (cc := cX2_heatBetween) (maxL := 5) (own := RX2) (by decide) rfl rfl (Nat.le_of_ble_eq_true rfl) ?_
  intro p e s m args below meth c A Q F hK hA H locs hG hret ls hl
  have hx := F.1
  have hb := F.2.1
  have hl : lv_has ls 5 [(0, .ref (a 0)), (1, .int p1), (2, .int p2)] := hl
  have k0 := F.2.2.2.2 (.fieldLink RX2 18 "HeatedStories$Shelf" "heats" "[I") (List.mem_of_getElem? (i := 1) rfl)
  have k1 : ∀ w ∈ wsX20, w ∈ wsX2_heatBetween := (fun w h => List.mem_cons_of_mem _ (List.mem_append_right _ (h)))
  unfold f_X2_heatBetween at hf
  refine lv_iconst (v := nI 0) hx hb dX2_heatBetween_0 rfl ?_
  refine lv_istore_n (lv' := [(3, .int (nI 0)), (0, .ref (a 0)), (1, .int p1), (2, .int p2)]) hx hb dX2_heatBetween_1 rfl hl (by decide) rfl (fun ls hl => ?_)
  refine lv_iload_n hx hb dX2_heatBetween_2 rfl (lv_at hl 2 rfl) ?_
  refine lv_istore (lv' := [(4, .int p1), (3, .int (nI 0)), (0, .ref (a 0)), (1, .int p1), (2, .int p2)]) hx hb dX2_heatBetween_3 hl (by decide) rfl (fun ls hl => ?_)
  obtain ⟨k_5, ek_5, hf⟩ := jn_e hf
  have hk_5 : ∀ (v6 : Int32) (H : Heap) (locs : List Loc) (ls : Array Slot), k_5 v6 = some (ro) → GG D A s.heap (w_X2 y a q_settings q_letters q_heats q_starts q_families q_generations q_tally q_stories q_nextFamily q_splits q_boilings q_fizzles) H locs → lv_has ls 5 [(3, .int v6)] → W p l e (RM 0 0) s m args below meth c H locs 0 0 Q (F0 m 27 ls []) := by
    intro v6 H locs ls hf hG hl
    rw [ek_5] at hf
    refine lv_iload_n hx hb dX2_heatBetween_27 rfl (lv_at hl 0 rfl) ?_
    have hf := so_e hf
    have e0 : v6 = ro := hf
    exact hret _ _ _ _ _ e0 hG dX2_heatBetween_28
  have hL5 : ∀ (fu : Nat) (x1 : Int32) (x2 : Int32) (H : Heap) (locs : List Loc) (ls : Array Slot), f_X2_heatBetween_L5 Fu k_5 q_heats p2 fu x1 x2 = some (ro) → GG D A s.heap (w_X2 y a q_settings q_letters q_heats q_starts q_families q_generations q_tally q_stories q_nextFamily q_splits q_boilings q_fizzles) H locs → lv_has ls 5 [(0, .ref (a 0)), (2, .int p2), (3, .int x1), (4, .int x2)] → W p l e (RM 0 0) s m args below meth c H locs 0 0 Q (F0 m 5 ls []) := by
    intro fu
    induction fu with
    | zero => intro x1 x2 H locs ls hf hG hl; exact no_e hf
    | succ fu ih =>
      intro x1 x2 H locs ls hf hG hl
      rw [f_X2_heatBetween_L5_s] at hf
      refine lv_iload hx hb dX2_heatBetween_5 (lv_at hl 3 rfl) ?_
      refine lv_iload_n hx hb dX2_heatBetween_7 rfl (lv_at hl 1 rfl) ?_
      refine lv_icmp_ge (tgt := 27) hx hb dX2_heatBetween_8 (by decide) (fun c3 => ?_) (fun c3 => ?_)
      · have hf := it_e c3 hf
        exact hk_5 x1 _ _ ls hf hG (lv_sub hl [2] rfl)
      · have hf := if_e c3 hf
        refine lv_iload_n hx hb dX2_heatBetween_11 rfl (lv_at hl 2 rfl) ?_
        refine lv_aload_n hx hb dX2_heatBetween_12 rfl (lv_at hl 0 rfl) ?_
        refine w_get2 F hK hG k1 0 rfl 2 (by decide) k0 rfl dX2_heatBetween_13 ?_
        refine lv_iload hx hb dX2_heatBetween_16 (lv_at hl 3 rfl) ?_
        obtain ⟨g4, hf⟩ := gd_e hf
        refine w_iald F hK hG 3 rfl g4 dX2_heatBetween_18 ?_
        refine lv_iadd hx hb dX2_heatBetween_19 ?_
        obtain ⟨v5, ev5, hf⟩ := nm_o hf
        refine w_nm ev5 ?_
        refine lv_istore_n (lv' := [(3, .int v5), (0, .ref (a 0)), (2, .int p2), (4, .int x2)]) hx hb dX2_heatBetween_20 rfl hl (by decide) rfl (fun ls hl => ?_)
        refine lv_iinc (v := x2 + (nI 1)) (lv' := [(4, .int (x2 + (nI 1))), (3, .int v5), (0, .ref (a 0)), (2, .int p2)]) hx hb dX2_heatBetween_21 hl (k := 3) rfl rfl (by decide) rfl (fun ls hl => ?_)
        refine lv_goto (tgt := 5) hx hb dX2_heatBetween_24 (by decide) ?_
        exact ih v5 (x2 + (nI 1)) _ _ ls hf hG (lv_sub hl [2, 3, 1, 0] rfl)
  exact hL5 Fu (nI 0) p1 _ _ ls hf hG (lv_sub hl [2, 4, 1, 0] rfl)
set_option maxHeartbeats 1000000 in
set_option maxRecDepth 100000 in
theorem c_X2_heatOf (l : Launch) (D : va_G) (y : Nat → ClassId) (a : Nat → Nat) (sz : Nat) (Fu : Nat) (q_settings : Ar) (q_letters : Ar) (q_heats : Ar) (q_starts : Ar) (q_families : Ar) (q_generations : Ar) (q_tally : Ar) (q_stories : Int32) (q_nextFamily : Int32) (q_splits : Int32) (q_boilings : Int32) (q_fizzles : Int32) (p1 : Int32) (ro : Int32) (hf : f_X2_heatOf Fu q_heats q_starts p1 = some (ro)) : MI l yX2_heatOf wsX2_heatOf 1 24 [.ref (a 0), .int p1] D y (w_X2 y a q_settings q_letters q_heats q_starts q_families q_generations q_tally q_stories q_nextFamily q_splits q_boilings q_fizzles) sz ro (w_X2 y a q_settings q_letters q_heats q_starts q_families q_generations q_tally q_stories q_nextFamily q_splits q_boilings q_fizzles) := by
  refine M_i (cc := cX2_heatOf) (maxL := 2) (own := RX2) (by decide) rfl rfl (Nat.le_of_ble_eq_true rfl) ?_
  intro p e s m args below meth c A Q F hK hA H locs hG hret ls hl
  have hx := F.1
  have hb := F.2.1
  have hl : lv_has ls 2 [(0, .ref (a 0)), (1, .int p1)] := hl
  have k0 := F.2.2.2.2 (.fieldLink RX2 21 "HeatedStories$Shelf" "starts" "[I") (List.mem_of_getElem? (i := 1) rfl)
  have k1 : ∀ w ∈ wsX20, w ∈ wsX2_heatOf := (fun w h => List.mem_cons_of_mem _ (List.mem_append_right _ (h)))
  unfold f_X2_heatOf at hf
  refine lv_aload_n hx hb dX2_heatOf_0 rfl (lv_at hl 0 rfl) ?_
  refine lv_aload_n hx hb dX2_heatOf_1 rfl (lv_at hl 0 rfl) ?_
  refine w_get2 F hK hG k1 0 rfl 3 (by decide) k0 rfl dX2_heatOf_2 ?_
  refine lv_iload_n hx hb dX2_heatOf_5 rfl (lv_at hl 1 rfl) ?_
  obtain ⟨g1, hf⟩ := gd_e hf
  refine w_iald F hK hG 4 rfl g1 dX2_heatOf_6 ?_
  refine lv_aload_n hx hb dX2_heatOf_7 rfl (lv_at hl 0 rfl) ?_
  refine w_get2 F hK hG k1 0 rfl 3 (by decide) k0 rfl dX2_heatOf_8 ?_
  refine lv_iload_n hx hb dX2_heatOf_11 rfl (lv_at hl 1 rfl) ?_
  refine lv_iconst (v := nI 1) hx hb dX2_heatOf_12 rfl ?_
  refine lv_iadd hx hb dX2_heatOf_13 ?_
  obtain ⟨g2, hf⟩ := gd_e hf
  refine w_iald F hK hG 4 rfl g2 dX2_heatOf_14 ?_
  obtain ⟨r3, h4, hf⟩ := bd1_e hf
  refine k_Wi F hK hA hG (c_X2_heatBetween l D y a H.size Fu q_settings q_letters q_heats q_starts q_families q_generations q_tally q_stories q_nextFamily q_splits q_boilings q_fizzles (q_starts (p1).toNatClampNeg) (q_starts (p1 + (nI 1)).toNatClampNeg) r3 h4) (cwV 2 F.2.2.2.2 gX2_heatOf_X2_heatBetween rfl rfl rfl (by decide +kernel) ⟨Nat.le_of_ble_eq_true rfl, Nat.le_of_ble_eq_true rfl⟩) 0 rfl rfl rfl rfl rfl hl.1 (Nat.le_of_ble_eq_true rfl) dX2_heatOf_15 ⟨Nat.le_refl 0, Nat.le_refl 0⟩ (fun H locs hG => ?_)
  have hf := so_e hf
  have e0 : r3 = ro := hf
  exact hret _ _ _ _ _ e0 hG dX2_heatOf_18
set_option maxHeartbeats 1000000 in
set_option maxRecDepth 100000 in
theorem c_X2_heatOfAll (l : Launch) (D : va_G) (y : Nat → ClassId) (a : Nat → Nat) (sz : Nat) (Fu : Nat) (q_settings : Ar) (q_letters : Ar) (q_heats : Ar) (q_starts : Ar) (q_families : Ar) (q_generations : Ar) (q_tally : Ar) (q_stories : Int32) (q_nextFamily : Int32) (q_splits : Int32) (q_boilings : Int32) (q_fizzles : Int32) (ro : Int32) (hf : f_X2_heatOfAll Fu q_heats q_starts q_stories = some (ro)) : MI l yX2_heatOfAll wsX2_heatOfAll 1 24 [.ref (a 0)] D y (w_X2 y a q_settings q_letters q_heats q_starts q_families q_generations q_tally q_stories q_nextFamily q_splits q_boilings q_fizzles) sz ro (w_X2 y a q_settings q_letters q_heats q_starts q_families q_generations q_tally q_stories q_nextFamily q_splits q_boilings q_fizzles) := by
  refine M_i (cc := cX2_heatOfAll) (maxL := 1) (own := RX2) (by decide) rfl rfl (Nat.le_of_ble_eq_true rfl) ?_
  intro p e s m args below meth c A Q F hK hA H locs hG hret ls hl
  have hx := F.1
  have hb := F.2.1
  have hl : lv_has ls 1 [(0, .ref (a 0))] := hl
  unfold f_X2_heatOfAll at hf
  refine lv_aload_n hx hb dX2_heatOfAll_0 rfl (lv_at hl 0 rfl) ?_
  refine lv_iconst (v := nI 0) hx hb dX2_heatOfAll_1 rfl ?_
  refine lv_aload_n hx hb dX2_heatOfAll_2 rfl (lv_at hl 0 rfl) ?_
  obtain ⟨r1, h2, hf⟩ := bd1_e hf
  refine k_Wi F hK hA hG (c_X2_words l D y a H.size Fu q_settings q_letters q_heats q_starts q_families q_generations q_tally q_stories q_nextFamily q_splits q_boilings q_fizzles r1 h2) (cwV 0 F.2.2.2.2 gX2_heatOfAll_X2_words rfl rfl rfl (by decide +kernel) ⟨Nat.le_of_ble_eq_true rfl, Nat.le_of_ble_eq_true rfl⟩) 0 rfl rfl rfl rfl rfl hl.1 (Nat.le_of_ble_eq_true rfl) dX2_heatOfAll_3 ⟨Nat.le_refl 0, Nat.le_refl 0⟩ (fun H locs hG => ?_)
  obtain ⟨r3, h4, hf⟩ := bd1_e hf
  refine k_Wi F hK hA hG (c_X2_heatBetween l D y a H.size Fu q_settings q_letters q_heats q_starts q_families q_generations q_tally q_stories q_nextFamily q_splits q_boilings q_fizzles (nI 0) r1 r3 h4) (cwV 2 F.2.2.2.2 gX2_heatOfAll_X2_heatBetween rfl rfl rfl (by decide +kernel) ⟨Nat.le_of_ble_eq_true rfl, Nat.le_of_ble_eq_true rfl⟩) 0 rfl rfl rfl rfl rfl hl.1 (Nat.le_of_ble_eq_true rfl) dX2_heatOfAll_6 ⟨Nat.le_refl 0, Nat.le_refl 0⟩ (fun H locs hG => ?_)
  have hf := so_e hf
  have e0 : r3 = ro := hf
  exact hret _ _ _ _ _ e0 hG dX2_heatOfAll_9
set_option maxHeartbeats 1000000 in
set_option maxRecDepth 100000 in
theorem c_X2_timesBetween (l : Launch) (D : va_G) (y : Nat → ClassId) (a : Nat → Nat) (sz : Nat) (Fu : Nat) (q_settings : Ar) (q_letters : Ar) (q_heats : Ar) (q_starts : Ar) (q_families : Ar) (q_generations : Ar) (q_tally : Ar) (q_stories : Int32) (q_nextFamily : Int32) (q_splits : Int32) (q_boilings : Int32) (q_fizzles : Int32) (p1 : Int32) (p2 : Int32) (p3 : Int32) (ro : Int32) (hf : f_X2_timesBetween Fu q_letters p1 p2 p3 = some (ro)) : MI l yX2_timesBetween wsX2_timesBetween 0 0 [.ref (a 0), .int p1, .int p2, .int p3] D y (w_X2 y a q_settings q_letters q_heats q_starts q_families q_generations q_tally q_stories q_nextFamily q_splits q_boilings q_fizzles) sz ro (w_X2 y a q_settings q_letters q_heats q_starts q_families q_generations q_tally q_stories q_nextFamily q_splits q_boilings q_fizzles) := by
  refine M_i (cc := cX2_timesBetween) (maxL := 6) (own := RX2) (by decide) rfl rfl (Nat.le_of_ble_eq_true rfl) ?_
  intro p e s m args below meth c A Q F hK hA H locs hG hret ls hl
  have hx := F.1
  have hb := F.2.1
  have hl : lv_has ls 6 [(0, .ref (a 0)), (1, .int p1), (2, .int p2), (3, .int p3)] := hl
  have k0 := F.2.2.2.2 (.fieldLink RX2 15 "HeatedStories$Shelf" "letters" "[I") (List.mem_of_getElem? (i := 1) rfl)
  have k1 : ∀ w ∈ wsX20, w ∈ wsX2_timesBetween := (fun w h => List.mem_cons_of_mem _ (List.mem_append_right _ (h)))
  unfold f_X2_timesBetween at hf
  refine lv_iconst (v := nI 0) hx hb dX2_timesBetween_0 rfl ?_
  refine lv_istore (lv' := [(4, .int (nI 0)), (0, .ref (a 0)), (1, .int p1), (2, .int p2), (3, .int p3)]) hx hb dX2_timesBetween_1 hl (by decide) rfl (fun ls hl => ?_)
  refine lv_iload_n hx hb dX2_timesBetween_3 rfl (lv_at hl 2 rfl) ?_
  refine lv_istore (lv' := [(5, .int p1), (4, .int (nI 0)), (0, .ref (a 0)), (1, .int p1), (2, .int p2), (3, .int p3)]) hx hb dX2_timesBetween_4 hl (by decide) rfl (fun ls hl => ?_)
  obtain ⟨k_6, ek_6, hf⟩ := jn_e hf
  have hk_6 : ∀ (v7 : Int32) (H : Heap) (locs : List Loc) (ls : Array Slot), k_6 v7 = some (ro) → GG D A s.heap (w_X2 y a q_settings q_letters q_heats q_starts q_families q_generations q_tally q_stories q_nextFamily q_splits q_boilings q_fizzles) H locs → lv_has ls 6 [(4, .int v7)] → W p l e (RM 0 0) s m args below meth c H locs 0 0 Q (F0 m 39 ls []) := by
    intro v7 H locs ls hf hG hl
    rw [ek_6] at hf
    refine lv_iload hx hb dX2_timesBetween_39 (lv_at hl 0 rfl) ?_
    have hf := so_e hf
    have e0 : v7 = ro := hf
    exact hret _ _ _ _ _ e0 hG dX2_timesBetween_41
  have hL6 : ∀ (fu : Nat) (x1 : Int32) (x2 : Int32) (H : Heap) (locs : List Loc) (ls : Array Slot), f_X2_timesBetween_L6 Fu k_6 q_letters p2 p3 fu x1 x2 = some (ro) → GG D A s.heap (w_X2 y a q_settings q_letters q_heats q_starts q_families q_generations q_tally q_stories q_nextFamily q_splits q_boilings q_fizzles) H locs → lv_has ls 6 [(0, .ref (a 0)), (2, .int p2), (3, .int p3), (4, .int x1), (5, .int x2)] → W p l e (RM 0 0) s m args below meth c H locs 0 0 Q (F0 m 6 ls []) := by
    intro fu
    induction fu with
    | zero => intro x1 x2 H locs ls hf hG hl; exact no_e hf
    | succ fu ih =>
      intro x1 x2 H locs ls hf hG hl
      rw [f_X2_timesBetween_L6_s] at hf
      refine lv_iload hx hb dX2_timesBetween_6 (lv_at hl 4 rfl) ?_
      refine lv_iload_n hx hb dX2_timesBetween_8 rfl (lv_at hl 1 rfl) ?_
      refine lv_icmp_ge (tgt := 39) hx hb dX2_timesBetween_9 (by decide) (fun c3 => ?_) (fun c3 => ?_)
      · have hf := it_e c3 hf
        exact hk_6 x1 _ _ ls hf hG (lv_sub hl [3] rfl)
      · have hf := if_e c3 hf
        refine lv_iload hx hb dX2_timesBetween_12 (lv_at hl 3 rfl) ?_
        refine lv_aload_n hx hb dX2_timesBetween_14 rfl (lv_at hl 0 rfl) ?_
        refine w_get2 F hK hG k1 0 rfl 1 (by decide) k0 rfl dX2_timesBetween_15 ?_
        refine lv_iload hx hb dX2_timesBetween_18 (lv_at hl 4 rfl) ?_
        obtain ⟨g4, hf⟩ := gd_e hf
        refine w_iald F hK hG 2 rfl g4 dX2_timesBetween_20 ?_
        refine lv_iload_n hx hb dX2_timesBetween_21 rfl (lv_at hl 2 rfl) ?_
        obtain ⟨v6, ev6, hf⟩ := nm_o hf
        have hJ : ∀ (ls : Array Slot), lv_has ls 6 [(0, .ref (a 0)), (2, .int p2), (3, .int p3), (5, .int x2)] → W p l e (RM 0 0) s m args below meth c H locs 0 0 Q (F0 m 30 ls [.int v6, .int x1]) := by
          intro ls hl
          refine lv_iadd hx hb dX2_timesBetween_30 ?_
          refine lv_istore (lv' := [(4, .int (x1 + v6)), (0, .ref (a 0)), (2, .int p2), (3, .int p3), (5, .int x2)]) hx hb dX2_timesBetween_31 hl (by decide) rfl (fun ls hl => ?_)
          refine lv_iinc (v := x2 + (nI 1)) (lv' := [(5, .int (x2 + (nI 1))), (4, .int (x1 + v6)), (0, .ref (a 0)), (2, .int p2), (3, .int p3)]) hx hb dX2_timesBetween_33 hl (k := 4) rfl rfl (by decide) rfl (fun ls hl => ?_)
          refine lv_goto (tgt := 6) hx hb dX2_timesBetween_36 (by decide) ?_
          exact ih (x1 + v6) (x2 + (nI 1)) _ _ ls hf hG (lv_sub hl [2, 3, 4, 1, 0] rfl)
        refine lv_icmp_ne (tgt := 29) hx hb dX2_timesBetween_22 (by decide) (fun c5 => ?_) (fun c5 => ?_)
        · refine lv_iconst (v := nI 0) hx hb dX2_timesBetween_29 rfl ?_
          have qv6 := (ev6.trans (if_neg c5))
          subst qv6
          exact hJ ls (lv_sub hl [0, 1, 2, 4] rfl)
        · refine lv_iconst (v := nI 1) hx hb dX2_timesBetween_25 rfl ?_
          refine lv_goto (tgt := 30) hx hb dX2_timesBetween_26 (by decide) ?_
          have qv6 := (ev6.trans (if_pos c5))
          subst qv6
          exact hJ ls (lv_sub hl [0, 1, 2, 4] rfl)
  exact hL6 Fu (nI 0) p1 _ _ ls hf hG (lv_sub hl [2, 4, 5, 1, 0] rfl)
set_option maxHeartbeats 1000000 in
set_option maxRecDepth 100000 in
theorem c_X2_timesIn (l : Launch) (D : va_G) (y : Nat → ClassId) (a : Nat → Nat) (sz : Nat) (Fu : Nat) (q_settings : Ar) (q_letters : Ar) (q_heats : Ar) (q_starts : Ar) (q_families : Ar) (q_generations : Ar) (q_tally : Ar) (q_stories : Int32) (q_nextFamily : Int32) (q_splits : Int32) (q_boilings : Int32) (q_fizzles : Int32) (p1 : Int32) (p2 : Int32) (ro : Int32) (hf : f_X2_timesIn Fu q_letters q_starts p1 p2 = some (ro)) : MI l yX2_timesIn wsX2_timesIn 1 25 [.ref (a 0), .int p1, .int p2] D y (w_X2 y a q_settings q_letters q_heats q_starts q_families q_generations q_tally q_stories q_nextFamily q_splits q_boilings q_fizzles) sz ro (w_X2 y a q_settings q_letters q_heats q_starts q_families q_generations q_tally q_stories q_nextFamily q_splits q_boilings q_fizzles) := by
  refine M_i (cc := cX2_timesIn) (maxL := 3) (own := RX2) (by decide) rfl rfl (Nat.le_of_ble_eq_true rfl) ?_
  intro p e s m args below meth c A Q F hK hA H locs hG hret ls hl
  have hx := F.1
  have hb := F.2.1
  have hl : lv_has ls 3 [(0, .ref (a 0)), (1, .int p1), (2, .int p2)] := hl
  have k0 := F.2.2.2.2 (.fieldLink RX2 21 "HeatedStories$Shelf" "starts" "[I") (List.mem_of_getElem? (i := 1) rfl)
  have k1 : ∀ w ∈ wsX20, w ∈ wsX2_timesIn := (fun w h => List.mem_cons_of_mem _ (List.mem_append_right _ (h)))
  unfold f_X2_timesIn at hf
  refine lv_aload_n hx hb dX2_timesIn_0 rfl (lv_at hl 0 rfl) ?_
  refine lv_aload_n hx hb dX2_timesIn_1 rfl (lv_at hl 0 rfl) ?_
  refine w_get2 F hK hG k1 0 rfl 3 (by decide) k0 rfl dX2_timesIn_2 ?_
  refine lv_iload_n hx hb dX2_timesIn_5 rfl (lv_at hl 1 rfl) ?_
  obtain ⟨g1, hf⟩ := gd_e hf
  refine w_iald F hK hG 4 rfl g1 dX2_timesIn_6 ?_
  refine lv_aload_n hx hb dX2_timesIn_7 rfl (lv_at hl 0 rfl) ?_
  refine w_get2 F hK hG k1 0 rfl 3 (by decide) k0 rfl dX2_timesIn_8 ?_
  refine lv_iload_n hx hb dX2_timesIn_11 rfl (lv_at hl 1 rfl) ?_
  refine lv_iconst (v := nI 1) hx hb dX2_timesIn_12 rfl ?_
  refine lv_iadd hx hb dX2_timesIn_13 ?_
  obtain ⟨g2, hf⟩ := gd_e hf
  refine w_iald F hK hG 4 rfl g2 dX2_timesIn_14 ?_
  refine lv_iload_n hx hb dX2_timesIn_15 rfl (lv_at hl 2 rfl) ?_
  obtain ⟨r3, h4, hf⟩ := bd1_e hf
  refine k_Wi F hK hA hG (c_X2_timesBetween l D y a H.size Fu q_settings q_letters q_heats q_starts q_families q_generations q_tally q_stories q_nextFamily q_splits q_boilings q_fizzles (q_starts (p1).toNatClampNeg) (q_starts (p1 + (nI 1)).toNatClampNeg) p2 r3 h4) (cwV 3 F.2.2.2.2 gX2_timesIn_X2_timesBetween rfl rfl rfl (by decide +kernel) ⟨Nat.le_of_ble_eq_true rfl, Nat.le_of_ble_eq_true rfl⟩) 0 rfl rfl rfl rfl rfl hl.1 (Nat.le_of_ble_eq_true rfl) dX2_timesIn_16 ⟨Nat.le_refl 0, Nat.le_refl 0⟩ (fun H locs hG => ?_)
  have hf := so_e hf
  have e0 : r3 = ro := hf
  exact hret _ _ _ _ _ e0 hG dX2_timesIn_19
set_option maxHeartbeats 1000000 in
set_option maxRecDepth 100000 in
theorem c_X2_timesInAll (l : Launch) (D : va_G) (y : Nat → ClassId) (a : Nat → Nat) (sz : Nat) (Fu : Nat) (q_settings : Ar) (q_letters : Ar) (q_heats : Ar) (q_starts : Ar) (q_families : Ar) (q_generations : Ar) (q_tally : Ar) (q_stories : Int32) (q_nextFamily : Int32) (q_splits : Int32) (q_boilings : Int32) (q_fizzles : Int32) (p1 : Int32) (ro : Int32) (hf : f_X2_timesInAll Fu q_letters q_starts q_stories p1 = some (ro)) : MI l yX2_timesInAll wsX2_timesInAll 1 25 [.ref (a 0), .int p1] D y (w_X2 y a q_settings q_letters q_heats q_starts q_families q_generations q_tally q_stories q_nextFamily q_splits q_boilings q_fizzles) sz ro (w_X2 y a q_settings q_letters q_heats q_starts q_families q_generations q_tally q_stories q_nextFamily q_splits q_boilings q_fizzles) := by
  refine M_i (cc := cX2_timesInAll) (maxL := 2) (own := RX2) (by decide) rfl rfl (Nat.le_of_ble_eq_true rfl) ?_
  intro p e s m args below meth c A Q F hK hA H locs hG hret ls hl
  have hx := F.1
  have hb := F.2.1
  have hl : lv_has ls 2 [(0, .ref (a 0)), (1, .int p1)] := hl
  unfold f_X2_timesInAll at hf
  refine lv_aload_n hx hb dX2_timesInAll_0 rfl (lv_at hl 0 rfl) ?_
  refine lv_iconst (v := nI 0) hx hb dX2_timesInAll_1 rfl ?_
  refine lv_aload_n hx hb dX2_timesInAll_2 rfl (lv_at hl 0 rfl) ?_
  obtain ⟨r1, h2, hf⟩ := bd1_e hf
  refine k_Wi F hK hA hG (c_X2_words l D y a H.size Fu q_settings q_letters q_heats q_starts q_families q_generations q_tally q_stories q_nextFamily q_splits q_boilings q_fizzles r1 h2) (cwV 0 F.2.2.2.2 gX2_timesInAll_X2_words rfl rfl rfl (by decide +kernel) ⟨Nat.le_of_ble_eq_true rfl, Nat.le_of_ble_eq_true rfl⟩) 0 rfl rfl rfl rfl rfl hl.1 (Nat.le_of_ble_eq_true rfl) dX2_timesInAll_3 ⟨Nat.le_refl 0, Nat.le_refl 0⟩ (fun H locs hG => ?_)
  refine lv_iload_n hx hb dX2_timesInAll_6 rfl (lv_at hl 1 rfl) ?_
  obtain ⟨r3, h4, hf⟩ := bd1_e hf
  refine k_Wi F hK hA hG (c_X2_timesBetween l D y a H.size Fu q_settings q_letters q_heats q_starts q_families q_generations q_tally q_stories q_nextFamily q_splits q_boilings q_fizzles (nI 0) r1 p1 r3 h4) (cwV 3 F.2.2.2.2 gX2_timesInAll_X2_timesBetween rfl rfl rfl (by decide +kernel) ⟨Nat.le_of_ble_eq_true rfl, Nat.le_of_ble_eq_true rfl⟩) 0 rfl rfl rfl rfl rfl hl.1 (Nat.le_of_ble_eq_true rfl) dX2_timesInAll_7 ⟨Nat.le_refl 0, Nat.le_refl 0⟩ (fun H locs hG => ?_)
  have hf := so_e hf
  have e0 : r3 = ro := hf
  exact hret _ _ _ _ _ e0 hG dX2_timesInAll_10
set_option maxHeartbeats 1000000 in
set_option maxRecDepth 100000 in
theorem c_X2_tallyOf (l : Launch) (D : va_G) (y : Nat → ClassId) (a : Nat → Nat) (sz : Nat) (Fu : Nat) (q_settings : Ar) (q_letters : Ar) (q_heats : Ar) (q_starts : Ar) (q_families : Ar) (q_generations : Ar) (q_tally : Ar) (q_stories : Int32) (q_nextFamily : Int32) (q_splits : Int32) (q_boilings : Int32) (q_fizzles : Int32) (p1 : Int32) (q_tally_o : Ar) (hf : f_X2_tallyOf Fu q_letters q_starts q_tally p1 = some (q_tally_o)) : MV l yX2_tallyOf wsX2_tallyOf 1 23 [.ref (a 0), .int p1] D y (w_X2 y a q_settings q_letters q_heats q_starts q_families q_generations q_tally q_stories q_nextFamily q_splits q_boilings q_fizzles) sz (w_X2 y a q_settings q_letters q_heats q_starts q_families q_generations q_tally_o q_stories q_nextFamily q_splits q_boilings q_fizzles) := by
  refine M_v (cc := cX2_tallyOf) (maxL := 3) (own := RX2) (by decide) rfl rfl (Nat.le_of_ble_eq_true rfl) ?_
  intro p e s m args below meth c A Q F hK hA H locs hG hret ls hl
  have hx := F.1
  have hb := F.2.1
  have hl : lv_has ls 3 [(0, .ref (a 0)), (1, .int p1)] := hl
  have k0 := F.2.2.2.2 (.fieldLink RX2 30 "HeatedStories$Shelf" "tally" "[I") (List.mem_of_getElem? (i := 1) rfl)
  have k1 : ∀ w ∈ wsX20, w ∈ wsX2_tallyOf := (fun w h => List.mem_cons_of_mem _ (List.mem_append_right _ (h)))
  have k2 := F.2.2.2.2 (.fieldLink RX2 21 "HeatedStories$Shelf" "starts" "[I") (List.mem_of_getElem? (i := 2) rfl)
  have k3 := F.2.2.2.2 (.fieldLink RX2 15 "HeatedStories$Shelf" "letters" "[I") (List.mem_of_getElem? (i := 3) rfl)
  unfold f_X2_tallyOf at hf
  refine lv_aload_n hx hb dX2_tallyOf_0 rfl (lv_at hl 0 rfl) ?_
  refine w_get2 F hK hG k1 0 rfl 6 (by decide) k0 rfl dX2_tallyOf_1 ?_
  refine lv_iconst (v := nI 0) hx hb dX2_tallyOf_4 rfl ?_
  refine k_Sv F hK hA hG (wc := [(a 7, .inl (y 0, 26, .inl q_tally))]) (wc' := [(a 7, .inl (y 0, 26, .inl (fun _ => (nI 0))))]) (c_J7_fill l D y (a 7) 26 H.size q_tally (nI 0)) (va_cwS 2 F.2.2.2.2 gX2_tallyOf_J7_fill_53178 rfl rfl rfl (by decide +kernel) ⟨Nat.le_of_ble_eq_true rfl, Nat.le_of_ble_eq_true rfl⟩) [7] rfl rfl rfl (w_X2 y a q_settings q_letters q_heats q_starts q_families q_generations (fun _ => (nI 0)) q_stories q_nextFamily q_splits q_boilings q_fizzles) rfl rfl rfl hl.1 (Nat.le_of_ble_eq_true rfl) dX2_tallyOf_5 ⟨Nat.le_refl 0, Nat.le_refl 0⟩ (fun H locs hG => ?_)
  refine lv_aload_n hx hb dX2_tallyOf_8 rfl (lv_at hl 0 rfl) ?_
  refine w_get2 F hK hG k1 0 rfl 3 (by decide) k2 rfl dX2_tallyOf_9 ?_
  refine lv_iload_n hx hb dX2_tallyOf_12 rfl (lv_at hl 1 rfl) ?_
  obtain ⟨g1, hf⟩ := gd_e hf
  refine w_iald F hK hG 4 rfl g1 dX2_tallyOf_13 ?_
  refine lv_istore_n (lv' := [(2, .int (q_starts (p1).toNatClampNeg)), (0, .ref (a 0)), (1, .int p1)]) hx hb dX2_tallyOf_14 rfl hl (by decide) rfl (fun ls hl => ?_)
  obtain ⟨k_15, ek_15, hf⟩ := jn_e hf
  have hk_15 : ∀ (q_tally_10 : Ar) (H : Heap) (locs : List Loc) (ls : Array Slot), k_15 q_tally_10 = some (q_tally_o) → GG D A s.heap (w_X2 y a q_settings q_letters q_heats q_starts q_families q_generations q_tally_10 q_stories q_nextFamily q_splits q_boilings q_fizzles) H locs → lv_has ls 3 [] → W p l e (RM 1 23) s m args below meth c H locs 0 0 Q (F0 m 48 ls []) := by
    intro q_tally_10 H locs ls hf hG hl
    rw [ek_15] at hf
    have hf := so_e hf
    have e0 : q_tally_10 = q_tally_o := hf
    exact hret _ _ _ _ (by rw [← e0]; exact hG) dX2_tallyOf_48
  have hL15 : ∀ (fu : Nat) (x2 : Int32) (q_tally_3 : Ar) (H : Heap) (locs : List Loc) (ls : Array Slot), f_X2_tallyOf_L15 Fu k_15 q_letters q_starts p1 fu x2 q_tally_3 = some (q_tally_o) → GG D A s.heap (w_X2 y a q_settings q_letters q_heats q_starts q_families q_generations q_tally_3 q_stories q_nextFamily q_splits q_boilings q_fizzles) H locs → lv_has ls 3 [(0, .ref (a 0)), (1, .int p1), (2, .int x2)] → W p l e (RM 1 23) s m args below meth c H locs 0 0 Q (F0 m 15 ls []) := by
    intro fu
    induction fu with
    | zero => intro x2 q_tally_3 H locs ls hf hG hl; exact no_e hf
    | succ fu ih =>
      intro x2 q_tally_3 H locs ls hf hG hl
      rw [f_X2_tallyOf_L15_s] at hf
      refine lv_iload_n hx hb dX2_tallyOf_15 rfl (lv_at hl 2 rfl) ?_
      refine lv_aload_n hx hb dX2_tallyOf_16 rfl (lv_at hl 0 rfl) ?_
      refine w_get2 F hK hG k1 0 rfl 3 (by decide) k2 rfl dX2_tallyOf_17 ?_
      refine lv_iload_n hx hb dX2_tallyOf_20 rfl (lv_at hl 1 rfl) ?_
      refine lv_iconst (v := nI 1) hx hb dX2_tallyOf_21 rfl ?_
      refine lv_iadd hx hb dX2_tallyOf_22 ?_
      obtain ⟨g4, hf⟩ := gd_e hf
      refine w_iald F hK hG 4 rfl g4 dX2_tallyOf_23 ?_
      refine lv_icmp_ge (tgt := 48) hx hb dX2_tallyOf_24 (by decide) (fun c5 => ?_) (fun c5 => ?_)
      · have hf := it_e c5 hf
        exact hk_15 q_tally_3 _ _ ls hf hG (lv_sub hl [] rfl)
      · have hf := if_e c5 hf
        refine lv_aload_n hx hb dX2_tallyOf_27 rfl (lv_at hl 0 rfl) ?_
        refine w_get2 F hK hG k1 0 rfl 6 (by decide) k0 rfl dX2_tallyOf_28 ?_
        refine lv_aload_n hx hb dX2_tallyOf_31 rfl (lv_at hl 0 rfl) ?_
        refine w_get2 F hK hG k1 0 rfl 1 (by decide) k3 rfl dX2_tallyOf_32 ?_
        refine lv_iload_n hx hb dX2_tallyOf_35 rfl (lv_at hl 2 rfl) ?_
        obtain ⟨g6, hf⟩ := gd_e hf
        refine w_iald F hK hG 2 rfl g6 dX2_tallyOf_36 ?_
        refine lv_dup2_11 hx hb dX2_tallyOf_37 rfl rfl ?_
        obtain ⟨g7, hf⟩ := gd_e hf
        refine w_iald F hK hG 7 rfl g7 dX2_tallyOf_38 ?_
        refine lv_iconst (v := nI 1) hx hb dX2_tallyOf_39 rfl ?_
        refine lv_iadd hx hb dX2_tallyOf_40 ?_
        obtain ⟨g8, hf⟩ := gd_e hf
        refine w_iast F hK hG 7 rfl g8 (w_X2 y a q_settings q_letters q_heats q_starts q_families q_generations (upd q_tally_3 (q_letters (x2).toNatClampNeg).toNatClampNeg ((q_tally_3 (q_letters (x2).toNatClampNeg).toNatClampNeg) + (nI 1))) q_stories q_nextFamily q_splits q_boilings q_fizzles) rfl dX2_tallyOf_41 (fun H locs hG => ?_)
        obtain ⟨q_tally_9, eq_tally_9, hf⟩ := nm_o hf
        rw [← eq_tally_9] at hG
        refine lv_iinc (v := x2 + (nI 1)) (lv' := [(2, .int (x2 + (nI 1))), (0, .ref (a 0)), (1, .int p1)]) hx hb dX2_tallyOf_42 hl (k := 2) rfl rfl (by decide) rfl (fun ls hl => ?_)
        refine lv_goto (tgt := 15) hx hb dX2_tallyOf_45 (by decide) ?_
        exact ih (x2 + (nI 1)) q_tally_9 _ _ ls hf hG (lv_sub hl [1, 2, 0] rfl)
  exact hL15 Fu (q_starts (p1).toNatClampNeg) (fun _ => (nI 0)) _ _ ls hf hG (lv_sub hl [1, 2, 0] rfl)
set_option maxHeartbeats 1000000 in
set_option maxRecDepth 100000 in
theorem c_X2_themeOf (l : Launch) (D : va_G) (y : Nat → ClassId) (a : Nat → Nat) (sz : Nat) (Fu : Nat) (q_settings : Ar) (q_letters : Ar) (q_heats : Ar) (q_starts : Ar) (q_families : Ar) (q_generations : Ar) (q_tally : Ar) (q_stories : Int32) (q_nextFamily : Int32) (q_splits : Int32) (q_boilings : Int32) (q_fizzles : Int32) (p1 : Int32) (ro : Int32) (q_tally_o : Ar) (hf : f_X2_themeOf Fu q_letters q_starts q_tally p1 = some (ro, q_tally_o)) : MI l yX2_themeOf wsX2_themeOf 2 45 [.ref (a 0), .int p1] D y (w_X2 y a q_settings q_letters q_heats q_starts q_families q_generations q_tally q_stories q_nextFamily q_splits q_boilings q_fizzles) sz ro (w_X2 y a q_settings q_letters q_heats q_starts q_families q_generations q_tally_o q_stories q_nextFamily q_splits q_boilings q_fizzles) := by
  refine M_i (cc := cX2_themeOf) (maxL := 4) (own := RX2) (by decide) rfl rfl (Nat.le_of_ble_eq_true rfl) ?_
  intro p e s m args below meth c A Q F hK hA H locs hG hret ls hl
  have hx := F.1
  have hb := F.2.1
  have hl : lv_has ls 4 [(0, .ref (a 0)), (1, .int p1)] := hl
  have k0 := F.2.2.2.2 (.fieldLink RX2 30 "HeatedStories$Shelf" "tally" "[I") (List.mem_of_getElem? (i := 1) rfl)
  have k1 : ∀ w ∈ wsX20, w ∈ wsX2_themeOf := (fun w h => List.mem_cons_of_mem _ (List.mem_append_right _ (h)))
  unfold f_X2_themeOf at hf
  refine lv_aload_n hx hb dX2_themeOf_0 rfl (lv_at hl 0 rfl) ?_
  refine lv_iload_n hx hb dX2_themeOf_1 rfl (lv_at hl 1 rfl) ?_
  obtain ⟨q_tally_1, h2, hf⟩ := bd1_e hf
  refine k_Wv F hK hA hG (c_X2_tallyOf l D y a H.size Fu q_settings q_letters q_heats q_starts q_families q_generations q_tally q_stories q_nextFamily q_splits q_boilings q_fizzles p1 q_tally_1 h2) (cwV 1 F.2.2.2.2 gX2_themeOf_X2_tallyOf rfl rfl rfl (by decide +kernel) ⟨Nat.le_of_ble_eq_true rfl, Nat.le_of_ble_eq_true rfl⟩) 0 rfl rfl rfl rfl rfl hl.1 (Nat.le_of_ble_eq_true rfl) dX2_themeOf_2 ⟨Nat.le_refl 0, Nat.le_refl 0⟩ (fun H locs hG => ?_)
  refine lv_iconst (v := nI 0) hx hb dX2_themeOf_5 rfl ?_
  refine lv_istore_n (lv' := [(2, .int (nI 0)), (0, .ref (a 0)), (1, .int p1)]) hx hb dX2_themeOf_6 rfl hl (by decide) rfl (fun ls hl => ?_)
  refine lv_iconst (v := nI 1) hx hb dX2_themeOf_7 rfl ?_
  refine lv_istore_n (lv' := [(3, .int (nI 1)), (2, .int (nI 0)), (0, .ref (a 0)), (1, .int p1)]) hx hb dX2_themeOf_8 rfl hl (by decide) rfl (fun ls hl => ?_)
  obtain ⟨k_9, ek_9, hf⟩ := jn_e hf
  have hk_9 : ∀ (v10 : Int32) (H : Heap) (locs : List Loc) (ls : Array Slot), k_9 v10 = some (ro, q_tally_o) → GG D A s.heap (w_X2 y a q_settings q_letters q_heats q_starts q_families q_generations q_tally_1 q_stories q_nextFamily q_splits q_boilings q_fizzles) H locs → lv_has ls 4 [(2, .int v10)] → W p l e (RM 2 45) s m args below meth c H locs 0 0 Q (F0 m 42 ls []) := by
    intro v10 H locs ls hf hG hl
    rw [ek_9] at hf
    refine lv_iload_n hx hb dX2_themeOf_42 rfl (lv_at hl 0 rfl) ?_
    have hf := so_e hf
    have e0 : v10 = ro := congrArg (fun z => z.1) hf
    have e1 : q_tally_1 = q_tally_o := congrArg (fun z => z.2) hf
    exact hret _ _ _ _ _ e0 (by rw [← e1]; exact hG) dX2_themeOf_43
  have hL9 : ∀ (fu : Nat) (x3 : Int32) (x4 : Int32) (H : Heap) (locs : List Loc) (ls : Array Slot), f_X2_themeOf_L9 Fu k_9 q_tally_1 fu x3 x4 = some (ro, q_tally_o) → GG D A s.heap (w_X2 y a q_settings q_letters q_heats q_starts q_families q_generations q_tally_1 q_stories q_nextFamily q_splits q_boilings q_fizzles) H locs → lv_has ls 4 [(0, .ref (a 0)), (2, .int x3), (3, .int x4)] → W p l e (RM 2 45) s m args below meth c H locs 0 0 Q (F0 m 9 ls []) := by
    intro fu
    induction fu with
    | zero => intro x3 x4 H locs ls hf hG hl; exact no_e hf
    | succ fu ih =>
      intro x3 x4 H locs ls hf hG hl
      rw [f_X2_themeOf_L9_s] at hf
      refine lv_iload_n hx hb dX2_themeOf_9 rfl (lv_at hl 2 rfl) ?_
      refine lv_bipush (v := nI 26) hx hb dX2_themeOf_10 rfl ?_
      refine lv_icmp_ge (tgt := 42) hx hb dX2_themeOf_12 (by decide) (fun c5 => ?_) (fun c5 => ?_)
      · have hf := it_e c5 hf
        exact hk_9 x3 _ _ ls hf hG (lv_sub hl [1] rfl)
      · have hf := if_e c5 hf
        refine lv_aload_n hx hb dX2_themeOf_15 rfl (lv_at hl 0 rfl) ?_
        refine w_get2 F hK hG k1 0 rfl 6 (by decide) k0 rfl dX2_themeOf_16 ?_
        refine lv_iload_n hx hb dX2_themeOf_19 rfl (lv_at hl 2 rfl) ?_
        obtain ⟨g6, hf⟩ := gd_e hf
        refine w_iald F hK hG 7 rfl g6 dX2_themeOf_20 ?_
        refine lv_aload_n hx hb dX2_themeOf_21 rfl (lv_at hl 0 rfl) ?_
        refine w_get2 F hK hG k1 0 rfl 6 (by decide) k0 rfl dX2_themeOf_22 ?_
        refine lv_iload_n hx hb dX2_themeOf_25 rfl (lv_at hl 1 rfl) ?_
        obtain ⟨g7, hf⟩ := gd_e hf
        refine w_iald F hK hG 7 rfl g7 dX2_themeOf_26 ?_
        obtain ⟨v9, ev9, hf⟩ := nm_o hf
        have hJ : ∀ (ls : Array Slot), lv_has ls 4 [(0, .ref (a 0)), (3, .int x4)] → W p l e (RM 2 45) s m args below meth c H locs 0 0 Q (F0 m 35 ls [.int v9]) := by
          intro ls hl
          refine lv_istore_n (lv' := [(2, .int v9), (0, .ref (a 0)), (3, .int x4)]) hx hb dX2_themeOf_35 rfl hl (by decide) rfl (fun ls hl => ?_)
          refine lv_iinc (v := x4 + (nI 1)) (lv' := [(3, .int (x4 + (nI 1))), (2, .int v9), (0, .ref (a 0))]) hx hb dX2_themeOf_36 hl (k := 2) rfl rfl (by decide) rfl (fun ls hl => ?_)
          refine lv_goto (tgt := 9) hx hb dX2_themeOf_39 (by decide) ?_
          exact ih v9 (x4 + (nI 1)) _ _ ls hf hG (lv_sub hl [2, 1, 0] rfl)
        refine lv_icmp_le (tgt := 34) hx hb dX2_themeOf_27 (by decide) (fun c8 => ?_) (fun c8 => ?_)
        · refine lv_iload_n hx hb dX2_themeOf_34 rfl (lv_at hl 1 rfl) ?_
          have qv9 := (ev9.trans (if_pos c8))
          subst qv9
          exact hJ ls (lv_sub hl [0, 2] rfl)
        · refine lv_iload_n hx hb dX2_themeOf_30 rfl (lv_at hl 2 rfl) ?_
          refine lv_goto (tgt := 35) hx hb dX2_themeOf_31 (by decide) ?_
          have qv9 := (ev9.trans (if_neg c8))
          subst qv9
          exact hJ ls (lv_sub hl [0, 2] rfl)
  exact hL9 Fu (nI 0) (nI 1) _ _ ls hf hG (lv_sub hl [2, 1, 0] rfl)
set_option maxHeartbeats 1000000 in
set_option maxRecDepth 100000 in
theorem c_X2_unlikeLettersOf (l : Launch) (D : va_G) (y : Nat → ClassId) (a : Nat → Nat) (sz : Nat) (Fu : Nat) (q_settings : Ar) (q_letters : Ar) (q_heats : Ar) (q_starts : Ar) (q_families : Ar) (q_generations : Ar) (q_tally : Ar) (q_stories : Int32) (q_nextFamily : Int32) (q_splits : Int32) (q_boilings : Int32) (q_fizzles : Int32) (p1 : Int32) (ro : Int32) (q_tally_o : Ar) (hf : f_X2_unlikeLettersOf Fu q_letters q_starts q_tally p1 = some (ro, q_tally_o)) : MI l yX2_unlikeLettersOf wsX2_unlikeLettersOf 2 45 [.ref (a 0), .int p1] D y (w_X2 y a q_settings q_letters q_heats q_starts q_families q_generations q_tally q_stories q_nextFamily q_splits q_boilings q_fizzles) sz ro (w_X2 y a q_settings q_letters q_heats q_starts q_families q_generations q_tally_o q_stories q_nextFamily q_splits q_boilings q_fizzles) := by
  refine M_i (cc := cX2_unlikeLettersOf) (maxL := 4) (own := RX2) (by decide) rfl rfl (Nat.le_of_ble_eq_true rfl) ?_
  intro p e s m args below meth c A Q F hK hA H locs hG hret ls hl
  have hx := F.1
  have hb := F.2.1
  have hl : lv_has ls 4 [(0, .ref (a 0)), (1, .int p1)] := hl
  have k0 := F.2.2.2.2 (.fieldLink RX2 30 "HeatedStories$Shelf" "tally" "[I") (List.mem_of_getElem? (i := 1) rfl)
  have k1 : ∀ w ∈ wsX20, w ∈ wsX2_unlikeLettersOf := (fun w h => List.mem_cons_of_mem _ (List.mem_append_right _ (h)))
  unfold f_X2_unlikeLettersOf at hf
  refine lv_aload_n hx hb dX2_unlikeLettersOf_0 rfl (lv_at hl 0 rfl) ?_
  refine lv_iload_n hx hb dX2_unlikeLettersOf_1 rfl (lv_at hl 1 rfl) ?_
  obtain ⟨q_tally_1, h2, hf⟩ := bd1_e hf
  refine k_Wv F hK hA hG (c_X2_tallyOf l D y a H.size Fu q_settings q_letters q_heats q_starts q_families q_generations q_tally q_stories q_nextFamily q_splits q_boilings q_fizzles p1 q_tally_1 h2) (cwV 1 F.2.2.2.2 gX2_unlikeLettersOf_X2_tallyOf rfl rfl rfl (by decide +kernel) ⟨Nat.le_of_ble_eq_true rfl, Nat.le_of_ble_eq_true rfl⟩) 0 rfl rfl rfl rfl rfl hl.1 (Nat.le_of_ble_eq_true rfl) dX2_unlikeLettersOf_2 ⟨Nat.le_refl 0, Nat.le_refl 0⟩ (fun H locs hG => ?_)
  refine lv_iconst (v := nI 0) hx hb dX2_unlikeLettersOf_5 rfl ?_
  refine lv_istore_n (lv' := [(2, .int (nI 0)), (0, .ref (a 0)), (1, .int p1)]) hx hb dX2_unlikeLettersOf_6 rfl hl (by decide) rfl (fun ls hl => ?_)
  refine lv_iconst (v := nI 0) hx hb dX2_unlikeLettersOf_7 rfl ?_
  refine lv_istore_n (lv' := [(3, .int (nI 0)), (2, .int (nI 0)), (0, .ref (a 0)), (1, .int p1)]) hx hb dX2_unlikeLettersOf_8 rfl hl (by decide) rfl (fun ls hl => ?_)
  obtain ⟨k_9, ek_9, hf⟩ := jn_e hf
  have hk_9 : ∀ (v9 : Int32) (H : Heap) (locs : List Loc) (ls : Array Slot), k_9 v9 = some (ro, q_tally_o) → GG D A s.heap (w_X2 y a q_settings q_letters q_heats q_starts q_families q_generations q_tally_1 q_stories q_nextFamily q_splits q_boilings q_fizzles) H locs → lv_has ls 4 [(2, .int v9)] → W p l e (RM 2 45) s m args below meth c H locs 0 0 Q (F0 m 38 ls []) := by
    intro v9 H locs ls hf hG hl
    rw [ek_9] at hf
    refine lv_iload_n hx hb dX2_unlikeLettersOf_38 rfl (lv_at hl 0 rfl) ?_
    have hf := so_e hf
    have e0 : v9 = ro := congrArg (fun z => z.1) hf
    have e1 : q_tally_1 = q_tally_o := congrArg (fun z => z.2) hf
    exact hret _ _ _ _ _ e0 (by rw [← e1]; exact hG) dX2_unlikeLettersOf_39
  have hL9 : ∀ (fu : Nat) (x3 : Int32) (x4 : Int32) (H : Heap) (locs : List Loc) (ls : Array Slot), f_X2_unlikeLettersOf_L9 Fu k_9 q_tally_1 fu x3 x4 = some (ro, q_tally_o) → GG D A s.heap (w_X2 y a q_settings q_letters q_heats q_starts q_families q_generations q_tally_1 q_stories q_nextFamily q_splits q_boilings q_fizzles) H locs → lv_has ls 4 [(0, .ref (a 0)), (2, .int x3), (3, .int x4)] → W p l e (RM 2 45) s m args below meth c H locs 0 0 Q (F0 m 9 ls []) := by
    intro fu
    induction fu with
    | zero => intro x3 x4 H locs ls hf hG hl; exact no_e hf
    | succ fu ih =>
      intro x3 x4 H locs ls hf hG hl
      rw [f_X2_unlikeLettersOf_L9_s] at hf
      refine lv_iload_n hx hb dX2_unlikeLettersOf_9 rfl (lv_at hl 2 rfl) ?_
      refine lv_bipush (v := nI 26) hx hb dX2_unlikeLettersOf_10 rfl ?_
      refine lv_icmp_ge (tgt := 38) hx hb dX2_unlikeLettersOf_12 (by decide) (fun c5 => ?_) (fun c5 => ?_)
      · have hf := it_e c5 hf
        exact hk_9 x3 _ _ ls hf hG (lv_sub hl [1] rfl)
      · have hf := if_e c5 hf
        refine lv_iload_n hx hb dX2_unlikeLettersOf_15 rfl (lv_at hl 1 rfl) ?_
        refine lv_aload_n hx hb dX2_unlikeLettersOf_16 rfl (lv_at hl 0 rfl) ?_
        refine w_get2 F hK hG k1 0 rfl 6 (by decide) k0 rfl dX2_unlikeLettersOf_17 ?_
        refine lv_iload_n hx hb dX2_unlikeLettersOf_20 rfl (lv_at hl 2 rfl) ?_
        obtain ⟨g6, hf⟩ := gd_e hf
        refine w_iald F hK hG 7 rfl g6 dX2_unlikeLettersOf_21 ?_
        obtain ⟨v8, ev8, hf⟩ := nm_o hf
        have hJ : ∀ (ls : Array Slot), lv_has ls 4 [(0, .ref (a 0)), (3, .int x4)] → W p l e (RM 2 45) s m args below meth c H locs 0 0 Q (F0 m 30 ls [.int v8, .int x3]) := by
          intro ls hl
          refine lv_iadd hx hb dX2_unlikeLettersOf_30 ?_
          refine lv_istore_n (lv' := [(2, .int (x3 + v8)), (0, .ref (a 0)), (3, .int x4)]) hx hb dX2_unlikeLettersOf_31 rfl hl (by decide) rfl (fun ls hl => ?_)
          refine lv_iinc (v := x4 + (nI 1)) (lv' := [(3, .int (x4 + (nI 1))), (2, .int (x3 + v8)), (0, .ref (a 0))]) hx hb dX2_unlikeLettersOf_32 hl (k := 2) rfl rfl (by decide) rfl (fun ls hl => ?_)
          refine lv_goto (tgt := 9) hx hb dX2_unlikeLettersOf_35 (by decide) ?_
          exact ih (x3 + v8) (x4 + (nI 1)) _ _ ls hf hG (lv_sub hl [2, 1, 0] rfl)
        refine lv_if_le (tgt := 29) hx hb dX2_unlikeLettersOf_22 (by decide) (fun c7 => ?_) (fun c7 => ?_)
        · refine lv_iconst (v := nI 0) hx hb dX2_unlikeLettersOf_29 rfl ?_
          have qv8 := (ev8.trans (if_pos c7))
          subst qv8
          exact hJ ls (lv_sub hl [0, 2] rfl)
        · refine lv_iconst (v := nI 1) hx hb dX2_unlikeLettersOf_25 rfl ?_
          refine lv_goto (tgt := 30) hx hb dX2_unlikeLettersOf_26 (by decide) ?_
          have qv8 := (ev8.trans (if_neg c7))
          subst qv8
          exact hJ ls (lv_sub hl [0, 2] rfl)
  exact hL9 Fu (nI 0) (nI 0) _ _ ls hf hG (lv_sub hl [2, 1, 0] rfl)
set_option maxHeartbeats 1000000 in
set_option maxRecDepth 100000 in
theorem c_X2_hottestOf (l : Launch) (D : va_G) (y : Nat → ClassId) (a : Nat → Nat) (sz : Nat) (Fu : Nat) (q_settings : Ar) (q_letters : Ar) (q_heats : Ar) (q_starts : Ar) (q_families : Ar) (q_generations : Ar) (q_tally : Ar) (q_stories : Int32) (q_nextFamily : Int32) (q_splits : Int32) (q_boilings : Int32) (q_fizzles : Int32) (p1 : Int32) (ro : Int32) (hf : f_X2_hottestOf Fu q_heats q_starts p1 = some (ro)) : MI l yX2_hottestOf wsX2_hottestOf 0 0 [.ref (a 0), .int p1] D y (w_X2 y a q_settings q_letters q_heats q_starts q_families q_generations q_tally q_stories q_nextFamily q_splits q_boilings q_fizzles) sz ro (w_X2 y a q_settings q_letters q_heats q_starts q_families q_generations q_tally q_stories q_nextFamily q_splits q_boilings q_fizzles) := by
  refine M_i (cc := cX2_hottestOf) (maxL := 4) (own := RX2) (by decide) rfl rfl (Nat.le_of_ble_eq_true rfl) ?_
  intro p e s m args below meth c A Q F hK hA H locs hG hret ls hl
  have hx := F.1
  have hb := F.2.1
  have hl : lv_has ls 4 [(0, .ref (a 0)), (1, .int p1)] := hl
  have k0 := F.2.2.2.2 (.fieldLink RX2 21 "HeatedStories$Shelf" "starts" "[I") (List.mem_of_getElem? (i := 1) rfl)
  have k1 : ∀ w ∈ wsX20, w ∈ wsX2_hottestOf := (fun w h => List.mem_cons_of_mem _ (List.mem_append_right _ (h)))
  have k2 := F.2.2.2.2 (.fieldLink RX2 18 "HeatedStories$Shelf" "heats" "[I") (List.mem_of_getElem? (i := 2) rfl)
  unfold f_X2_hottestOf at hf
  refine lv_aload_n hx hb dX2_hottestOf_0 rfl (lv_at hl 0 rfl) ?_
  refine w_get2 F hK hG k1 0 rfl 3 (by decide) k0 rfl dX2_hottestOf_1 ?_
  refine lv_iload_n hx hb dX2_hottestOf_4 rfl (lv_at hl 1 rfl) ?_
  obtain ⟨g1, hf⟩ := gd_e hf
  refine w_iald F hK hG 4 rfl g1 dX2_hottestOf_5 ?_
  refine lv_istore_n (lv' := [(2, .int (q_starts (p1).toNatClampNeg)), (0, .ref (a 0)), (1, .int p1)]) hx hb dX2_hottestOf_6 rfl hl (by decide) rfl (fun ls hl => ?_)
  refine lv_aload_n hx hb dX2_hottestOf_7 rfl (lv_at hl 1 rfl) ?_
  refine w_get2 F hK hG k1 0 rfl 3 (by decide) k0 rfl dX2_hottestOf_8 ?_
  refine lv_iload_n hx hb dX2_hottestOf_11 rfl (lv_at hl 2 rfl) ?_
  obtain ⟨g2, hf⟩ := gd_e hf
  refine w_iald F hK hG 4 rfl g2 dX2_hottestOf_12 ?_
  refine lv_istore_n (lv' := [(3, .int (q_starts (p1).toNatClampNeg)), (2, .int (q_starts (p1).toNatClampNeg)), (0, .ref (a 0)), (1, .int p1)]) hx hb dX2_hottestOf_13 rfl hl (by decide) rfl (fun ls hl => ?_)
  obtain ⟨k_14, ek_14, hf⟩ := jn_e hf
  have hk_14 : ∀ (v11 : Int32) (H : Heap) (locs : List Loc) (ls : Array Slot), k_14 v11 = some (ro) → GG D A s.heap (w_X2 y a q_settings q_letters q_heats q_starts q_families q_generations q_tally q_stories q_nextFamily q_splits q_boilings q_fizzles) H locs → lv_has ls 4 [(0, .ref (a 0)), (1, .int p1), (2, .int v11)] → W p l e (RM 0 0) s m args below meth c H locs 0 0 Q (F0 m 53 ls []) := by
    intro v11 H locs ls hf hG hl
    rw [ek_14] at hf
    refine lv_iload_n hx hb dX2_hottestOf_53 rfl (lv_at hl 2 rfl) ?_
    refine lv_aload_n hx hb dX2_hottestOf_54 rfl (lv_at hl 0 rfl) ?_
    refine w_get2 F hK hG k1 0 rfl 3 (by decide) k0 rfl dX2_hottestOf_55 ?_
    refine lv_iload_n hx hb dX2_hottestOf_58 rfl (lv_at hl 1 rfl) ?_
    obtain ⟨g12, hf⟩ := gd_e hf
    refine w_iald F hK hG 4 rfl g12 dX2_hottestOf_59 ?_
    refine lv_isub hx hb dX2_hottestOf_60 ?_
    have hf := so_e hf
    have e0 : (v11 - (q_starts (p1).toNatClampNeg)) = ro := hf
    exact hret _ _ _ _ _ e0 hG dX2_hottestOf_61
  have hL14 : ∀ (fu : Nat) (x3 : Int32) (x4 : Int32) (H : Heap) (locs : List Loc) (ls : Array Slot), f_X2_hottestOf_L14 Fu k_14 q_heats q_starts p1 fu x3 x4 = some (ro) → GG D A s.heap (w_X2 y a q_settings q_letters q_heats q_starts q_families q_generations q_tally q_stories q_nextFamily q_splits q_boilings q_fizzles) H locs → lv_has ls 4 [(0, .ref (a 0)), (1, .int p1), (2, .int x3), (3, .int x4)] → W p l e (RM 0 0) s m args below meth c H locs 0 0 Q (F0 m 14 ls []) := by
    intro fu
    induction fu with
    | zero => intro x3 x4 H locs ls hf hG hl; exact no_e hf
    | succ fu ih =>
      intro x3 x4 H locs ls hf hG hl
      rw [f_X2_hottestOf_L14_s] at hf
      refine lv_iload_n hx hb dX2_hottestOf_14 rfl (lv_at hl 3 rfl) ?_
      refine lv_aload_n hx hb dX2_hottestOf_15 rfl (lv_at hl 0 rfl) ?_
      refine w_get2 F hK hG k1 0 rfl 3 (by decide) k0 rfl dX2_hottestOf_16 ?_
      refine lv_iload_n hx hb dX2_hottestOf_19 rfl (lv_at hl 1 rfl) ?_
      refine lv_iconst (v := nI 1) hx hb dX2_hottestOf_20 rfl ?_
      refine lv_iadd hx hb dX2_hottestOf_21 ?_
      obtain ⟨g5, hf⟩ := gd_e hf
      refine w_iald F hK hG 4 rfl g5 dX2_hottestOf_22 ?_
      refine lv_icmp_ge (tgt := 53) hx hb dX2_hottestOf_23 (by decide) (fun c6 => ?_) (fun c6 => ?_)
      · have hf := it_e c6 hf
        exact hk_14 x3 _ _ ls hf hG (lv_sub hl [0, 1, 2] rfl)
      · have hf := if_e c6 hf
        refine lv_aload_n hx hb dX2_hottestOf_26 rfl (lv_at hl 0 rfl) ?_
        refine w_get2 F hK hG k1 0 rfl 2 (by decide) k2 rfl dX2_hottestOf_27 ?_
        refine lv_iload_n hx hb dX2_hottestOf_30 rfl (lv_at hl 3 rfl) ?_
        obtain ⟨g7, hf⟩ := gd_e hf
        refine w_iald F hK hG 3 rfl g7 dX2_hottestOf_31 ?_
        refine lv_aload_n hx hb dX2_hottestOf_32 rfl (lv_at hl 0 rfl) ?_
        refine w_get2 F hK hG k1 0 rfl 2 (by decide) k2 rfl dX2_hottestOf_33 ?_
        refine lv_iload_n hx hb dX2_hottestOf_36 rfl (lv_at hl 2 rfl) ?_
        obtain ⟨g8, hf⟩ := gd_e hf
        refine w_iald F hK hG 3 rfl g8 dX2_hottestOf_37 ?_
        obtain ⟨v10, ev10, hf⟩ := nm_o hf
        have hJ : ∀ (ls : Array Slot), lv_has ls 4 [(0, .ref (a 0)), (1, .int p1), (3, .int x4)] → W p l e (RM 0 0) s m args below meth c H locs 0 0 Q (F0 m 46 ls [.int v10]) := by
          intro ls hl
          refine lv_istore_n (lv' := [(2, .int v10), (0, .ref (a 0)), (1, .int p1), (3, .int x4)]) hx hb dX2_hottestOf_46 rfl hl (by decide) rfl (fun ls hl => ?_)
          refine lv_iinc (v := x4 + (nI 1)) (lv' := [(3, .int (x4 + (nI 1))), (2, .int v10), (0, .ref (a 0)), (1, .int p1)]) hx hb dX2_hottestOf_47 hl (k := 3) rfl rfl (by decide) rfl (fun ls hl => ?_)
          refine lv_goto (tgt := 14) hx hb dX2_hottestOf_50 (by decide) ?_
          exact ih v10 (x4 + (nI 1)) _ _ ls hf hG (lv_sub hl [2, 3, 1, 0] rfl)
        refine lv_icmp_le (tgt := 45) hx hb dX2_hottestOf_38 (by decide) (fun c9 => ?_) (fun c9 => ?_)
        · refine lv_iload_n hx hb dX2_hottestOf_45 rfl (lv_at hl 2 rfl) ?_
          have qv10 := (ev10.trans (if_pos c9))
          subst qv10
          exact hJ ls (lv_sub hl [0, 1, 3] rfl)
        · refine lv_iload_n hx hb dX2_hottestOf_41 rfl (lv_at hl 3 rfl) ?_
          refine lv_goto (tgt := 46) hx hb dX2_hottestOf_42 (by decide) ?_
          have qv10 := (ev10.trans (if_neg c9))
          subst qv10
          exact hJ ls (lv_sub hl [0, 1, 3] rfl)
  exact hL14 Fu (q_starts (p1).toNatClampNeg) (q_starts (p1).toNatClampNeg) _ _ ls hf hG (lv_sub hl [2, 3, 1, 0] rfl)
set_option maxHeartbeats 1000000 in
set_option maxRecDepth 100000 in
theorem c_X2_readsFromBothEnds (l : Launch) (D : va_G) (y : Nat → ClassId) (a : Nat → Nat) (sz : Nat) (Fu : Nat) (q_settings : Ar) (q_letters : Ar) (q_heats : Ar) (q_starts : Ar) (q_families : Ar) (q_generations : Ar) (q_tally : Ar) (q_stories : Int32) (q_nextFamily : Int32) (q_splits : Int32) (q_boilings : Int32) (q_fizzles : Int32) (p1 : Int32) (ro : Int32) (hf : f_X2_readsFromBothEnds Fu q_letters q_starts p1 = some (ro)) : MI l yX2_readsFromBothEnds wsX2_readsFromBothEnds 1 21 [.ref (a 0), .int p1] D y (w_X2 y a q_settings q_letters q_heats q_starts q_families q_generations q_tally q_stories q_nextFamily q_splits q_boilings q_fizzles) sz ro (w_X2 y a q_settings q_letters q_heats q_starts q_families q_generations q_tally q_stories q_nextFamily q_splits q_boilings q_fizzles) := by
  refine M_z (cc := cX2_readsFromBothEnds) (maxL := 4) (own := RX2) (by decide) rfl rfl (Nat.le_of_ble_eq_true rfl) ?_
  intro p e s m args below meth c A Q F hK hA H locs hG hret ls hl
  have hx := F.1
  have hb := F.2.1
  have hl : lv_has ls 4 [(0, .ref (a 0)), (1, .int p1)] := hl
  have k0 := F.2.2.2.2 (.fieldLink RX2 21 "HeatedStories$Shelf" "starts" "[I") (List.mem_of_getElem? (i := 1) rfl)
  have k1 : ∀ w ∈ wsX20, w ∈ wsX2_readsFromBothEnds := (fun w h => List.mem_cons_of_mem _ (List.mem_append_right _ (h)))
  have k2 := F.2.2.2.2 (.fieldLink RX2 15 "HeatedStories$Shelf" "letters" "[I") (List.mem_of_getElem? (i := 2) rfl)
  unfold f_X2_readsFromBothEnds at hf
  refine lv_aload_n hx hb dX2_readsFromBothEnds_0 rfl (lv_at hl 0 rfl) ?_
  refine w_get2 F hK hG k1 0 rfl 3 (by decide) k0 rfl dX2_readsFromBothEnds_1 ?_
  refine lv_iload_n hx hb dX2_readsFromBothEnds_4 rfl (lv_at hl 1 rfl) ?_
  refine lv_iconst (v := nI 1) hx hb dX2_readsFromBothEnds_5 rfl ?_
  refine lv_iadd hx hb dX2_readsFromBothEnds_6 ?_
  obtain ⟨g1, hf⟩ := gd_e hf
  refine w_iald F hK hG 4 rfl g1 dX2_readsFromBothEnds_7 ?_
  refine lv_iconst (v := nI 1) hx hb dX2_readsFromBothEnds_8 rfl ?_
  refine lv_isub hx hb dX2_readsFromBothEnds_9 ?_
  obtain ⟨v2, ev2, hf⟩ := nm_o hf
  refine w_nm ev2 ?_
  refine lv_istore_n (lv' := [(2, .int v2), (0, .ref (a 0)), (1, .int p1)]) hx hb dX2_readsFromBothEnds_10 rfl hl (by decide) rfl (fun ls hl => ?_)
  refine lv_iconst (v := nI 0) hx hb dX2_readsFromBothEnds_11 rfl ?_
  refine lv_istore_n (lv' := [(3, .int (nI 0)), (2, .int v2), (0, .ref (a 0)), (1, .int p1)]) hx hb dX2_readsFromBothEnds_12 rfl hl (by decide) rfl (fun ls hl => ?_)
  have hL13 : ∀ (fu : Nat) (x3 : Int32) (H : Heap) (locs : List Loc) (ls : Array Slot), f_X2_readsFromBothEnds_L13 Fu q_letters q_starts p1 v2 fu x3 = some (ro) → GG D A s.heap (w_X2 y a q_settings q_letters q_heats q_starts q_families q_generations q_tally q_stories q_nextFamily q_splits q_boilings q_fizzles) H locs → lv_has ls 4 [(0, .ref (a 0)), (1, .int p1), (2, .int v2), (3, .int x3)] → W p l e (RM 1 21) s m args below meth c H locs 0 0 Q (F0 m 13 ls []) := by
    intro fu
    induction fu with
    | zero => intro x3 H locs ls hf hG hl; exact no_e hf
    | succ fu ih =>
      intro x3 H locs ls hf hG hl
      rw [f_X2_readsFromBothEnds_L13_s] at hf
      refine lv_iload_n hx hb dX2_readsFromBothEnds_13 rfl (lv_at hl 3 rfl) ?_
      refine lv_aload_n hx hb dX2_readsFromBothEnds_14 rfl (lv_at hl 0 rfl) ?_
      refine lv_iload_n hx hb dX2_readsFromBothEnds_15 rfl (lv_at hl 1 rfl) ?_
      obtain ⟨r4, h5, hf⟩ := bd1_e hf
      refine k_Wi F hK hA hG (c_X2_sizeOf l D y a H.size Fu q_settings q_letters q_heats q_starts q_families q_generations q_tally q_stories q_nextFamily q_splits q_boilings q_fizzles p1 r4 h5) (cwV 1 F.2.2.2.2 gX2_readsFromBothEnds_X2_sizeOf rfl rfl rfl (by decide +kernel) ⟨Nat.le_of_ble_eq_true rfl, Nat.le_of_ble_eq_true rfl⟩) 0 rfl rfl rfl rfl rfl hl.1 (Nat.le_of_ble_eq_true rfl) dX2_readsFromBothEnds_16 ⟨Nat.le_refl 0, Nat.le_refl 0⟩ (fun H locs hG => ?_)
      refine lv_iconst (v := nI 2) hx hb dX2_readsFromBothEnds_19 rfl ?_
      refine lv_idiv hx hb dX2_readsFromBothEnds_20 (by decide) ?_
      refine lv_icmp_ge (tgt := 56) hx hb dX2_readsFromBothEnds_21 (by decide) (fun c6 => ?_) (fun c6 => ?_)
      · have hf := it_e c6 hf
        refine lv_iconst (v := nI 1) hx hb dX2_readsFromBothEnds_56 rfl ?_
        have hf := so_e hf
        have e0 : (nI 1) = ro := hf
        exact hret _ _ _ _ _ rfl e0 hG dX2_readsFromBothEnds_57
      · have hf := if_e c6 hf
        refine lv_aload_n hx hb dX2_readsFromBothEnds_24 rfl (lv_at hl 0 rfl) ?_
        refine w_get2 F hK hG k1 0 rfl 1 (by decide) k2 rfl dX2_readsFromBothEnds_25 ?_
        refine lv_aload_n hx hb dX2_readsFromBothEnds_28 rfl (lv_at hl 0 rfl) ?_
        refine w_get2 F hK hG k1 0 rfl 3 (by decide) k0 rfl dX2_readsFromBothEnds_29 ?_
        refine lv_iload_n hx hb dX2_readsFromBothEnds_32 rfl (lv_at hl 1 rfl) ?_
        obtain ⟨g7, hf⟩ := gd_e hf
        refine w_iald F hK hG 4 rfl g7 dX2_readsFromBothEnds_33 ?_
        refine lv_iload_n hx hb dX2_readsFromBothEnds_34 rfl (lv_at hl 3 rfl) ?_
        refine lv_iadd hx hb dX2_readsFromBothEnds_35 ?_
        obtain ⟨g8, hf⟩ := gd_e hf
        refine w_iald F hK hG 2 rfl g8 dX2_readsFromBothEnds_36 ?_
        refine lv_aload_n hx hb dX2_readsFromBothEnds_37 rfl (lv_at hl 0 rfl) ?_
        refine w_get2 F hK hG k1 0 rfl 1 (by decide) k2 rfl dX2_readsFromBothEnds_38 ?_
        refine lv_iload_n hx hb dX2_readsFromBothEnds_41 rfl (lv_at hl 2 rfl) ?_
        refine lv_iload_n hx hb dX2_readsFromBothEnds_42 rfl (lv_at hl 3 rfl) ?_
        refine lv_isub hx hb dX2_readsFromBothEnds_43 ?_
        obtain ⟨g9, hf⟩ := gd_e hf
        refine w_iald F hK hG 2 rfl g9 dX2_readsFromBothEnds_44 ?_
        refine lv_icmp_eq (tgt := 50) hx hb dX2_readsFromBothEnds_45 (by decide) (fun c10 => ?_) (fun c10 => ?_)
        · have hf := it_e c10 hf
          refine lv_iinc (v := x3 + (nI 1)) (lv' := [(3, .int (x3 + (nI 1))), (0, .ref (a 0)), (1, .int p1), (2, .int v2)]) hx hb dX2_readsFromBothEnds_50 hl (k := 3) rfl rfl (by decide) rfl (fun ls hl => ?_)
          refine lv_goto (tgt := 13) hx hb dX2_readsFromBothEnds_53 (by decide) ?_
          exact ih (x3 + (nI 1)) _ _ ls hf hG (lv_sub hl [1, 2, 3, 0] rfl)
        · have hf := if_e c10 hf
          refine lv_iconst (v := nI 0) hx hb dX2_readsFromBothEnds_48 rfl ?_
          have hf := so_e hf
          have e0 : (nI 0) = ro := hf
          exact hret _ _ _ _ _ rfl e0 hG dX2_readsFromBothEnds_49
  exact hL13 Fu (nI 0) _ _ ls hf hG (lv_sub hl [2, 3, 1, 0] rfl)
set_option maxHeartbeats 1000000 in
set_option maxRecDepth 100000 in
theorem c_X2_isFirstOfFamily (l : Launch) (D : va_G) (y : Nat → ClassId) (a : Nat → Nat) (sz : Nat) (Fu : Nat) (q_settings : Ar) (q_letters : Ar) (q_heats : Ar) (q_starts : Ar) (q_families : Ar) (q_generations : Ar) (q_tally : Ar) (q_stories : Int32) (q_nextFamily : Int32) (q_splits : Int32) (q_boilings : Int32) (q_fizzles : Int32) (p1 : Int32) (ro : Int32) (hf : f_X2_isFirstOfFamily Fu q_families p1 = some (ro)) : MI l yX2_isFirstOfFamily wsX2_isFirstOfFamily 0 0 [.ref (a 0), .int p1] D y (w_X2 y a q_settings q_letters q_heats q_starts q_families q_generations q_tally q_stories q_nextFamily q_splits q_boilings q_fizzles) sz ro (w_X2 y a q_settings q_letters q_heats q_starts q_families q_generations q_tally q_stories q_nextFamily q_splits q_boilings q_fizzles) := by
  refine M_z (cc := cX2_isFirstOfFamily) (maxL := 3) (own := RX2) (by decide) rfl rfl (Nat.le_of_ble_eq_true rfl) ?_
  intro p e s m args below meth c A Q F hK hA H locs hG hret ls hl
  have hx := F.1
  have hb := F.2.1
  have hl : lv_has ls 3 [(0, .ref (a 0)), (1, .int p1)] := hl
  have k0 := F.2.2.2.2 (.fieldLink RX2 24 "HeatedStories$Shelf" "families" "[I") (List.mem_of_getElem? (i := 1) rfl)
  have k1 : ∀ w ∈ wsX20, w ∈ wsX2_isFirstOfFamily := (fun w h => List.mem_cons_of_mem _ (List.mem_append_right _ (h)))
  unfold f_X2_isFirstOfFamily at hf
  refine lv_iconst (v := nI 0) hx hb dX2_isFirstOfFamily_0 rfl ?_
  refine lv_istore_n (lv' := [(2, .int (nI 0)), (0, .ref (a 0)), (1, .int p1)]) hx hb dX2_isFirstOfFamily_1 rfl hl (by decide) rfl (fun ls hl => ?_)
  have hL2 : ∀ (fu : Nat) (x1 : Int32) (H : Heap) (locs : List Loc) (ls : Array Slot), f_X2_isFirstOfFamily_L2 Fu q_families p1 fu x1 = some (ro) → GG D A s.heap (w_X2 y a q_settings q_letters q_heats q_starts q_families q_generations q_tally q_stories q_nextFamily q_splits q_boilings q_fizzles) H locs → lv_has ls 3 [(0, .ref (a 0)), (1, .int p1), (2, .int x1)] → W p l e (RM 0 0) s m args below meth c H locs 0 0 Q (F0 m 2 ls []) := by
    intro fu
    induction fu with
    | zero => intro x1 H locs ls hf hG hl; exact no_e hf
    | succ fu ih =>
      intro x1 H locs ls hf hG hl
      rw [f_X2_isFirstOfFamily_L2_s] at hf
      refine lv_iload_n hx hb dX2_isFirstOfFamily_2 rfl (lv_at hl 2 rfl) ?_
      refine lv_iload_n hx hb dX2_isFirstOfFamily_3 rfl (lv_at hl 1 rfl) ?_
      refine lv_icmp_ge (tgt := 30) hx hb dX2_isFirstOfFamily_4 (by decide) (fun c2 => ?_) (fun c2 => ?_)
      · have hf := it_e c2 hf
        refine lv_iconst (v := nI 1) hx hb dX2_isFirstOfFamily_30 rfl ?_
        have hf := so_e hf
        have e0 : (nI 1) = ro := hf
        exact hret _ _ _ _ _ rfl e0 hG dX2_isFirstOfFamily_31
      · have hf := if_e c2 hf
        refine lv_aload_n hx hb dX2_isFirstOfFamily_7 rfl (lv_at hl 0 rfl) ?_
        refine w_get2 F hK hG k1 0 rfl 4 (by decide) k0 rfl dX2_isFirstOfFamily_8 ?_
        refine lv_iload_n hx hb dX2_isFirstOfFamily_11 rfl (lv_at hl 2 rfl) ?_
        obtain ⟨g3, hf⟩ := gd_e hf
        refine w_iald F hK hG 5 rfl g3 dX2_isFirstOfFamily_12 ?_
        refine lv_aload_n hx hb dX2_isFirstOfFamily_13 rfl (lv_at hl 0 rfl) ?_
        refine w_get2 F hK hG k1 0 rfl 4 (by decide) k0 rfl dX2_isFirstOfFamily_14 ?_
        refine lv_iload_n hx hb dX2_isFirstOfFamily_17 rfl (lv_at hl 1 rfl) ?_
        obtain ⟨g4, hf⟩ := gd_e hf
        refine w_iald F hK hG 5 rfl g4 dX2_isFirstOfFamily_18 ?_
        refine lv_icmp_ne (tgt := 24) hx hb dX2_isFirstOfFamily_19 (by decide) (fun c5 => ?_) (fun c5 => ?_)
        · have hf := if_e c5 hf
          refine lv_iinc (v := x1 + (nI 1)) (lv' := [(2, .int (x1 + (nI 1))), (0, .ref (a 0)), (1, .int p1)]) hx hb dX2_isFirstOfFamily_24 hl (k := 2) rfl rfl (by decide) rfl (fun ls hl => ?_)
          refine lv_goto (tgt := 2) hx hb dX2_isFirstOfFamily_27 (by decide) ?_
          exact ih (x1 + (nI 1)) _ _ ls hf hG (lv_sub hl [1, 2, 0] rfl)
        · have hf := it_e c5 hf
          refine lv_iconst (v := nI 0) hx hb dX2_isFirstOfFamily_22 rfl ?_
          have hf := so_e hf
          have e0 : (nI 0) = ro := hf
          exact hret _ _ _ _ _ rfl e0 hG dX2_isFirstOfFamily_23
  exact hL2 Fu (nI 0) _ _ ls hf hG (lv_sub hl [1, 2, 0] rfl)
set_option maxHeartbeats 1000000 in
set_option maxRecDepth 100000 in
theorem c_X2_unlikeFamilies (l : Launch) (D : va_G) (y : Nat → ClassId) (a : Nat → Nat) (sz : Nat) (Fu : Nat) (q_settings : Ar) (q_letters : Ar) (q_heats : Ar) (q_starts : Ar) (q_families : Ar) (q_generations : Ar) (q_tally : Ar) (q_stories : Int32) (q_nextFamily : Int32) (q_splits : Int32) (q_boilings : Int32) (q_fizzles : Int32) (ro : Int32) (hf : f_X2_unlikeFamilies Fu q_families q_stories = some (ro)) : MI l yX2_unlikeFamilies wsX2_unlikeFamilies 1 22 [.ref (a 0)] D y (w_X2 y a q_settings q_letters q_heats q_starts q_families q_generations q_tally q_stories q_nextFamily q_splits q_boilings q_fizzles) sz ro (w_X2 y a q_settings q_letters q_heats q_starts q_families q_generations q_tally q_stories q_nextFamily q_splits q_boilings q_fizzles) := by
  refine M_i (cc := cX2_unlikeFamilies) (maxL := 3) (own := RX2) (by decide) rfl rfl (Nat.le_of_ble_eq_true rfl) ?_
  intro p e s m args below meth c A Q F hK hA H locs hG hret ls hl
  have hx := F.1
  have hb := F.2.1
  have hl : lv_has ls 3 [(0, .ref (a 0))] := hl
  have k0 := F.2.2.2.2 (.fieldLink RX2 43 "HeatedStories$Shelf" "stories" "I") (List.mem_of_getElem? (i := 1) rfl)
  have k1 : ∀ w ∈ wsX20, w ∈ wsX2_unlikeFamilies := (fun w h => List.mem_cons_of_mem _ (List.mem_append_right _ (h)))
  unfold f_X2_unlikeFamilies at hf
  refine lv_iconst (v := nI 0) hx hb dX2_unlikeFamilies_0 rfl ?_
  refine lv_istore_n (lv' := [(1, .int (nI 0)), (0, .ref (a 0))]) hx hb dX2_unlikeFamilies_1 rfl hl (by decide) rfl (fun ls hl => ?_)
  refine lv_iconst (v := nI 0) hx hb dX2_unlikeFamilies_2 rfl ?_
  refine lv_istore_n (lv' := [(2, .int (nI 0)), (1, .int (nI 0)), (0, .ref (a 0))]) hx hb dX2_unlikeFamilies_3 rfl hl (by decide) rfl (fun ls hl => ?_)
  obtain ⟨k_4, ek_4, hf⟩ := jn_e hf
  have hk_4 : ∀ (v8 : Int32) (H : Heap) (locs : List Loc) (ls : Array Slot), k_4 v8 = some (ro) → GG D A s.heap (w_X2 y a q_settings q_letters q_heats q_starts q_families q_generations q_tally q_stories q_nextFamily q_splits q_boilings q_fizzles) H locs → lv_has ls 3 [(1, .int v8)] → W p l e (RM 1 22) s m args below meth c H locs 0 0 Q (F0 m 34 ls []) := by
    intro v8 H locs ls hf hG hl
    rw [ek_4] at hf
    refine lv_iload_n hx hb dX2_unlikeFamilies_34 rfl (lv_at hl 0 rfl) ?_
    have hf := so_e hf
    have e0 : v8 = ro := hf
    exact hret _ _ _ _ _ e0 hG dX2_unlikeFamilies_35
  have hL4 : ∀ (fu : Nat) (x1 : Int32) (x2 : Int32) (H : Heap) (locs : List Loc) (ls : Array Slot), f_X2_unlikeFamilies_L4 Fu k_4 q_families q_stories fu x1 x2 = some (ro) → GG D A s.heap (w_X2 y a q_settings q_letters q_heats q_starts q_families q_generations q_tally q_stories q_nextFamily q_splits q_boilings q_fizzles) H locs → lv_has ls 3 [(0, .ref (a 0)), (1, .int x1), (2, .int x2)] → W p l e (RM 1 22) s m args below meth c H locs 0 0 Q (F0 m 4 ls []) := by
    intro fu
    induction fu with
    | zero => intro x1 x2 H locs ls hf hG hl; exact no_e hf
    | succ fu ih =>
      intro x1 x2 H locs ls hf hG hl
      rw [f_X2_unlikeFamilies_L4_s] at hf
      refine lv_iload_n hx hb dX2_unlikeFamilies_4 rfl (lv_at hl 2 rfl) ?_
      refine lv_aload_n hx hb dX2_unlikeFamilies_5 rfl (lv_at hl 0 rfl) ?_
      refine w_get2 F hK hG k1 0 rfl 7 (by decide) k0 rfl dX2_unlikeFamilies_6 ?_
      refine lv_icmp_ge (tgt := 34) hx hb dX2_unlikeFamilies_9 (by decide) (fun c3 => ?_) (fun c3 => ?_)
      · have hf := it_e c3 hf
        exact hk_4 x1 _ _ ls hf hG (lv_sub hl [1] rfl)
      · have hf := if_e c3 hf
        refine lv_iload_n hx hb dX2_unlikeFamilies_12 rfl (lv_at hl 1 rfl) ?_
        refine lv_aload_n hx hb dX2_unlikeFamilies_13 rfl (lv_at hl 0 rfl) ?_
        refine lv_iload_n hx hb dX2_unlikeFamilies_14 rfl (lv_at hl 2 rfl) ?_
        obtain ⟨r4, h5, hf⟩ := bd1_e hf
        refine k_Wi F hK hA hG (c_X2_isFirstOfFamily l D y a H.size Fu q_settings q_letters q_heats q_starts q_families q_generations q_tally q_stories q_nextFamily q_splits q_boilings q_fizzles x2 r4 h5) (cwV 1 F.2.2.2.2 gX2_unlikeFamilies_X2_isFirstOfFamily rfl rfl rfl (by decide +kernel) ⟨Nat.le_of_ble_eq_true rfl, Nat.le_of_ble_eq_true rfl⟩) 0 rfl rfl rfl rfl rfl hl.1 (Nat.le_of_ble_eq_true rfl) dX2_unlikeFamilies_15 ⟨Nat.le_refl 0, Nat.le_refl 0⟩ (fun H locs hG => ?_)
        obtain ⟨v7, ev7, hf⟩ := nm_o hf
        have hJ : ∀ (ls : Array Slot), lv_has ls 3 [(0, .ref (a 0)), (2, .int x2)] → W p l e (RM 1 22) s m args below meth c H locs 0 0 Q (F0 m 26 ls [.int v7, .int x1]) := by
          intro ls hl
          refine lv_iadd hx hb dX2_unlikeFamilies_26 ?_
          refine lv_istore_n (lv' := [(1, .int (x1 + v7)), (0, .ref (a 0)), (2, .int x2)]) hx hb dX2_unlikeFamilies_27 rfl hl (by decide) rfl (fun ls hl => ?_)
          refine lv_iinc (v := x2 + (nI 1)) (lv' := [(2, .int (x2 + (nI 1))), (1, .int (x1 + v7)), (0, .ref (a 0))]) hx hb dX2_unlikeFamilies_28 hl (k := 2) rfl rfl (by decide) rfl (fun ls hl => ?_)
          refine lv_goto (tgt := 4) hx hb dX2_unlikeFamilies_31 (by decide) ?_
          exact ih (x1 + v7) (x2 + (nI 1)) _ _ ls hf hG (lv_sub hl [2, 1, 0] rfl)
        refine lv_if_eq (tgt := 25) hx hb dX2_unlikeFamilies_18 (by decide) (fun c6 => ?_) (fun c6 => ?_)
        · refine lv_iconst (v := nI 0) hx hb dX2_unlikeFamilies_25 rfl ?_
          have qv7 := (ev7.trans (if_pos c6))
          subst qv7
          exact hJ ls (lv_sub hl [0, 2] rfl)
        · refine lv_iconst (v := nI 1) hx hb dX2_unlikeFamilies_21 rfl ?_
          refine lv_goto (tgt := 26) hx hb dX2_unlikeFamilies_22 (by decide) ?_
          have qv7 := (ev7.trans (if_neg c6))
          subst qv7
          exact hJ ls (lv_sub hl [0, 2] rfl)
  exact hL4 Fu (nI 0) (nI 0) _ _ ls hf hG (lv_sub hl [2, 1, 0] rfl)
set_option maxHeartbeats 1000000 in
set_option maxRecDepth 100000 in
theorem c_X2_greatestGeneration (l : Launch) (D : va_G) (y : Nat → ClassId) (a : Nat → Nat) (sz : Nat) (Fu : Nat) (q_settings : Ar) (q_letters : Ar) (q_heats : Ar) (q_starts : Ar) (q_families : Ar) (q_generations : Ar) (q_tally : Ar) (q_stories : Int32) (q_nextFamily : Int32) (q_splits : Int32) (q_boilings : Int32) (q_fizzles : Int32) (ro : Int32) (hf : f_X2_greatestGeneration Fu q_generations q_stories = some (ro)) : MI l yX2_greatestGeneration wsX2_greatestGeneration 1 13 [.ref (a 0)] D y (w_X2 y a q_settings q_letters q_heats q_starts q_families q_generations q_tally q_stories q_nextFamily q_splits q_boilings q_fizzles) sz ro (w_X2 y a q_settings q_letters q_heats q_starts q_families q_generations q_tally q_stories q_nextFamily q_splits q_boilings q_fizzles) := by
  refine M_i (cc := cX2_greatestGeneration) (maxL := 3) (own := RX2) (by decide) rfl rfl (Nat.le_of_ble_eq_true rfl) ?_
  intro p e s m args below meth c A Q F hK hA H locs hG hret ls hl
  have hx := F.1
  have hb := F.2.1
  have hl : lv_has ls 3 [(0, .ref (a 0))] := hl
  have k0 := F.2.2.2.2 (.fieldLink RX2 43 "HeatedStories$Shelf" "stories" "I") (List.mem_of_getElem? (i := 1) rfl)
  have k1 : ∀ w ∈ wsX20, w ∈ wsX2_greatestGeneration := (fun w h => List.mem_cons_of_mem _ (List.mem_append_right _ (h)))
  have k2 := F.2.2.2.2 (.fieldLink RX2 27 "HeatedStories$Shelf" "generations" "[I") (List.mem_of_getElem? (i := 2) rfl)
  have k3 := F.2.2.2.2 (.methodLink RX2 85 Lib.Math.max.name) (List.mem_of_getElem? (i := 3) rfl)
  have k4 := F.2.2.2.2 (.static Lib.Math.max.name) (List.mem_of_getElem? (i := 4) rfl)
  have k5 := F.2.2.2.2 (.initialized "java/lang/Math") (List.mem_of_getElem? (i := 5) rfl)
  have k6 := F.2.2.2.2 (.code Lib.Math.max.name Lib.Math.max.code 2 (some .int)) (List.mem_of_getElem? (i := 6) rfl)
  unfold f_X2_greatestGeneration at hf
  refine lv_bipush (v := -6) hx hb dX2_greatestGeneration_0 rfl ?_
  refine lv_istore_n (lv' := [(1, .int (-6)), (0, .ref (a 0))]) hx hb dX2_greatestGeneration_2 rfl hl (by decide) rfl (fun ls hl => ?_)
  refine lv_iconst (v := nI 0) hx hb dX2_greatestGeneration_3 rfl ?_
  refine lv_istore_n (lv' := [(2, .int (nI 0)), (1, .int (-6)), (0, .ref (a 0))]) hx hb dX2_greatestGeneration_4 rfl hl (by decide) rfl (fun ls hl => ?_)
  obtain ⟨k_5, ek_5, hf⟩ := jn_e hf
  have hk_5 : ∀ (v6 : Int32) (H : Heap) (locs : List Loc) (ls : Array Slot), k_5 v6 = some (ro) → GG D A s.heap (w_X2 y a q_settings q_letters q_heats q_starts q_families q_generations q_tally q_stories q_nextFamily q_splits q_boilings q_fizzles) H locs → lv_has ls 3 [(1, .int v6)] → W p l e (RM 1 13) s m args below meth c H locs 0 0 Q (F0 m 30 ls []) := by
    intro v6 H locs ls hf hG hl
    rw [ek_5] at hf
    refine lv_iload_n hx hb dX2_greatestGeneration_30 rfl (lv_at hl 0 rfl) ?_
    have hf := so_e hf
    have e0 : v6 = ro := hf
    exact hret _ _ _ _ _ e0 hG dX2_greatestGeneration_31
  have hL5 : ∀ (fu : Nat) (x1 : Int32) (x2 : Int32) (H : Heap) (locs : List Loc) (ls : Array Slot), f_X2_greatestGeneration_L5 Fu k_5 q_generations q_stories fu x1 x2 = some (ro) → GG D A s.heap (w_X2 y a q_settings q_letters q_heats q_starts q_families q_generations q_tally q_stories q_nextFamily q_splits q_boilings q_fizzles) H locs → lv_has ls 3 [(0, .ref (a 0)), (1, .int x1), (2, .int x2)] → W p l e (RM 1 13) s m args below meth c H locs 0 0 Q (F0 m 5 ls []) := by
    intro fu
    induction fu with
    | zero => intro x1 x2 H locs ls hf hG hl; exact no_e hf
    | succ fu ih =>
      intro x1 x2 H locs ls hf hG hl
      rw [f_X2_greatestGeneration_L5_s] at hf
      refine lv_iload_n hx hb dX2_greatestGeneration_5 rfl (lv_at hl 2 rfl) ?_
      refine lv_aload_n hx hb dX2_greatestGeneration_6 rfl (lv_at hl 0 rfl) ?_
      refine w_get2 F hK hG k1 0 rfl 7 (by decide) k0 rfl dX2_greatestGeneration_7 ?_
      refine lv_icmp_ge (tgt := 30) hx hb dX2_greatestGeneration_10 (by decide) (fun c3 => ?_) (fun c3 => ?_)
      · have hf := it_e c3 hf
        exact hk_5 x1 _ _ ls hf hG (lv_sub hl [1] rfl)
      · have hf := if_e c3 hf
        refine lv_iload_n hx hb dX2_greatestGeneration_13 rfl (lv_at hl 1 rfl) ?_
        refine lv_aload_n hx hb dX2_greatestGeneration_14 rfl (lv_at hl 0 rfl) ?_
        refine w_get2 F hK hG k1 0 rfl 5 (by decide) k2 rfl dX2_greatestGeneration_15 ?_
        refine lv_iload_n hx hb dX2_greatestGeneration_18 rfl (lv_at hl 2 rfl) ?_
        obtain ⟨g4, hf⟩ := gd_e hf
        refine w_iald F hK hG 6 rfl g4 dX2_greatestGeneration_19 ?_
        refine w_max F hl.1 k3 k4 k5 k6 ⟨Nat.le_of_ble_eq_true rfl, Nat.le_of_ble_eq_true rfl⟩ ⟨Nat.le_refl 0, Nat.le_refl 0⟩ dX2_greatestGeneration_20 ?_
        obtain ⟨v5, ev5, hf⟩ := nm_o hf
        refine w_nm ev5 ?_
        refine lv_istore_n (lv' := [(1, .int v5), (0, .ref (a 0)), (2, .int x2)]) hx hb dX2_greatestGeneration_23 rfl hl (by decide) rfl (fun ls hl => ?_)
        refine lv_iinc (v := x2 + (nI 1)) (lv' := [(2, .int (x2 + (nI 1))), (1, .int v5), (0, .ref (a 0))]) hx hb dX2_greatestGeneration_24 hl (k := 2) rfl rfl (by decide) rfl (fun ls hl => ?_)
        refine lv_goto (tgt := 5) hx hb dX2_greatestGeneration_27 (by decide) ?_
        exact ih v5 (x2 + (nI 1)) _ _ ls hf hG (lv_sub hl [2, 1, 0] rfl)
  exact hL5 Fu (-6) (nI 0) _ _ ls hf hG (lv_sub hl [2, 1, 0] rfl)
set_option maxHeartbeats 1000000 in
set_option maxRecDepth 100000 in
theorem c_X2_storiesWith (l : Launch) (D : va_G) (y : Nat → ClassId) (a : Nat → Nat) (sz : Nat) (Fu : Nat) (q_settings : Ar) (q_letters : Ar) (q_heats : Ar) (q_starts : Ar) (q_families : Ar) (q_generations : Ar) (q_tally : Ar) (q_stories : Int32) (q_nextFamily : Int32) (q_splits : Int32) (q_boilings : Int32) (q_fizzles : Int32) (p1 : Int32) (ro : Int32) (hf : f_X2_storiesWith Fu q_letters q_starts q_stories p1 = some (ro)) : MI l yX2_storiesWith wsX2_storiesWith 2 47 [.ref (a 0), .int p1] D y (w_X2 y a q_settings q_letters q_heats q_starts q_families q_generations q_tally q_stories q_nextFamily q_splits q_boilings q_fizzles) sz ro (w_X2 y a q_settings q_letters q_heats q_starts q_families q_generations q_tally q_stories q_nextFamily q_splits q_boilings q_fizzles) := by
  refine M_i (cc := cX2_storiesWith) (maxL := 4) (own := RX2) (by decide) rfl rfl (Nat.le_of_ble_eq_true rfl) ?_
  intro p e s m args below meth c A Q F hK hA H locs hG hret ls hl
  have hx := F.1
  have hb := F.2.1
  have hl : lv_has ls 4 [(0, .ref (a 0)), (1, .int p1)] := hl
  have k0 := F.2.2.2.2 (.fieldLink RX2 43 "HeatedStories$Shelf" "stories" "I") (List.mem_of_getElem? (i := 1) rfl)
  have k1 : ∀ w ∈ wsX20, w ∈ wsX2_storiesWith := (fun w h => List.mem_cons_of_mem _ (List.mem_append_right _ (h)))
  unfold f_X2_storiesWith at hf
  refine lv_iconst (v := nI 0) hx hb dX2_storiesWith_0 rfl ?_
  refine lv_istore_n (lv' := [(2, .int (nI 0)), (0, .ref (a 0)), (1, .int p1)]) hx hb dX2_storiesWith_1 rfl hl (by decide) rfl (fun ls hl => ?_)
  refine lv_iconst (v := nI 0) hx hb dX2_storiesWith_2 rfl ?_
  refine lv_istore_n (lv' := [(3, .int (nI 0)), (2, .int (nI 0)), (0, .ref (a 0)), (1, .int p1)]) hx hb dX2_storiesWith_3 rfl hl (by decide) rfl (fun ls hl => ?_)
  obtain ⟨k_4, ek_4, hf⟩ := jn_e hf
  have hk_4 : ∀ (v8 : Int32) (H : Heap) (locs : List Loc) (ls : Array Slot), k_4 v8 = some (ro) → GG D A s.heap (w_X2 y a q_settings q_letters q_heats q_starts q_families q_generations q_tally q_stories q_nextFamily q_splits q_boilings q_fizzles) H locs → lv_has ls 4 [(2, .int v8)] → W p l e (RM 2 47) s m args below meth c H locs 0 0 Q (F0 m 35 ls []) := by
    intro v8 H locs ls hf hG hl
    rw [ek_4] at hf
    refine lv_iload_n hx hb dX2_storiesWith_35 rfl (lv_at hl 0 rfl) ?_
    have hf := so_e hf
    have e0 : v8 = ro := hf
    exact hret _ _ _ _ _ e0 hG dX2_storiesWith_36
  have hL4 : ∀ (fu : Nat) (x1 : Int32) (x2 : Int32) (H : Heap) (locs : List Loc) (ls : Array Slot), f_X2_storiesWith_L4 Fu k_4 q_letters q_starts q_stories p1 fu x1 x2 = some (ro) → GG D A s.heap (w_X2 y a q_settings q_letters q_heats q_starts q_families q_generations q_tally q_stories q_nextFamily q_splits q_boilings q_fizzles) H locs → lv_has ls 4 [(0, .ref (a 0)), (1, .int p1), (2, .int x1), (3, .int x2)] → W p l e (RM 2 47) s m args below meth c H locs 0 0 Q (F0 m 4 ls []) := by
    intro fu
    induction fu with
    | zero => intro x1 x2 H locs ls hf hG hl; exact no_e hf
    | succ fu ih =>
      intro x1 x2 H locs ls hf hG hl
      rw [f_X2_storiesWith_L4_s] at hf
      refine lv_iload_n hx hb dX2_storiesWith_4 rfl (lv_at hl 3 rfl) ?_
      refine lv_aload_n hx hb dX2_storiesWith_5 rfl (lv_at hl 0 rfl) ?_
      refine w_get2 F hK hG k1 0 rfl 7 (by decide) k0 rfl dX2_storiesWith_6 ?_
      refine lv_icmp_ge (tgt := 35) hx hb dX2_storiesWith_9 (by decide) (fun c3 => ?_) (fun c3 => ?_)
      · have hf := it_e c3 hf
        exact hk_4 x1 _ _ ls hf hG (lv_sub hl [2] rfl)
      · have hf := if_e c3 hf
        refine lv_iload_n hx hb dX2_storiesWith_12 rfl (lv_at hl 2 rfl) ?_
        refine lv_aload_n hx hb dX2_storiesWith_13 rfl (lv_at hl 0 rfl) ?_
        refine lv_iload_n hx hb dX2_storiesWith_14 rfl (lv_at hl 3 rfl) ?_
        refine lv_iload_n hx hb dX2_storiesWith_15 rfl (lv_at hl 1 rfl) ?_
        obtain ⟨r4, h5, hf⟩ := bd1_e hf
        refine k_Wi F hK hA hG (c_X2_timesIn l D y a H.size Fu q_settings q_letters q_heats q_starts q_families q_generations q_tally q_stories q_nextFamily q_splits q_boilings q_fizzles x2 p1 r4 h5) (cwV 2 F.2.2.2.2 gX2_storiesWith_X2_timesIn rfl rfl rfl (by decide +kernel) ⟨Nat.le_of_ble_eq_true rfl, Nat.le_of_ble_eq_true rfl⟩) 0 rfl rfl rfl rfl rfl hl.1 (Nat.le_of_ble_eq_true rfl) dX2_storiesWith_16 ⟨Nat.le_refl 0, Nat.le_refl 0⟩ (fun H locs hG => ?_)
        obtain ⟨v7, ev7, hf⟩ := nm_o hf
        have hJ : ∀ (ls : Array Slot), lv_has ls 4 [(0, .ref (a 0)), (1, .int p1), (3, .int x2)] → W p l e (RM 2 47) s m args below meth c H locs 0 0 Q (F0 m 27 ls [.int v7, .int x1]) := by
          intro ls hl
          refine lv_iadd hx hb dX2_storiesWith_27 ?_
          refine lv_istore_n (lv' := [(2, .int (x1 + v7)), (0, .ref (a 0)), (1, .int p1), (3, .int x2)]) hx hb dX2_storiesWith_28 rfl hl (by decide) rfl (fun ls hl => ?_)
          refine lv_iinc (v := x2 + (nI 1)) (lv' := [(3, .int (x2 + (nI 1))), (2, .int (x1 + v7)), (0, .ref (a 0)), (1, .int p1)]) hx hb dX2_storiesWith_29 hl (k := 3) rfl rfl (by decide) rfl (fun ls hl => ?_)
          refine lv_goto (tgt := 4) hx hb dX2_storiesWith_32 (by decide) ?_
          exact ih (x1 + v7) (x2 + (nI 1)) _ _ ls hf hG (lv_sub hl [2, 3, 1, 0] rfl)
        refine lv_if_le (tgt := 26) hx hb dX2_storiesWith_19 (by decide) (fun c6 => ?_) (fun c6 => ?_)
        · refine lv_iconst (v := nI 0) hx hb dX2_storiesWith_26 rfl ?_
          have qv7 := (ev7.trans (if_pos c6))
          subst qv7
          exact hJ ls (lv_sub hl [0, 1, 3] rfl)
        · refine lv_iconst (v := nI 1) hx hb dX2_storiesWith_22 rfl ?_
          refine lv_goto (tgt := 27) hx hb dX2_storiesWith_23 (by decide) ?_
          have qv7 := (ev7.trans (if_neg c6))
          subst qv7
          exact hJ ls (lv_sub hl [0, 1, 3] rfl)
  exact hL4 Fu (nI 0) (nI 0) _ _ ls hf hG (lv_sub hl [2, 3, 1, 0] rfl)
set_option maxHeartbeats 1000000 in
set_option maxRecDepth 100000 in
theorem c_X2_storiesOfTheme (l : Launch) (D : va_G) (y : Nat → ClassId) (a : Nat → Nat) (sz : Nat) (Fu : Nat) (q_settings : Ar) (q_letters : Ar) (q_heats : Ar) (q_starts : Ar) (q_families : Ar) (q_generations : Ar) (q_tally : Ar) (q_stories : Int32) (q_nextFamily : Int32) (q_splits : Int32) (q_boilings : Int32) (q_fizzles : Int32) (p1 : Int32) (ro : Int32) (q_tally_o : Ar) (hf : f_X2_storiesOfTheme Fu q_letters q_starts q_tally q_stories p1 = some (ro, q_tally_o)) : MI l yX2_storiesOfTheme wsX2_storiesOfTheme 3 68 [.ref (a 0), .int p1] D y (w_X2 y a q_settings q_letters q_heats q_starts q_families q_generations q_tally q_stories q_nextFamily q_splits q_boilings q_fizzles) sz ro (w_X2 y a q_settings q_letters q_heats q_starts q_families q_generations q_tally_o q_stories q_nextFamily q_splits q_boilings q_fizzles) := by
  refine M_i (cc := cX2_storiesOfTheme) (maxL := 4) (own := RX2) (by decide) rfl rfl (Nat.le_of_ble_eq_true rfl) ?_
  intro p e s m args below meth c A Q F hK hA H locs hG hret ls hl
  have hx := F.1
  have hb := F.2.1
  have hl : lv_has ls 4 [(0, .ref (a 0)), (1, .int p1)] := hl
  have k0 := F.2.2.2.2 (.fieldLink RX2 43 "HeatedStories$Shelf" "stories" "I") (List.mem_of_getElem? (i := 1) rfl)
  have k1 : ∀ w ∈ wsX20, w ∈ wsX2_storiesOfTheme := (fun w h => List.mem_cons_of_mem _ (List.mem_append_right _ (h)))
  unfold f_X2_storiesOfTheme at hf
  refine lv_iconst (v := nI 0) hx hb dX2_storiesOfTheme_0 rfl ?_
  refine lv_istore_n (lv' := [(2, .int (nI 0)), (0, .ref (a 0)), (1, .int p1)]) hx hb dX2_storiesOfTheme_1 rfl hl (by decide) rfl (fun ls hl => ?_)
  refine lv_iconst (v := nI 0) hx hb dX2_storiesOfTheme_2 rfl ?_
  refine lv_istore_n (lv' := [(3, .int (nI 0)), (2, .int (nI 0)), (0, .ref (a 0)), (1, .int p1)]) hx hb dX2_storiesOfTheme_3 rfl hl (by decide) rfl (fun ls hl => ?_)
  obtain ⟨k_4, ek_4, hf⟩ := jn_e hf
  have hk_4 : ∀ (v10 : Int32) (q_tally_11 : Ar) (H : Heap) (locs : List Loc) (ls : Array Slot), k_4 v10 q_tally_11 = some (ro, q_tally_o) → GG D A s.heap (w_X2 y a q_settings q_letters q_heats q_starts q_families q_generations q_tally_11 q_stories q_nextFamily q_splits q_boilings q_fizzles) H locs → lv_has ls 4 [(2, .int v10)] → W p l e (RM 3 68) s m args below meth c H locs 0 0 Q (F0 m 35 ls []) := by
    intro v10 q_tally_11 H locs ls hf hG hl
    rw [ek_4] at hf
    refine lv_iload_n hx hb dX2_storiesOfTheme_35 rfl (lv_at hl 0 rfl) ?_
    have hf := so_e hf
    have e0 : v10 = ro := congrArg (fun z => z.1) hf
    have e1 : q_tally_11 = q_tally_o := congrArg (fun z => z.2) hf
    exact hret _ _ _ _ _ e0 (by rw [← e1]; exact hG) dX2_storiesOfTheme_36
  have hL4 : ∀ (fu : Nat) (x1 : Int32) (x2 : Int32) (q_tally_3 : Ar) (H : Heap) (locs : List Loc) (ls : Array Slot), f_X2_storiesOfTheme_L4 Fu k_4 q_letters q_starts q_stories p1 fu x1 x2 q_tally_3 = some (ro, q_tally_o) → GG D A s.heap (w_X2 y a q_settings q_letters q_heats q_starts q_families q_generations q_tally_3 q_stories q_nextFamily q_splits q_boilings q_fizzles) H locs → lv_has ls 4 [(0, .ref (a 0)), (1, .int p1), (2, .int x1), (3, .int x2)] → W p l e (RM 3 68) s m args below meth c H locs 0 0 Q (F0 m 4 ls []) := by
    intro fu
    induction fu with
    | zero => intro x1 x2 q_tally_3 H locs ls hf hG hl; exact no_e hf
    | succ fu ih =>
      intro x1 x2 q_tally_3 H locs ls hf hG hl
      rw [f_X2_storiesOfTheme_L4_s] at hf
      refine lv_iload_n hx hb dX2_storiesOfTheme_4 rfl (lv_at hl 3 rfl) ?_
      refine lv_aload_n hx hb dX2_storiesOfTheme_5 rfl (lv_at hl 0 rfl) ?_
      refine w_get2 F hK hG k1 0 rfl 7 (by decide) k0 rfl dX2_storiesOfTheme_6 ?_
      refine lv_icmp_ge (tgt := 35) hx hb dX2_storiesOfTheme_9 (by decide) (fun c4 => ?_) (fun c4 => ?_)
      · have hf := it_e c4 hf
        exact hk_4 x1 q_tally_3 _ _ ls hf hG (lv_sub hl [2] rfl)
      · have hf := if_e c4 hf
        refine lv_iload_n hx hb dX2_storiesOfTheme_12 rfl (lv_at hl 2 rfl) ?_
        refine lv_aload_n hx hb dX2_storiesOfTheme_13 rfl (lv_at hl 0 rfl) ?_
        refine lv_iload_n hx hb dX2_storiesOfTheme_14 rfl (lv_at hl 3 rfl) ?_
        obtain ⟨r5, q_tally_6, h7, hf⟩ := bd2_e hf
        refine k_Wi F hK hA hG (c_X2_themeOf l D y a H.size Fu q_settings q_letters q_heats q_starts q_families q_generations q_tally_3 q_stories q_nextFamily q_splits q_boilings q_fizzles x2 r5 q_tally_6 h7) (cwV 1 F.2.2.2.2 gX2_storiesOfTheme_X2_themeOf rfl rfl rfl (by decide +kernel) ⟨Nat.le_of_ble_eq_true rfl, Nat.le_of_ble_eq_true rfl⟩) 0 rfl rfl rfl rfl rfl hl.1 (Nat.le_of_ble_eq_true rfl) dX2_storiesOfTheme_15 ⟨Nat.le_refl 0, Nat.le_refl 0⟩ (fun H locs hG => ?_)
        refine lv_iload_n hx hb dX2_storiesOfTheme_18 rfl (lv_at hl 1 rfl) ?_
        obtain ⟨v9, ev9, hf⟩ := nm_o hf
        have hJ : ∀ (ls : Array Slot), lv_has ls 4 [(0, .ref (a 0)), (1, .int p1), (3, .int x2)] → W p l e (RM 3 68) s m args below meth c H locs 0 0 Q (F0 m 27 ls [.int v9, .int x1]) := by
          intro ls hl
          refine lv_iadd hx hb dX2_storiesOfTheme_27 ?_
          refine lv_istore_n (lv' := [(2, .int (x1 + v9)), (0, .ref (a 0)), (1, .int p1), (3, .int x2)]) hx hb dX2_storiesOfTheme_28 rfl hl (by decide) rfl (fun ls hl => ?_)
          refine lv_iinc (v := x2 + (nI 1)) (lv' := [(3, .int (x2 + (nI 1))), (2, .int (x1 + v9)), (0, .ref (a 0)), (1, .int p1)]) hx hb dX2_storiesOfTheme_29 hl (k := 3) rfl rfl (by decide) rfl (fun ls hl => ?_)
          refine lv_goto (tgt := 4) hx hb dX2_storiesOfTheme_32 (by decide) ?_
          exact ih (x1 + v9) (x2 + (nI 1)) q_tally_6 _ _ ls hf hG (lv_sub hl [2, 3, 1, 0] rfl)
        refine lv_icmp_ne (tgt := 26) hx hb dX2_storiesOfTheme_19 (by decide) (fun c8 => ?_) (fun c8 => ?_)
        · refine lv_iconst (v := nI 0) hx hb dX2_storiesOfTheme_26 rfl ?_
          have qv9 := (ev9.trans (if_neg c8))
          subst qv9
          exact hJ ls (lv_sub hl [0, 1, 3] rfl)
        · refine lv_iconst (v := nI 1) hx hb dX2_storiesOfTheme_22 rfl ?_
          refine lv_goto (tgt := 27) hx hb dX2_storiesOfTheme_23 (by decide) ?_
          have qv9 := (ev9.trans (if_pos c8))
          subst qv9
          exact hJ ls (lv_sub hl [0, 1, 3] rfl)
  exact hL4 Fu (nI 0) (nI 0) q_tally _ _ ls hf hG (lv_sub hl [2, 3, 1, 0] rfl)
set_option maxHeartbeats 1000000 in
set_option maxRecDepth 100000 in
theorem c_X2_heatOfLetter (l : Launch) (D : va_G) (y : Nat → ClassId) (a : Nat → Nat) (sz : Nat) (Fu : Nat) (q_settings : Ar) (q_letters : Ar) (q_heats : Ar) (q_starts : Ar) (q_families : Ar) (q_generations : Ar) (q_tally : Ar) (q_stories : Int32) (q_nextFamily : Int32) (q_splits : Int32) (q_boilings : Int32) (q_fizzles : Int32) (p1 : Int32) (ro : Int32) (hf : f_X2_heatOfLetter Fu q_letters q_heats q_starts q_stories p1 = some (ro)) : MI l yX2_heatOfLetter wsX2_heatOfLetter 1 20 [.ref (a 0), .int p1] D y (w_X2 y a q_settings q_letters q_heats q_starts q_families q_generations q_tally q_stories q_nextFamily q_splits q_boilings q_fizzles) sz ro (w_X2 y a q_settings q_letters q_heats q_starts q_families q_generations q_tally q_stories q_nextFamily q_splits q_boilings q_fizzles) := by
  refine M_i (cc := cX2_heatOfLetter) (maxL := 4) (own := RX2) (by decide) rfl rfl (Nat.le_of_ble_eq_true rfl) ?_
  intro p e s m args below meth c A Q F hK hA H locs hG hret ls hl
  have hx := F.1
  have hb := F.2.1
  have hl : lv_has ls 4 [(0, .ref (a 0)), (1, .int p1)] := hl
  have k0 := F.2.2.2.2 (.fieldLink RX2 15 "HeatedStories$Shelf" "letters" "[I") (List.mem_of_getElem? (i := 1) rfl)
  have k1 : ∀ w ∈ wsX20, w ∈ wsX2_heatOfLetter := (fun w h => List.mem_cons_of_mem _ (List.mem_append_right _ (h)))
  have k2 := F.2.2.2.2 (.fieldLink RX2 18 "HeatedStories$Shelf" "heats" "[I") (List.mem_of_getElem? (i := 2) rfl)
  unfold f_X2_heatOfLetter at hf
  refine lv_iconst (v := nI 0) hx hb dX2_heatOfLetter_0 rfl ?_
  refine lv_istore_n (lv' := [(2, .int (nI 0)), (0, .ref (a 0)), (1, .int p1)]) hx hb dX2_heatOfLetter_1 rfl hl (by decide) rfl (fun ls hl => ?_)
  refine lv_iconst (v := nI 0) hx hb dX2_heatOfLetter_2 rfl ?_
  refine lv_istore_n (lv' := [(3, .int (nI 0)), (2, .int (nI 0)), (0, .ref (a 0)), (1, .int p1)]) hx hb dX2_heatOfLetter_3 rfl hl (by decide) rfl (fun ls hl => ?_)
  obtain ⟨k_4, ek_4, hf⟩ := jn_e hf
  have hk_4 : ∀ (v11 : Int32) (H : Heap) (locs : List Loc) (ls : Array Slot), k_4 v11 = some (ro) → GG D A s.heap (w_X2 y a q_settings q_letters q_heats q_starts q_families q_generations q_tally q_stories q_nextFamily q_splits q_boilings q_fizzles) H locs → lv_has ls 4 [(2, .int v11)] → W p l e (RM 1 20) s m args below meth c H locs 0 0 Q (F0 m 41 ls []) := by
    intro v11 H locs ls hf hG hl
    rw [ek_4] at hf
    refine lv_iload_n hx hb dX2_heatOfLetter_41 rfl (lv_at hl 0 rfl) ?_
    have hf := so_e hf
    have e0 : v11 = ro := hf
    exact hret _ _ _ _ _ e0 hG dX2_heatOfLetter_42
  have hL4 : ∀ (fu : Nat) (x1 : Int32) (x2 : Int32) (H : Heap) (locs : List Loc) (ls : Array Slot), f_X2_heatOfLetter_L4 Fu k_4 q_letters q_heats q_starts q_stories p1 fu x1 x2 = some (ro) → GG D A s.heap (w_X2 y a q_settings q_letters q_heats q_starts q_families q_generations q_tally q_stories q_nextFamily q_splits q_boilings q_fizzles) H locs → lv_has ls 4 [(0, .ref (a 0)), (1, .int p1), (2, .int x1), (3, .int x2)] → W p l e (RM 1 20) s m args below meth c H locs 0 0 Q (F0 m 4 ls []) := by
    intro fu
    induction fu with
    | zero => intro x1 x2 H locs ls hf hG hl; exact no_e hf
    | succ fu ih =>
      intro x1 x2 H locs ls hf hG hl
      rw [f_X2_heatOfLetter_L4_s] at hf
      refine lv_iload_n hx hb dX2_heatOfLetter_4 rfl (lv_at hl 3 rfl) ?_
      refine lv_aload_n hx hb dX2_heatOfLetter_5 rfl (lv_at hl 0 rfl) ?_
      obtain ⟨r3, h4, hf⟩ := bd1_e hf
      refine k_Wi F hK hA hG (c_X2_words l D y a H.size Fu q_settings q_letters q_heats q_starts q_families q_generations q_tally q_stories q_nextFamily q_splits q_boilings q_fizzles r3 h4) (cwV 0 F.2.2.2.2 gX2_heatOfLetter_X2_words rfl rfl rfl (by decide +kernel) ⟨Nat.le_of_ble_eq_true rfl, Nat.le_of_ble_eq_true rfl⟩) 0 rfl rfl rfl rfl rfl hl.1 (Nat.le_of_ble_eq_true rfl) dX2_heatOfLetter_6 ⟨Nat.le_refl 0, Nat.le_refl 0⟩ (fun H locs hG => ?_)
      refine lv_icmp_ge (tgt := 41) hx hb dX2_heatOfLetter_9 (by decide) (fun c5 => ?_) (fun c5 => ?_)
      · have hf := it_e c5 hf
        exact hk_4 x1 _ _ ls hf hG (lv_sub hl [2] rfl)
      · have hf := if_e c5 hf
        refine lv_iload_n hx hb dX2_heatOfLetter_12 rfl (lv_at hl 2 rfl) ?_
        refine lv_aload_n hx hb dX2_heatOfLetter_13 rfl (lv_at hl 0 rfl) ?_
        refine w_get2 F hK hG k1 0 rfl 1 (by decide) k0 rfl dX2_heatOfLetter_14 ?_
        refine lv_iload_n hx hb dX2_heatOfLetter_17 rfl (lv_at hl 3 rfl) ?_
        obtain ⟨g6, hf⟩ := gd_e hf
        refine w_iald F hK hG 2 rfl g6 dX2_heatOfLetter_18 ?_
        refine lv_iload_n hx hb dX2_heatOfLetter_19 rfl (lv_at hl 1 rfl) ?_
        obtain ⟨j10, ej10, hf⟩ := jn_e hf
        have hj10 : ∀ (v9 : Int32) (H : Heap) (locs : List Loc) (ls : Array Slot), j10 v9 = some (ro) → GG D A s.heap (w_X2 y a q_settings q_letters q_heats q_starts q_families q_generations q_tally q_stories q_nextFamily q_splits q_boilings q_fizzles) H locs → lv_has ls 4 [(0, .ref (a 0)), (1, .int p1), (3, .int x2)] → W p l e (RM 1 20) s m args below meth c H locs 0 0 Q (F0 m 33 ls [.int v9, .int x1]) := by
          intro v9 H locs ls hf hG hl
          rw [ej10] at hf
          refine lv_iadd hx hb dX2_heatOfLetter_33 ?_
          refine lv_istore_n (lv' := [(2, .int (x1 + v9)), (0, .ref (a 0)), (1, .int p1), (3, .int x2)]) hx hb dX2_heatOfLetter_34 rfl hl (by decide) rfl (fun ls hl => ?_)
          refine lv_iinc (v := x2 + (nI 1)) (lv' := [(3, .int (x2 + (nI 1))), (2, .int (x1 + v9)), (0, .ref (a 0)), (1, .int p1)]) hx hb dX2_heatOfLetter_35 hl (k := 3) rfl rfl (by decide) rfl (fun ls hl => ?_)
          refine lv_goto (tgt := 4) hx hb dX2_heatOfLetter_38 (by decide) ?_
          exact ih (x1 + v9) (x2 + (nI 1)) _ _ ls hf hG (lv_sub hl [2, 3, 1, 0] rfl)
        refine lv_icmp_ne (tgt := 32) hx hb dX2_heatOfLetter_20 (by decide) (fun c7 => ?_) (fun c7 => ?_)
        · have hf := if_e c7 hf
          refine lv_iconst (v := nI 0) hx hb dX2_heatOfLetter_32 rfl ?_
          exact hj10 (nI 0) _ _ ls hf hG (lv_sub hl [0, 1, 3] rfl)
        · have hf := it_e c7 hf
          refine lv_aload_n hx hb dX2_heatOfLetter_23 rfl (lv_at hl 0 rfl) ?_
          refine w_get2 F hK hG k1 0 rfl 2 (by decide) k2 rfl dX2_heatOfLetter_24 ?_
          refine lv_iload_n hx hb dX2_heatOfLetter_27 rfl (lv_at hl 3 rfl) ?_
          obtain ⟨g8, hf⟩ := gd_e hf
          refine w_iald F hK hG 3 rfl g8 dX2_heatOfLetter_28 ?_
          refine lv_goto (tgt := 33) hx hb dX2_heatOfLetter_29 (by decide) ?_
          exact hj10 (q_heats (x2).toNatClampNeg) _ _ ls hf hG (lv_sub hl [0, 1, 3] rfl)
  exact hL4 Fu (nI 0) (nI 0) _ _ ls hf hG (lv_sub hl [2, 3, 1, 0] rfl)
set_option maxHeartbeats 1000000 in
set_option maxRecDepth 100000 in
theorem c_X2_isPair (l : Launch) (D : va_G) (y : Nat → ClassId) (a : Nat → Nat) (sz : Nat) (Fu : Nat) (q_settings : Ar) (q_letters : Ar) (q_heats : Ar) (q_starts : Ar) (q_families : Ar) (q_generations : Ar) (q_tally : Ar) (q_stories : Int32) (q_nextFamily : Int32) (q_splits : Int32) (q_boilings : Int32) (q_fizzles : Int32) (p1 : Int32) (p2 : Int32) (p3 : Int32) (ro : Int32) (hf : f_X2_isPair Fu q_letters q_starts q_stories p1 p2 p3 = some (ro)) : MI l yX2_isPair wsX2_isPair 1 22 [.ref (a 0), .int p1, .int p2, .int p3] D y (w_X2 y a q_settings q_letters q_heats q_starts q_families q_generations q_tally q_stories q_nextFamily q_splits q_boilings q_fizzles) sz ro (w_X2 y a q_settings q_letters q_heats q_starts q_families q_generations q_tally q_stories q_nextFamily q_splits q_boilings q_fizzles) := by
  refine M_z (cc := cX2_isPair) (maxL := 4) (own := RX2) (by decide) rfl rfl (Nat.le_of_ble_eq_true rfl) ?_
  intro p e s m args below meth c A Q F hK hA H locs hG hret ls hl
  have hx := F.1
  have hb := F.2.1
  have hl : lv_has ls 4 [(0, .ref (a 0)), (1, .int p1), (2, .int p2), (3, .int p3)] := hl
  have k0 := F.2.2.2.2 (.fieldLink RX2 15 "HeatedStories$Shelf" "letters" "[I") (List.mem_of_getElem? (i := 1) rfl)
  have k1 : ∀ w ∈ wsX20, w ∈ wsX2_isPair := (fun w h => List.mem_cons_of_mem _ (List.mem_append_right _ (h)))
  unfold f_X2_isPair at hf
  refine lv_aload_n hx hb dX2_isPair_0 rfl (lv_at hl 0 rfl) ?_
  refine w_get2 F hK hG k1 0 rfl 1 (by decide) k0 rfl dX2_isPair_1 ?_
  refine lv_iload_n hx hb dX2_isPair_4 rfl (lv_at hl 1 rfl) ?_
  obtain ⟨g1, hf⟩ := gd_e hf
  refine w_iald F hK hG 2 rfl g1 dX2_isPair_5 ?_
  refine lv_iload_n hx hb dX2_isPair_6 rfl (lv_at hl 2 rfl) ?_
  obtain ⟨j11, ej11, hf⟩ := jn_e hf
  have hj11 : ∀ (v10 : Int32) (H : Heap) (locs : List Loc) (ls : Array Slot), j11 v10 = some (ro) → GG D A s.heap (w_X2 y a q_settings q_letters q_heats q_starts q_families q_generations q_tally q_stories q_nextFamily q_splits q_boilings q_fizzles) H locs → lv_has ls 4 [] → W p l e (RM 1 22) s m args below meth c H locs 0 0 Q (F0 m 42 ls [.int v10]) := by
    intro v10 H locs ls hf hG hl
    rw [ej11] at hf
    obtain ⟨gz, hf⟩ := gd_e hf
    have hf := so_e hf
    have e0 : v10 = ro := hf
    exact hret _ _ _ _ _ (bz_n gz) e0 hG dX2_isPair_42
  refine lv_icmp_ne (tgt := 41) hx hb dX2_isPair_7 (by decide) (fun c2 => ?_) (fun c2 => ?_)
  · have hf := if_e c2 hf
    refine lv_iconst (v := nI 0) hx hb dX2_isPair_41 rfl ?_
    exact hj11 (nI 0) _ _ ls hf hG (lv_sub hl [] rfl)
  · have hf := it_e c2 hf
    refine lv_aload_n hx hb dX2_isPair_10 rfl (lv_at hl 0 rfl) ?_
    refine w_get2 F hK hG k1 0 rfl 1 (by decide) k0 rfl dX2_isPair_11 ?_
    refine lv_iload_n hx hb dX2_isPair_14 rfl (lv_at hl 1 rfl) ?_
    refine lv_iconst (v := nI 1) hx hb dX2_isPair_15 rfl ?_
    refine lv_iadd hx hb dX2_isPair_16 ?_
    obtain ⟨g3, hf⟩ := gd_e hf
    refine w_iald F hK hG 2 rfl g3 dX2_isPair_17 ?_
    refine lv_iload_n hx hb dX2_isPair_18 rfl (lv_at hl 3 rfl) ?_
    refine lv_icmp_ne (tgt := 41) hx hb dX2_isPair_19 (by decide) (fun c4 => ?_) (fun c4 => ?_)
    · have hf := if_e c4 hf
      refine lv_iconst (v := nI 0) hx hb dX2_isPair_41 rfl ?_
      exact hj11 (nI 0) _ _ ls hf hG (lv_sub hl [] rfl)
    · have hf := it_e c4 hf
      refine lv_aload_n hx hb dX2_isPair_22 rfl (lv_at hl 0 rfl) ?_
      refine lv_iload_n hx hb dX2_isPair_23 rfl (lv_at hl 1 rfl) ?_
      obtain ⟨r5, h6, hf⟩ := bd1_e hf
      refine k_Wi F hK hA hG (c_X2_storyAt l D y a H.size Fu q_settings q_letters q_heats q_starts q_families q_generations q_tally q_stories q_nextFamily q_splits q_boilings q_fizzles p1 r5 h6) (cwV 1 F.2.2.2.2 gX2_isPair_X2_storyAt rfl rfl rfl (by decide +kernel) ⟨Nat.le_of_ble_eq_true rfl, Nat.le_of_ble_eq_true rfl⟩) 0 rfl rfl rfl rfl rfl hl.1 (Nat.le_of_ble_eq_true rfl) dX2_isPair_24 ⟨Nat.le_refl 0, Nat.le_refl 0⟩ (fun H locs hG => ?_)
      refine lv_aload_n hx hb dX2_isPair_27 rfl (lv_at hl 0 rfl) ?_
      refine lv_iload_n hx hb dX2_isPair_28 rfl (lv_at hl 1 rfl) ?_
      refine lv_iconst (v := nI 1) hx hb dX2_isPair_29 rfl ?_
      refine lv_iadd hx hb dX2_isPair_30 ?_
      obtain ⟨r7, h8, hf⟩ := bd1_e hf
      refine k_Wi F hK hA hG (c_X2_storyAt l D y a H.size Fu q_settings q_letters q_heats q_starts q_families q_generations q_tally q_stories q_nextFamily q_splits q_boilings q_fizzles (p1 + (nI 1)) r7 h8) (cwV 1 F.2.2.2.2 gX2_isPair_X2_storyAt rfl rfl rfl (by decide +kernel) ⟨Nat.le_of_ble_eq_true rfl, Nat.le_of_ble_eq_true rfl⟩) 0 rfl rfl rfl rfl rfl hl.1 (Nat.le_of_ble_eq_true rfl) dX2_isPair_31 ⟨Nat.le_refl 0, Nat.le_refl 0⟩ (fun H locs hG => ?_)
      refine lv_icmp_ne (tgt := 41) hx hb dX2_isPair_34 (by decide) (fun c9 => ?_) (fun c9 => ?_)
      · have hf := if_e c9 hf
        refine lv_iconst (v := nI 0) hx hb dX2_isPair_41 rfl ?_
        exact hj11 (nI 0) _ _ ls hf hG (lv_sub hl [] rfl)
      · have hf := it_e c9 hf
        refine lv_iconst (v := nI 1) hx hb dX2_isPair_37 rfl ?_
        refine lv_goto (tgt := 42) hx hb dX2_isPair_38 (by decide) ?_
        exact hj11 (nI 1) _ _ ls hf hG (lv_sub hl [] rfl)
set_option maxHeartbeats 1000000 in
set_option maxRecDepth 100000 in
theorem c_X3_write (l : Launch) (D : va_G) (y : Nat → ClassId) (a pa na ta ha : Nat → Nat) (hsb : Nat → Nat → Nat) (sl : Nat) (ssb : Nat → Nat → Nat) (sz : Nat) (Fu : Nat) (q_saved : Ar) (q_runs : Ar) (q_themes : Ar) (q_storyHeats : Ar) (p_characters : Ar) (p_length : Int32) (n_settings : Ar) (n_letters : Ar) (n_heats : Ar) (n_starts : Ar) (n_families : Ar) (n_generations : Ar) (n_tally : Ar) (n_stories : Int32) (n_nextFamily : Int32) (n_splits : Int32) (n_boilings : Int32) (n_fizzles : Int32) (t_settings : Ar) (t_letters : Ar) (t_heats : Ar) (t_starts : Ar) (t_families : Ar) (t_generations : Ar) (t_tally : Ar) (t_stories : Int32) (t_nextFamily : Int32) (t_splits : Int32) (t_boilings : Int32) (t_fizzles : Int32) (h_v : (Nat → SV)) (h_oldest : Int32) (h_size : Int32) (s_v : (Nat → SV)) (ro : Int32) (p_length_o : Int32) (n_letters_o : Ar) (n_heats_o : Ar) (n_starts_o : Ar) (n_families_o : Ar) (n_generations_o : Ar) (n_stories_o : Int32) (n_nextFamily_o : Int32) (n_splits_o : Int32) (n_boilings_o : Int32) (n_fizzles_o : Int32) (h_v_o : (Nat → SV)) (h_oldest_o : Int32) (h_size_o : Int32) (hf : f_X3_write Fu p_characters p_length n_settings n_letters n_heats n_starts n_families n_generations n_stories n_nextFamily n_splits n_boilings n_fizzles h_v h_oldest h_size = some (ro, p_length_o, n_letters_o, n_heats_o, n_starts_o, n_families_o, n_generations_o, n_stories_o, n_nextFamily_o, n_splits_o, n_boilings_o, n_fizzles_o, h_v_o, h_oldest_o, h_size_o)) : MI l yX3_write wsX3_write 4 110 [.ref (a 0)] D y (w_X3 y a pa na ta ha sl q_saved q_runs q_themes q_storyHeats ++ (w_X1 y pa p_characters p_length ++ (w_X2 y na n_settings n_letters n_heats n_starts n_families n_generations n_tally n_stories n_nextFamily n_splits n_boilings n_fizzles ++ (w_X2 y ta t_settings t_letters t_heats t_starts t_families t_generations t_tally t_stories t_nextFamily t_splits t_boilings t_fizzles ++ (w_X0 y ha hsb h_v h_oldest h_size ++ w_SL y sl ssb s_v))))) sz ro (w_X3 y a pa na ta ha sl q_saved q_runs q_themes q_storyHeats ++ (w_X1 y pa p_characters p_length_o ++ (w_X2 y na n_settings n_letters_o n_heats_o n_starts_o n_families_o n_generations_o n_tally n_stories_o n_nextFamily_o n_splits_o n_boilings_o n_fizzles_o ++ (w_X2 y ta t_settings t_letters t_heats t_starts t_families t_generations t_tally t_stories t_nextFamily t_splits t_boilings t_fizzles ++ (w_X0 y ha hsb h_v_o h_oldest_o h_size_o ++ w_SL y sl ssb s_v))))) := by
  refine M_i (cc := cX3_write) (maxL := 1) (own := RX3) (by decide) rfl rfl (Nat.le_of_ble_eq_true rfl) ?_
  intro p e s m args below meth c A Q F hK hA H locs hG hret ls hl
  have hx := F.1
  have hb := F.2.1
  have hl : lv_has ls 1 [(0, .ref (a 0))] := hl
  have k0 := F.2.2.2.2 (.fieldLink RX3 37 "HeatedStories" "pad" "LHeatedStories$Pad;") (List.mem_of_getElem? (i := 1) rfl)
  have k1 : ∀ w ∈ wsX30, w ∈ wsX3_write := (fun w h => List.mem_cons_of_mem _ (List.mem_append_left _ (List.mem_append_left _ (List.mem_append_left _ (List.mem_append_right _ (h))))))
  have k2 := F.2.2.2.2 (.fieldLink RX3 10 "HeatedStories" "now" "LHeatedStories$Shelf;") (List.mem_of_getElem? (i := 2) rfl)
  have k3 := F.2.2.2.2 (.fieldLink RX3 72 "HeatedStories$Shelf" "stories" "I") (List.mem_of_getElem? (i := 3) rfl)
  have k4 : ∀ w ∈ wsX20, w ∈ wsX3_write := (fun w h => List.mem_cons_of_mem _ (List.mem_append_left _ (List.mem_append_left _ (List.mem_append_right _ (h)))))
  have k5 := F.2.2.2.2 (.fieldLink RX3 22 "HeatedStories" "history" "LHeatedStories$History;") (List.mem_of_getElem? (i := 4) rfl)
  have k6 := F.2.2.2.2 (.fieldLink RX3 88 "HeatedStories$Pad" "length" "I") (List.mem_of_getElem? (i := 5) rfl)
  have k7 : ∀ w ∈ wsX10, w ∈ wsX3_write := (fun w h => List.mem_cons_of_mem _ (List.mem_append_left _ (List.mem_append_right _ (h))))
  unfold f_X3_write at hf
  refine lv_aload_n hx hb dX3_write_0 rfl (lv_at hl 0 rfl) ?_
  refine w_get3 F hK hG k1 0 rfl 5 (by decide) k0 rfl dX3_write_1 ?_
  obtain ⟨r1, h2, hf⟩ := bd1_e hf
  have hG : GG D A s.heap ((w_X1 y pa p_characters p_length) ++ (w_X3 y a pa na ta ha sl q_saved q_runs q_themes q_storyHeats ++ (w_X2 y na n_settings n_letters n_heats n_starts n_families n_generations n_tally n_stories n_nextFamily n_splits n_boilings n_fizzles ++ (w_X2 y ta t_settings t_letters t_heats t_starts t_families t_generations t_tally t_stories t_nextFamily t_splits t_boilings t_fizzles ++ (w_X0 y ha hsb h_v h_oldest h_size ++ (w_SL y sl ssb s_v)))))) H locs := GG.blk (fun k => match k with | 0 => w_X3 y a pa na ta ha sl q_saved q_runs q_themes q_storyHeats | 1 => w_X1 y pa p_characters p_length | 2 => w_X2 y na n_settings n_letters n_heats n_starts n_families n_generations n_tally n_stories n_nextFamily n_splits n_boilings n_fizzles | 3 => w_X2 y ta t_settings t_letters t_heats t_starts t_families t_generations t_tally t_stories t_nextFamily t_splits t_boilings t_fizzles | 4 => w_X0 y ha hsb h_v h_oldest h_size | _ => w_SL y sl ssb s_v) [0, 1, 2, 3, 4, 5] [1, 0, 2, 3, 4, 5] (blkp _ _ rfl) _ _ rfl rfl hG
  refine k_Pi F hK hA hG (c_X1_firstFault l D y pa H.size Fu p_characters p_length r1 h2) (cwV 0 F.2.2.2.2 gX3_write_X1_firstFault rfl rfl rfl (by decide +kernel) ⟨Nat.le_of_ble_eq_true rfl, Nat.le_of_ble_eq_true rfl⟩) 0 rfl rfl rfl rfl rfl hl.1 (Nat.le_of_ble_eq_true rfl) dX3_write_4 ⟨Nat.le_refl 0, Nat.le_refl 0⟩ (fun H locs hG => ?_)
  have hG : GG D A s.heap (w_X3 y a pa na ta ha sl q_saved q_runs q_themes q_storyHeats ++ (w_X1 y pa p_characters p_length ++ (w_X2 y na n_settings n_letters n_heats n_starts n_families n_generations n_tally n_stories n_nextFamily n_splits n_boilings n_fizzles ++ (w_X2 y ta t_settings t_letters t_heats t_starts t_families t_generations t_tally t_stories t_nextFamily t_splits t_boilings t_fizzles ++ (w_X0 y ha hsb h_v h_oldest h_size ++ w_SL y sl ssb s_v))))) H locs := GG.blk (fun k => match k with | 0 => w_X3 y a pa na ta ha sl q_saved q_runs q_themes q_storyHeats | 1 => w_X1 y pa p_characters p_length | 2 => w_X2 y na n_settings n_letters n_heats n_starts n_families n_generations n_tally n_stories n_nextFamily n_splits n_boilings n_fizzles | 3 => w_X2 y ta t_settings t_letters t_heats t_starts t_families t_generations t_tally t_stories t_nextFamily t_splits t_boilings t_fizzles | 4 => w_X0 y ha hsb h_v h_oldest h_size | _ => w_SL y sl ssb s_v) [1, 0, 2, 3, 4, 5] [0, 1, 2, 3, 4, 5] (blkp _ _ rfl) _ _ rfl rfl hG
  refine lv_bipush (v := -6) hx hb dX3_write_7 rfl ?_
  refine lv_icmp_eq (tgt := 15) hx hb dX3_write_9 (by decide) (fun c3 => ?_) (fun c3 => ?_)
  · have hf := it_e c3 hf
    refine lv_aload_n hx hb dX3_write_15 rfl (lv_at hl 0 rfl) ?_
    refine w_get3 F hK hG k1 0 rfl 0 (by decide) k2 rfl dX3_write_16 ?_
    refine w_get2 F hK hG k4 7 rfl 7 (by decide) k3 rfl dX3_write_19 ?_
    refine lv_aload_n hx hb dX3_write_22 rfl (lv_at hl 0 rfl) ?_
    refine w_get3 F hK hG k1 0 rfl 5 (by decide) k0 rfl dX3_write_23 ?_
    obtain ⟨r4, h5, hf⟩ := bd1_e hf
    have hG : GG D A s.heap ((w_X1 y pa p_characters p_length) ++ (w_X3 y a pa na ta ha sl q_saved q_runs q_themes q_storyHeats ++ (w_X2 y na n_settings n_letters n_heats n_starts n_families n_generations n_tally n_stories n_nextFamily n_splits n_boilings n_fizzles ++ (w_X2 y ta t_settings t_letters t_heats t_starts t_families t_generations t_tally t_stories t_nextFamily t_splits t_boilings t_fizzles ++ (w_X0 y ha hsb h_v h_oldest h_size ++ (w_SL y sl ssb s_v)))))) H locs := GG.blk (fun k => match k with | 0 => w_X3 y a pa na ta ha sl q_saved q_runs q_themes q_storyHeats | 1 => w_X1 y pa p_characters p_length | 2 => w_X2 y na n_settings n_letters n_heats n_starts n_families n_generations n_tally n_stories n_nextFamily n_splits n_boilings n_fizzles | 3 => w_X2 y ta t_settings t_letters t_heats t_starts t_families t_generations t_tally t_stories t_nextFamily t_splits t_boilings t_fizzles | 4 => w_X0 y ha hsb h_v h_oldest h_size | _ => w_SL y sl ssb s_v) [0, 1, 2, 3, 4, 5] [1, 0, 2, 3, 4, 5] (blkp _ _ rfl) _ _ rfl rfl hG
    refine k_Pi F hK hA hG (c_X1_storiesIn l D y pa H.size Fu p_characters p_length r4 h5) (cwV 0 F.2.2.2.2 gX3_write_X1_storiesIn rfl rfl rfl (by decide +kernel) ⟨Nat.le_of_ble_eq_true rfl, Nat.le_of_ble_eq_true rfl⟩) 0 rfl rfl rfl rfl rfl hl.1 (Nat.le_of_ble_eq_true rfl) dX3_write_26 ⟨Nat.le_refl 0, Nat.le_refl 0⟩ (fun H locs hG => ?_)
    have hG : GG D A s.heap (w_X3 y a pa na ta ha sl q_saved q_runs q_themes q_storyHeats ++ (w_X1 y pa p_characters p_length ++ (w_X2 y na n_settings n_letters n_heats n_starts n_families n_generations n_tally n_stories n_nextFamily n_splits n_boilings n_fizzles ++ (w_X2 y ta t_settings t_letters t_heats t_starts t_families t_generations t_tally t_stories t_nextFamily t_splits t_boilings t_fizzles ++ (w_X0 y ha hsb h_v h_oldest h_size ++ w_SL y sl ssb s_v))))) H locs := GG.blk (fun k => match k with | 0 => w_X3 y a pa na ta ha sl q_saved q_runs q_themes q_storyHeats | 1 => w_X1 y pa p_characters p_length | 2 => w_X2 y na n_settings n_letters n_heats n_starts n_families n_generations n_tally n_stories n_nextFamily n_splits n_boilings n_fizzles | 3 => w_X2 y ta t_settings t_letters t_heats t_starts t_families t_generations t_tally t_stories t_nextFamily t_splits t_boilings t_fizzles | 4 => w_X0 y ha hsb h_v h_oldest h_size | _ => w_SL y sl ssb s_v) [1, 0, 2, 3, 4, 5] [0, 1, 2, 3, 4, 5] (blkp _ _ rfl) _ _ rfl rfl hG
    refine lv_iadd hx hb dX3_write_29 ?_
    refine lv_bipush (v := nI 12) hx hb dX3_write_30 rfl ?_
    refine lv_icmp_gt (tgt := 56) hx hb dX3_write_32 (by decide) (fun c6 => ?_) (fun c6 => ?_)
    · have hf := it_e c6 hf
      refine lv_bipush (v := -4) hx hb dX3_write_56 rfl ?_
      have hf := so_e hf
      have e0 : (-4) = ro := congrArg (fun z => z.1) hf
      have e1 : p_length = p_length_o := congrArg (fun z => z.2.1) hf
      have e2 : n_letters = n_letters_o := congrArg (fun z => z.2.2.1) hf
      have e3 : n_heats = n_heats_o := congrArg (fun z => z.2.2.2.1) hf
      have e4 : n_starts = n_starts_o := congrArg (fun z => z.2.2.2.2.1) hf
      have e5 : n_families = n_families_o := congrArg (fun z => z.2.2.2.2.2.1) hf
      have e6 : n_generations = n_generations_o := congrArg (fun z => z.2.2.2.2.2.2.1) hf
      have e7 : n_stories = n_stories_o := congrArg (fun z => z.2.2.2.2.2.2.2.1) hf
      have e8 : n_nextFamily = n_nextFamily_o := congrArg (fun z => z.2.2.2.2.2.2.2.2.1) hf
      have e9 : n_splits = n_splits_o := congrArg (fun z => z.2.2.2.2.2.2.2.2.2.1) hf
      have e10 : n_boilings = n_boilings_o := congrArg (fun z => z.2.2.2.2.2.2.2.2.2.2.1) hf
      have e11 : n_fizzles = n_fizzles_o := congrArg (fun z => z.2.2.2.2.2.2.2.2.2.2.2.1) hf
      have e12 : h_v = h_v_o := congrArg (fun z => z.2.2.2.2.2.2.2.2.2.2.2.2.1) hf
      have e13 : h_oldest = h_oldest_o := congrArg (fun z => z.2.2.2.2.2.2.2.2.2.2.2.2.2.1) hf
      have e14 : h_size = h_size_o := congrArg (fun z => z.2.2.2.2.2.2.2.2.2.2.2.2.2.2) hf
      exact hret _ _ _ _ _ e0 (by rw [← e1, ← e2, ← e3, ← e4, ← e5, ← e6, ← e7, ← e8, ← e9, ← e10, ← e11, ← e12, ← e13, ← e14]; exact hG) dX3_write_58
    · have hf := if_e c6 hf
      refine lv_aload_n hx hb dX3_write_35 rfl (lv_at hl 0 rfl) ?_
      refine w_get3 F hK hG k1 0 rfl 0 (by decide) k2 rfl dX3_write_36 ?_
      obtain ⟨r7, h8, hf⟩ := bd1_e hf
      have hG : GG D A s.heap ((w_X2 y na n_settings n_letters n_heats n_starts n_families n_generations n_tally n_stories n_nextFamily n_splits n_boilings n_fizzles) ++ (w_X3 y a pa na ta ha sl q_saved q_runs q_themes q_storyHeats ++ (w_X1 y pa p_characters p_length ++ (w_X2 y ta t_settings t_letters t_heats t_starts t_families t_generations t_tally t_stories t_nextFamily t_splits t_boilings t_fizzles ++ (w_X0 y ha hsb h_v h_oldest h_size ++ (w_SL y sl ssb s_v)))))) H locs := GG.blk (fun k => match k with | 0 => w_X3 y a pa na ta ha sl q_saved q_runs q_themes q_storyHeats | 1 => w_X1 y pa p_characters p_length | 2 => w_X2 y na n_settings n_letters n_heats n_starts n_families n_generations n_tally n_stories n_nextFamily n_splits n_boilings n_fizzles | 3 => w_X2 y ta t_settings t_letters t_heats t_starts t_families t_generations t_tally t_stories t_nextFamily t_splits t_boilings t_fizzles | 4 => w_X0 y ha hsb h_v h_oldest h_size | _ => w_SL y sl ssb s_v) [0, 1, 2, 3, 4, 5] [2, 0, 1, 3, 4, 5] (blkp _ _ rfl) _ _ rfl rfl hG
      refine k_Pi F hK hA hG (c_X2_words l D y na H.size Fu n_settings n_letters n_heats n_starts n_families n_generations n_tally n_stories n_nextFamily n_splits n_boilings n_fizzles r7 h8) (cwV 0 F.2.2.2.2 gX3_write_X2_words rfl rfl rfl (by decide +kernel) ⟨Nat.le_of_ble_eq_true rfl, Nat.le_of_ble_eq_true rfl⟩) 0 rfl rfl rfl rfl rfl hl.1 (Nat.le_of_ble_eq_true rfl) dX3_write_39 ⟨Nat.le_refl 0, Nat.le_refl 0⟩ (fun H locs hG => ?_)
      have hG : GG D A s.heap (w_X3 y a pa na ta ha sl q_saved q_runs q_themes q_storyHeats ++ (w_X1 y pa p_characters p_length ++ (w_X2 y na n_settings n_letters n_heats n_starts n_families n_generations n_tally n_stories n_nextFamily n_splits n_boilings n_fizzles ++ (w_X2 y ta t_settings t_letters t_heats t_starts t_families t_generations t_tally t_stories t_nextFamily t_splits t_boilings t_fizzles ++ (w_X0 y ha hsb h_v h_oldest h_size ++ w_SL y sl ssb s_v))))) H locs := GG.blk (fun k => match k with | 0 => w_X3 y a pa na ta ha sl q_saved q_runs q_themes q_storyHeats | 1 => w_X1 y pa p_characters p_length | 2 => w_X2 y na n_settings n_letters n_heats n_starts n_families n_generations n_tally n_stories n_nextFamily n_splits n_boilings n_fizzles | 3 => w_X2 y ta t_settings t_letters t_heats t_starts t_families t_generations t_tally t_stories t_nextFamily t_splits t_boilings t_fizzles | 4 => w_X0 y ha hsb h_v h_oldest h_size | _ => w_SL y sl ssb s_v) [2, 0, 1, 3, 4, 5] [0, 1, 2, 3, 4, 5] (blkp _ _ rfl) _ _ rfl rfl hG
      refine lv_aload_n hx hb dX3_write_42 rfl (lv_at hl 0 rfl) ?_
      refine w_get3 F hK hG k1 0 rfl 5 (by decide) k0 rfl dX3_write_43 ?_
      obtain ⟨r9, h10, hf⟩ := bd1_e hf
      have hG : GG D A s.heap ((w_X1 y pa p_characters p_length) ++ (w_X3 y a pa na ta ha sl q_saved q_runs q_themes q_storyHeats ++ (w_X2 y na n_settings n_letters n_heats n_starts n_families n_generations n_tally n_stories n_nextFamily n_splits n_boilings n_fizzles ++ (w_X2 y ta t_settings t_letters t_heats t_starts t_families t_generations t_tally t_stories t_nextFamily t_splits t_boilings t_fizzles ++ (w_X0 y ha hsb h_v h_oldest h_size ++ (w_SL y sl ssb s_v)))))) H locs := GG.blk (fun k => match k with | 0 => w_X3 y a pa na ta ha sl q_saved q_runs q_themes q_storyHeats | 1 => w_X1 y pa p_characters p_length | 2 => w_X2 y na n_settings n_letters n_heats n_starts n_families n_generations n_tally n_stories n_nextFamily n_splits n_boilings n_fizzles | 3 => w_X2 y ta t_settings t_letters t_heats t_starts t_families t_generations t_tally t_stories t_nextFamily t_splits t_boilings t_fizzles | 4 => w_X0 y ha hsb h_v h_oldest h_size | _ => w_SL y sl ssb s_v) [0, 1, 2, 3, 4, 5] [1, 0, 2, 3, 4, 5] (blkp _ _ rfl) _ _ rfl rfl hG
      refine k_Pi F hK hA hG (c_X1_wordsIn l D y pa H.size Fu p_characters p_length r9 h10) (cwV 0 F.2.2.2.2 gX3_write_X1_wordsIn rfl rfl rfl (by decide +kernel) ⟨Nat.le_of_ble_eq_true rfl, Nat.le_of_ble_eq_true rfl⟩) 0 rfl rfl rfl rfl rfl hl.1 (Nat.le_of_ble_eq_true rfl) dX3_write_46 ⟨Nat.le_refl 0, Nat.le_refl 0⟩ (fun H locs hG => ?_)
      have hG : GG D A s.heap (w_X3 y a pa na ta ha sl q_saved q_runs q_themes q_storyHeats ++ (w_X1 y pa p_characters p_length ++ (w_X2 y na n_settings n_letters n_heats n_starts n_families n_generations n_tally n_stories n_nextFamily n_splits n_boilings n_fizzles ++ (w_X2 y ta t_settings t_letters t_heats t_starts t_families t_generations t_tally t_stories t_nextFamily t_splits t_boilings t_fizzles ++ (w_X0 y ha hsb h_v h_oldest h_size ++ w_SL y sl ssb s_v))))) H locs := GG.blk (fun k => match k with | 0 => w_X3 y a pa na ta ha sl q_saved q_runs q_themes q_storyHeats | 1 => w_X1 y pa p_characters p_length | 2 => w_X2 y na n_settings n_letters n_heats n_starts n_families n_generations n_tally n_stories n_nextFamily n_splits n_boilings n_fizzles | 3 => w_X2 y ta t_settings t_letters t_heats t_starts t_families t_generations t_tally t_stories t_nextFamily t_splits t_boilings t_fizzles | 4 => w_X0 y ha hsb h_v h_oldest h_size | _ => w_SL y sl ssb s_v) [1, 0, 2, 3, 4, 5] [0, 1, 2, 3, 4, 5] (blkp _ _ rfl) _ _ rfl rfl hG
      refine lv_iadd hx hb dX3_write_49 ?_
      refine lv_sipush (v := nI 150) hx hb dX3_write_50 rfl ?_
      refine lv_icmp_le (tgt := 59) hx hb dX3_write_53 (by decide) (fun c11 => ?_) (fun c11 => ?_)
      · have hf := it_e c11 hf
        refine lv_aload_n hx hb dX3_write_59 rfl (lv_at hl 0 rfl) ?_
        refine w_get3 F hK hG k1 0 rfl 2 (by decide) k5 rfl dX3_write_60 ?_
        refine lv_aload_n hx hb dX3_write_63 rfl (lv_at hl 0 rfl) ?_
        refine w_get3 F hK hG k1 0 rfl 0 (by decide) k2 rfl dX3_write_64 ?_
        obtain ⟨h_v_12, h_oldest_13, h_size_14, h15, hf⟩ := bd3_e hf
        have hG : GG D A s.heap ((w_X0 y ha hsb h_v h_oldest h_size ++ (w_X2 y na n_settings n_letters n_heats n_starts n_families n_generations n_tally n_stories n_nextFamily n_splits n_boilings n_fizzles)) ++ (w_X3 y a pa na ta ha sl q_saved q_runs q_themes q_storyHeats ++ (w_X1 y pa p_characters p_length ++ (w_X2 y ta t_settings t_letters t_heats t_starts t_families t_generations t_tally t_stories t_nextFamily t_splits t_boilings t_fizzles ++ (w_SL y sl ssb s_v))))) H locs := GG.blk (fun k => match k with | 0 => w_X3 y a pa na ta ha sl q_saved q_runs q_themes q_storyHeats | 1 => w_X1 y pa p_characters p_length | 2 => w_X2 y na n_settings n_letters n_heats n_starts n_families n_generations n_tally n_stories n_nextFamily n_splits n_boilings n_fizzles | 3 => w_X2 y ta t_settings t_letters t_heats t_starts t_families t_generations t_tally t_stories t_nextFamily t_splits t_boilings t_fizzles | 4 => w_X0 y ha hsb h_v h_oldest h_size | _ => w_SL y sl ssb s_v) [0, 1, 2, 3, 4, 5] [4, 2, 0, 1, 3, 5] (blkp _ _ rfl) _ _ rfl (List.append_assoc (w_X0 y ha hsb h_v h_oldest h_size) (w_X2 y na n_settings n_letters n_heats n_starts n_families n_generations n_tally n_stories n_nextFamily n_splits n_boilings n_fizzles) (w_X3 y a pa na ta ha sl q_saved q_runs q_themes q_storyHeats ++ (w_X1 y pa p_characters p_length ++ (w_X2 y ta t_settings t_letters t_heats t_starts t_families t_generations t_tally t_stories t_nextFamily t_splits t_boilings t_fizzles ++ (w_SL y sl ssb s_v))))).symm hG
        refine k_Pv F hK hA hG (c_X0_record l D y ha na hsb H.size Fu h_v h_oldest h_size n_settings n_letters n_heats n_starts n_families n_generations n_tally n_stories n_nextFamily n_splits n_boilings n_fizzles h_v_12 h_oldest_13 h_size_14 h15) (cwV 1 F.2.2.2.2 gX3_write_X0_record rfl rfl rfl (by decide +kernel) ⟨Nat.le_of_ble_eq_true rfl, Nat.le_of_ble_eq_true rfl⟩) 0 rfl rfl (adr_app (adr_X0 ..) rfl) rfl rfl hl.1 (Nat.le_of_ble_eq_true rfl) dX3_write_67 ⟨Nat.le_refl 0, Nat.le_refl 0⟩ (fun H locs hG => ?_)
        have hG : GG D A s.heap (w_X3 y a pa na ta ha sl q_saved q_runs q_themes q_storyHeats ++ (w_X1 y pa p_characters p_length ++ (w_X2 y na n_settings n_letters n_heats n_starts n_families n_generations n_tally n_stories n_nextFamily n_splits n_boilings n_fizzles ++ (w_X2 y ta t_settings t_letters t_heats t_starts t_families t_generations t_tally t_stories t_nextFamily t_splits t_boilings t_fizzles ++ (w_X0 y ha hsb h_v_12 h_oldest_13 h_size_14 ++ w_SL y sl ssb s_v))))) H locs := GG.blk (fun k => match k with | 0 => w_X3 y a pa na ta ha sl q_saved q_runs q_themes q_storyHeats | 1 => w_X1 y pa p_characters p_length | 2 => w_X2 y na n_settings n_letters n_heats n_starts n_families n_generations n_tally n_stories n_nextFamily n_splits n_boilings n_fizzles | 3 => w_X2 y ta t_settings t_letters t_heats t_starts t_families t_generations t_tally t_stories t_nextFamily t_splits t_boilings t_fizzles | 4 => w_X0 y ha hsb h_v_12 h_oldest_13 h_size_14 | _ => w_SL y sl ssb s_v) [4, 2, 0, 1, 3, 5] [0, 1, 2, 3, 4, 5] (blkp _ _ rfl) _ _ (List.append_assoc (w_X0 y ha hsb h_v_12 h_oldest_13 h_size_14) (w_X2 y na n_settings n_letters n_heats n_starts n_families n_generations n_tally n_stories n_nextFamily n_splits n_boilings n_fizzles) (w_X3 y a pa na ta ha sl q_saved q_runs q_themes q_storyHeats ++ (w_X1 y pa p_characters p_length ++ (w_X2 y ta t_settings t_letters t_heats t_starts t_families t_generations t_tally t_stories t_nextFamily t_splits t_boilings t_fizzles ++ (w_SL y sl ssb s_v))))) rfl hG
        refine lv_aload_n hx hb dX3_write_70 rfl (lv_at hl 0 rfl) ?_
        refine w_get3 F hK hG k1 0 rfl 5 (by decide) k0 rfl dX3_write_71 ?_
        refine lv_aload_n hx hb dX3_write_74 rfl (lv_at hl 0 rfl) ?_
        refine w_get3 F hK hG k1 0 rfl 0 (by decide) k2 rfl dX3_write_75 ?_
        obtain ⟨n_letters_16, n_heats_17, n_starts_18, n_families_19, n_generations_20, n_stories_21, n_nextFamily_22, h23, hf⟩ := bd7_e hf
        have hG : GG D A s.heap ((w_X1 y pa p_characters p_length ++ (w_X2 y na n_settings n_letters n_heats n_starts n_families n_generations n_tally n_stories n_nextFamily n_splits n_boilings n_fizzles)) ++ (w_X3 y a pa na ta ha sl q_saved q_runs q_themes q_storyHeats ++ (w_X2 y ta t_settings t_letters t_heats t_starts t_families t_generations t_tally t_stories t_nextFamily t_splits t_boilings t_fizzles ++ (w_X0 y ha hsb h_v_12 h_oldest_13 h_size_14 ++ (w_SL y sl ssb s_v))))) H locs := GG.blk (fun k => match k with | 0 => w_X3 y a pa na ta ha sl q_saved q_runs q_themes q_storyHeats | 1 => w_X1 y pa p_characters p_length | 2 => w_X2 y na n_settings n_letters n_heats n_starts n_families n_generations n_tally n_stories n_nextFamily n_splits n_boilings n_fizzles | 3 => w_X2 y ta t_settings t_letters t_heats t_starts t_families t_generations t_tally t_stories t_nextFamily t_splits t_boilings t_fizzles | 4 => w_X0 y ha hsb h_v_12 h_oldest_13 h_size_14 | _ => w_SL y sl ssb s_v) [0, 1, 2, 3, 4, 5] [1, 2, 0, 3, 4, 5] (blkp _ _ rfl) _ _ rfl (List.append_assoc (w_X1 y pa p_characters p_length) (w_X2 y na n_settings n_letters n_heats n_starts n_families n_generations n_tally n_stories n_nextFamily n_splits n_boilings n_fizzles) (w_X3 y a pa na ta ha sl q_saved q_runs q_themes q_storyHeats ++ (w_X2 y ta t_settings t_letters t_heats t_starts t_families t_generations t_tally t_stories t_nextFamily t_splits t_boilings t_fizzles ++ (w_X0 y ha hsb h_v_12 h_oldest_13 h_size_14 ++ (w_SL y sl ssb s_v))))).symm hG
        refine k_Pv F hK hA hG (c_X1_writeTo l D y pa na H.size Fu p_characters p_length n_settings n_letters n_heats n_starts n_families n_generations n_tally n_stories n_nextFamily n_splits n_boilings n_fizzles n_letters_16 n_heats_17 n_starts_18 n_families_19 n_generations_20 n_stories_21 n_nextFamily_22 h23) (cwV 1 F.2.2.2.2 gX3_write_X1_writeTo rfl rfl rfl (by decide +kernel) ⟨Nat.le_of_ble_eq_true rfl, Nat.le_of_ble_eq_true rfl⟩) 0 rfl rfl (adr_app rfl rfl) rfl rfl hl.1 (Nat.le_of_ble_eq_true rfl) dX3_write_78 ⟨Nat.le_refl 0, Nat.le_refl 0⟩ (fun H locs hG => ?_)
        have hG : GG D A s.heap (w_X3 y a pa na ta ha sl q_saved q_runs q_themes q_storyHeats ++ (w_X1 y pa p_characters p_length ++ (w_X2 y na n_settings n_letters_16 n_heats_17 n_starts_18 n_families_19 n_generations_20 n_tally n_stories_21 n_nextFamily_22 n_splits n_boilings n_fizzles ++ (w_X2 y ta t_settings t_letters t_heats t_starts t_families t_generations t_tally t_stories t_nextFamily t_splits t_boilings t_fizzles ++ (w_X0 y ha hsb h_v_12 h_oldest_13 h_size_14 ++ w_SL y sl ssb s_v))))) H locs := GG.blk (fun k => match k with | 0 => w_X3 y a pa na ta ha sl q_saved q_runs q_themes q_storyHeats | 1 => w_X1 y pa p_characters p_length | 2 => w_X2 y na n_settings n_letters_16 n_heats_17 n_starts_18 n_families_19 n_generations_20 n_tally n_stories_21 n_nextFamily_22 n_splits n_boilings n_fizzles | 3 => w_X2 y ta t_settings t_letters t_heats t_starts t_families t_generations t_tally t_stories t_nextFamily t_splits t_boilings t_fizzles | 4 => w_X0 y ha hsb h_v_12 h_oldest_13 h_size_14 | _ => w_SL y sl ssb s_v) [1, 2, 0, 3, 4, 5] [0, 1, 2, 3, 4, 5] (blkp _ _ rfl) _ _ (List.append_assoc (w_X1 y pa p_characters p_length) (w_X2 y na n_settings n_letters_16 n_heats_17 n_starts_18 n_families_19 n_generations_20 n_tally n_stories_21 n_nextFamily_22 n_splits n_boilings n_fizzles) (w_X3 y a pa na ta ha sl q_saved q_runs q_themes q_storyHeats ++ (w_X2 y ta t_settings t_letters t_heats t_starts t_families t_generations t_tally t_stories t_nextFamily t_splits t_boilings t_fizzles ++ (w_X0 y ha hsb h_v_12 h_oldest_13 h_size_14 ++ (w_SL y sl ssb s_v))))) rfl hG
        refine lv_aload_n hx hb dX3_write_81 rfl (lv_at hl 0 rfl) ?_
        refine w_get3 F hK hG k1 0 rfl 5 (by decide) k0 rfl dX3_write_82 ?_
        refine lv_iconst (v := nI 0) hx hb dX3_write_85 rfl ?_
        refine w_put1 F hK hG k7 5 rfl 1 (by decide) k6 rfl rfl rfl (Nat.le_of_ble_eq_true rfl) (w_X3 y a pa na ta ha sl q_saved q_runs q_themes q_storyHeats ++ (w_X1 y pa p_characters (nI 0) ++ (w_X2 y na n_settings n_letters_16 n_heats_17 n_starts_18 n_families_19 n_generations_20 n_tally n_stories_21 n_nextFamily_22 n_splits n_boilings n_fizzles ++ (w_X2 y ta t_settings t_letters t_heats t_starts t_families t_generations t_tally t_stories t_nextFamily t_splits t_boilings t_fizzles ++ (w_X0 y ha hsb h_v_12 h_oldest_13 h_size_14 ++ w_SL y sl ssb s_v))))) rfl dX3_write_86 (fun H locs hG => ?_)
        refine lv_aload_n hx hb dX3_write_89 rfl (lv_at hl 0 rfl) ?_
        refine w_get3 F hK hG k1 0 rfl 0 (by decide) k2 rfl dX3_write_90 ?_
        obtain ⟨r24, n_heats_25, n_starts_26, n_families_27, n_generations_28, n_stories_29, n_splits_30, n_boilings_31, n_fizzles_32, h33, hf⟩ := bd9_e hf
        have hG : GG D A s.heap ((w_X2 y na n_settings n_letters_16 n_heats_17 n_starts_18 n_families_19 n_generations_20 n_tally n_stories_21 n_nextFamily_22 n_splits n_boilings n_fizzles) ++ (w_X3 y a pa na ta ha sl q_saved q_runs q_themes q_storyHeats ++ (w_X1 y pa p_characters (nI 0) ++ (w_X2 y ta t_settings t_letters t_heats t_starts t_families t_generations t_tally t_stories t_nextFamily t_splits t_boilings t_fizzles ++ (w_X0 y ha hsb h_v_12 h_oldest_13 h_size_14 ++ (w_SL y sl ssb s_v)))))) H locs := GG.blk (fun k => match k with | 0 => w_X3 y a pa na ta ha sl q_saved q_runs q_themes q_storyHeats | 1 => w_X1 y pa p_characters (nI 0) | 2 => w_X2 y na n_settings n_letters_16 n_heats_17 n_starts_18 n_families_19 n_generations_20 n_tally n_stories_21 n_nextFamily_22 n_splits n_boilings n_fizzles | 3 => w_X2 y ta t_settings t_letters t_heats t_starts t_families t_generations t_tally t_stories t_nextFamily t_splits t_boilings t_fizzles | 4 => w_X0 y ha hsb h_v_12 h_oldest_13 h_size_14 | _ => w_SL y sl ssb s_v) [0, 1, 2, 3, 4, 5] [2, 0, 1, 3, 4, 5] (blkp _ _ rfl) _ _ rfl rfl hG
        refine k_Pi F hK hA hG (c_X2_react l D y na H.size Fu n_settings n_letters_16 n_heats_17 n_starts_18 n_families_19 n_generations_20 n_tally n_stories_21 n_nextFamily_22 n_splits n_boilings n_fizzles r24 n_heats_25 n_starts_26 n_families_27 n_generations_28 n_stories_29 n_splits_30 n_boilings_31 n_fizzles_32 h33) (cwV 0 F.2.2.2.2 gX3_write_X2_react rfl rfl rfl (by decide +kernel) ⟨Nat.le_of_ble_eq_true rfl, Nat.le_of_ble_eq_true rfl⟩) 0 rfl rfl rfl rfl rfl hl.1 (Nat.le_of_ble_eq_true rfl) dX3_write_93 ⟨Nat.le_refl 0, Nat.le_refl 0⟩ (fun H locs hG => ?_)
        have hG : GG D A s.heap (w_X3 y a pa na ta ha sl q_saved q_runs q_themes q_storyHeats ++ (w_X1 y pa p_characters (nI 0) ++ (w_X2 y na n_settings n_letters_16 n_heats_25 n_starts_26 n_families_27 n_generations_28 n_tally n_stories_29 n_nextFamily_22 n_splits_30 n_boilings_31 n_fizzles_32 ++ (w_X2 y ta t_settings t_letters t_heats t_starts t_families t_generations t_tally t_stories t_nextFamily t_splits t_boilings t_fizzles ++ (w_X0 y ha hsb h_v_12 h_oldest_13 h_size_14 ++ w_SL y sl ssb s_v))))) H locs := GG.blk (fun k => match k with | 0 => w_X3 y a pa na ta ha sl q_saved q_runs q_themes q_storyHeats | 1 => w_X1 y pa p_characters (nI 0) | 2 => w_X2 y na n_settings n_letters_16 n_heats_25 n_starts_26 n_families_27 n_generations_28 n_tally n_stories_29 n_nextFamily_22 n_splits_30 n_boilings_31 n_fizzles_32 | 3 => w_X2 y ta t_settings t_letters t_heats t_starts t_families t_generations t_tally t_stories t_nextFamily t_splits t_boilings t_fizzles | 4 => w_X0 y ha hsb h_v_12 h_oldest_13 h_size_14 | _ => w_SL y sl ssb s_v) [2, 0, 1, 3, 4, 5] [0, 1, 2, 3, 4, 5] (blkp _ _ rfl) _ _ rfl rfl hG
        refine lv_pop hx hb dX3_write_96 rfl ?_
        refine lv_aload_n hx hb dX3_write_97 rfl (lv_at hl 0 rfl) ?_
        refine w_get3 F hK hG k1 0 rfl 0 (by decide) k2 rfl dX3_write_98 ?_
        refine w_get2 F hK hG k4 7 rfl 7 (by decide) k3 rfl dX3_write_101 ?_
        have hf := so_e hf
        have e0 : n_stories_29 = ro := congrArg (fun z => z.1) hf
        have e1 : (nI 0) = p_length_o := congrArg (fun z => z.2.1) hf
        have e2 : n_letters_16 = n_letters_o := congrArg (fun z => z.2.2.1) hf
        have e3 : n_heats_25 = n_heats_o := congrArg (fun z => z.2.2.2.1) hf
        have e4 : n_starts_26 = n_starts_o := congrArg (fun z => z.2.2.2.2.1) hf
        have e5 : n_families_27 = n_families_o := congrArg (fun z => z.2.2.2.2.2.1) hf
        have e6 : n_generations_28 = n_generations_o := congrArg (fun z => z.2.2.2.2.2.2.1) hf
        have e7 : n_stories_29 = n_stories_o := congrArg (fun z => z.2.2.2.2.2.2.2.1) hf
        have e8 : n_nextFamily_22 = n_nextFamily_o := congrArg (fun z => z.2.2.2.2.2.2.2.2.1) hf
        have e9 : n_splits_30 = n_splits_o := congrArg (fun z => z.2.2.2.2.2.2.2.2.2.1) hf
        have e10 : n_boilings_31 = n_boilings_o := congrArg (fun z => z.2.2.2.2.2.2.2.2.2.2.1) hf
        have e11 : n_fizzles_32 = n_fizzles_o := congrArg (fun z => z.2.2.2.2.2.2.2.2.2.2.2.1) hf
        have e12 : h_v_12 = h_v_o := congrArg (fun z => z.2.2.2.2.2.2.2.2.2.2.2.2.1) hf
        have e13 : h_oldest_13 = h_oldest_o := congrArg (fun z => z.2.2.2.2.2.2.2.2.2.2.2.2.2.1) hf
        have e14 : h_size_14 = h_size_o := congrArg (fun z => z.2.2.2.2.2.2.2.2.2.2.2.2.2.2) hf
        exact hret _ _ _ _ _ e0 (by rw [← e1, ← e2, ← e3, ← e4, ← e5, ← e6, ← e7, ← e8, ← e9, ← e10, ← e11, ← e12, ← e13, ← e14]; exact hG) dX3_write_104
      · have hf := if_e c11 hf
        refine lv_bipush (v := -4) hx hb dX3_write_56 rfl ?_
        have hf := so_e hf
        have e0 : (-4) = ro := congrArg (fun z => z.1) hf
        have e1 : p_length = p_length_o := congrArg (fun z => z.2.1) hf
        have e2 : n_letters = n_letters_o := congrArg (fun z => z.2.2.1) hf
        have e3 : n_heats = n_heats_o := congrArg (fun z => z.2.2.2.1) hf
        have e4 : n_starts = n_starts_o := congrArg (fun z => z.2.2.2.2.1) hf
        have e5 : n_families = n_families_o := congrArg (fun z => z.2.2.2.2.2.1) hf
        have e6 : n_generations = n_generations_o := congrArg (fun z => z.2.2.2.2.2.2.1) hf
        have e7 : n_stories = n_stories_o := congrArg (fun z => z.2.2.2.2.2.2.2.1) hf
        have e8 : n_nextFamily = n_nextFamily_o := congrArg (fun z => z.2.2.2.2.2.2.2.2.1) hf
        have e9 : n_splits = n_splits_o := congrArg (fun z => z.2.2.2.2.2.2.2.2.2.1) hf
        have e10 : n_boilings = n_boilings_o := congrArg (fun z => z.2.2.2.2.2.2.2.2.2.2.1) hf
        have e11 : n_fizzles = n_fizzles_o := congrArg (fun z => z.2.2.2.2.2.2.2.2.2.2.2.1) hf
        have e12 : h_v = h_v_o := congrArg (fun z => z.2.2.2.2.2.2.2.2.2.2.2.2.1) hf
        have e13 : h_oldest = h_oldest_o := congrArg (fun z => z.2.2.2.2.2.2.2.2.2.2.2.2.2.1) hf
        have e14 : h_size = h_size_o := congrArg (fun z => z.2.2.2.2.2.2.2.2.2.2.2.2.2.2) hf
        exact hret _ _ _ _ _ e0 (by rw [← e1, ← e2, ← e3, ← e4, ← e5, ← e6, ← e7, ← e8, ← e9, ← e10, ← e11, ← e12, ← e13, ← e14]; exact hG) dX3_write_58
  · have hf := if_e c3 hf
    refine lv_bipush (v := -3) hx hb dX3_write_12 rfl ?_
    have hf := so_e hf
    have e0 : (-3) = ro := congrArg (fun z => z.1) hf
    have e1 : p_length = p_length_o := congrArg (fun z => z.2.1) hf
    have e2 : n_letters = n_letters_o := congrArg (fun z => z.2.2.1) hf
    have e3 : n_heats = n_heats_o := congrArg (fun z => z.2.2.2.1) hf
    have e4 : n_starts = n_starts_o := congrArg (fun z => z.2.2.2.2.1) hf
    have e5 : n_families = n_families_o := congrArg (fun z => z.2.2.2.2.2.1) hf
    have e6 : n_generations = n_generations_o := congrArg (fun z => z.2.2.2.2.2.2.1) hf
    have e7 : n_stories = n_stories_o := congrArg (fun z => z.2.2.2.2.2.2.2.1) hf
    have e8 : n_nextFamily = n_nextFamily_o := congrArg (fun z => z.2.2.2.2.2.2.2.2.1) hf
    have e9 : n_splits = n_splits_o := congrArg (fun z => z.2.2.2.2.2.2.2.2.2.1) hf
    have e10 : n_boilings = n_boilings_o := congrArg (fun z => z.2.2.2.2.2.2.2.2.2.2.1) hf
    have e11 : n_fizzles = n_fizzles_o := congrArg (fun z => z.2.2.2.2.2.2.2.2.2.2.2.1) hf
    have e12 : h_v = h_v_o := congrArg (fun z => z.2.2.2.2.2.2.2.2.2.2.2.2.1) hf
    have e13 : h_oldest = h_oldest_o := congrArg (fun z => z.2.2.2.2.2.2.2.2.2.2.2.2.2.1) hf
    have e14 : h_size = h_size_o := congrArg (fun z => z.2.2.2.2.2.2.2.2.2.2.2.2.2.2) hf
    exact hret _ _ _ _ _ e0 (by rw [← e1, ← e2, ← e3, ← e4, ← e5, ← e6, ← e7, ← e8, ← e9, ← e10, ← e11, ← e12, ← e13, ← e14]; exact hG) dX3_write_14
set_option maxHeartbeats 1000000 in
set_option maxRecDepth 100000 in
theorem c_X3_heat (l : Launch) (D : va_G) (y : Nat → ClassId) (a pa na ta ha : Nat → Nat) (hsb : Nat → Nat → Nat) (sl : Nat) (ssb : Nat → Nat → Nat) (sz : Nat) (Fu : Nat) (q_saved : Ar) (q_runs : Ar) (q_themes : Ar) (q_storyHeats : Ar) (p_characters : Ar) (p_length : Int32) (n_settings : Ar) (n_letters : Ar) (n_heats : Ar) (n_starts : Ar) (n_families : Ar) (n_generations : Ar) (n_tally : Ar) (n_stories : Int32) (n_nextFamily : Int32) (n_splits : Int32) (n_boilings : Int32) (n_fizzles : Int32) (t_settings : Ar) (t_letters : Ar) (t_heats : Ar) (t_starts : Ar) (t_families : Ar) (t_generations : Ar) (t_tally : Ar) (t_stories : Int32) (t_nextFamily : Int32) (t_splits : Int32) (t_boilings : Int32) (t_fizzles : Int32) (h_v : (Nat → SV)) (h_oldest : Int32) (h_size : Int32) (s_v : (Nat → SV)) (p1 : Int32) (p2 : Int32) (p3 : Int32) (ro : Int32) (n_heats_o : Ar) (n_starts_o : Ar) (n_families_o : Ar) (n_generations_o : Ar) (n_stories_o : Int32) (n_splits_o : Int32) (n_boilings_o : Int32) (n_fizzles_o : Int32) (h_v_o : (Nat → SV)) (h_oldest_o : Int32) (h_size_o : Int32) (hf : f_X3_heat Fu n_settings n_letters n_heats n_starts n_families n_generations n_stories n_nextFamily n_splits n_boilings n_fizzles h_v h_oldest h_size p1 p2 p3 = some (ro, n_heats_o, n_starts_o, n_families_o, n_generations_o, n_stories_o, n_splits_o, n_boilings_o, n_fizzles_o, h_v_o, h_oldest_o, h_size_o)) : MI l yX3_heat wsX3_heat 4 110 [.ref (a 0), .int p1, .int p2, .int p3] D y (w_X3 y a pa na ta ha sl q_saved q_runs q_themes q_storyHeats ++ (w_X1 y pa p_characters p_length ++ (w_X2 y na n_settings n_letters n_heats n_starts n_families n_generations n_tally n_stories n_nextFamily n_splits n_boilings n_fizzles ++ (w_X2 y ta t_settings t_letters t_heats t_starts t_families t_generations t_tally t_stories t_nextFamily t_splits t_boilings t_fizzles ++ (w_X0 y ha hsb h_v h_oldest h_size ++ w_SL y sl ssb s_v))))) sz ro (w_X3 y a pa na ta ha sl q_saved q_runs q_themes q_storyHeats ++ (w_X1 y pa p_characters p_length ++ (w_X2 y na n_settings n_letters n_heats_o n_starts_o n_families_o n_generations_o n_tally n_stories_o n_nextFamily n_splits_o n_boilings_o n_fizzles_o ++ (w_X2 y ta t_settings t_letters t_heats t_starts t_families t_generations t_tally t_stories t_nextFamily t_splits t_boilings t_fizzles ++ (w_X0 y ha hsb h_v_o h_oldest_o h_size_o ++ w_SL y sl ssb s_v))))) := by
  refine M_i (cc := cX3_heat) (maxL := 4) (own := RX3) (by decide) rfl rfl (Nat.le_of_ble_eq_true rfl) ?_
  intro p e s m args below meth c A Q F hK hA H locs hG hret ls hl
  have hx := F.1
  have hb := F.2.1
  have hl : lv_has ls 4 [(0, .ref (a 0)), (1, .int p1), (2, .int p2), (3, .int p3)] := hl
  have k0 := F.2.2.2.2 (.fieldLink RX3 10 "HeatedStories" "now" "LHeatedStories$Shelf;") (List.mem_of_getElem? (i := 1) rfl)
  have k1 : ∀ w ∈ wsX30, w ∈ wsX3_heat := (fun w h => List.mem_cons_of_mem _ (List.mem_append_left _ (List.mem_append_left _ (List.mem_append_right _ (h)))))
  have k2 := F.2.2.2.2 (.fieldLink RX3 22 "HeatedStories" "history" "LHeatedStories$History;") (List.mem_of_getElem? (i := 2) rfl)
  have k3 := F.2.2.2.2 (.fieldLink RX3 98 "HeatedStories$Shelf" "starts" "[I") (List.mem_of_getElem? (i := 3) rfl)
  have k4 : ∀ w ∈ wsX20, w ∈ wsX3_heat := (fun w h => List.mem_cons_of_mem _ (List.mem_append_left _ (List.mem_append_right _ (h))))
  unfold f_X3_heat at hf
  refine lv_aload_n hx hb dX3_heat_0 rfl (lv_at hl 0 rfl) ?_
  refine w_get3 F hK hG k1 0 rfl 0 (by decide) k0 rfl dX3_heat_1 ?_
  refine lv_iload_n hx hb dX3_heat_4 rfl (lv_at hl 1 rfl) ?_
  refine lv_iload_n hx hb dX3_heat_5 rfl (lv_at hl 2 rfl) ?_
  obtain ⟨r1, h2, hf⟩ := bd1_e hf
  have hG : GG D A s.heap ((w_X2 y na n_settings n_letters n_heats n_starts n_families n_generations n_tally n_stories n_nextFamily n_splits n_boilings n_fizzles) ++ (w_X3 y a pa na ta ha sl q_saved q_runs q_themes q_storyHeats ++ (w_X1 y pa p_characters p_length ++ (w_X2 y ta t_settings t_letters t_heats t_starts t_families t_generations t_tally t_stories t_nextFamily t_splits t_boilings t_fizzles ++ (w_X0 y ha hsb h_v h_oldest h_size ++ (w_SL y sl ssb s_v)))))) H locs := GG.blk (fun k => match k with | 0 => w_X3 y a pa na ta ha sl q_saved q_runs q_themes q_storyHeats | 1 => w_X1 y pa p_characters p_length | 2 => w_X2 y na n_settings n_letters n_heats n_starts n_families n_generations n_tally n_stories n_nextFamily n_splits n_boilings n_fizzles | 3 => w_X2 y ta t_settings t_letters t_heats t_starts t_families t_generations t_tally t_stories t_nextFamily t_splits t_boilings t_fizzles | 4 => w_X0 y ha hsb h_v h_oldest h_size | _ => w_SL y sl ssb s_v) [0, 1, 2, 3, 4, 5] [2, 0, 1, 3, 4, 5] (blkp _ _ rfl) _ _ rfl rfl hG
  refine k_Pi F hK hA hG (c_X2_hasWord l D y na H.size Fu n_settings n_letters n_heats n_starts n_families n_generations n_tally n_stories n_nextFamily n_splits n_boilings n_fizzles p1 p2 r1 h2) (cwV 2 F.2.2.2.2 gX3_heat_X2_hasWord rfl rfl rfl (by decide +kernel) ⟨Nat.le_of_ble_eq_true rfl, Nat.le_of_ble_eq_true rfl⟩) 0 rfl rfl rfl rfl rfl hl.1 (Nat.le_of_ble_eq_true rfl) dX3_heat_6 ⟨Nat.le_refl 0, Nat.le_refl 0⟩ (fun H locs hG => ?_)
  have hG : GG D A s.heap (w_X3 y a pa na ta ha sl q_saved q_runs q_themes q_storyHeats ++ (w_X1 y pa p_characters p_length ++ (w_X2 y na n_settings n_letters n_heats n_starts n_families n_generations n_tally n_stories n_nextFamily n_splits n_boilings n_fizzles ++ (w_X2 y ta t_settings t_letters t_heats t_starts t_families t_generations t_tally t_stories t_nextFamily t_splits t_boilings t_fizzles ++ (w_X0 y ha hsb h_v h_oldest h_size ++ w_SL y sl ssb s_v))))) H locs := GG.blk (fun k => match k with | 0 => w_X3 y a pa na ta ha sl q_saved q_runs q_themes q_storyHeats | 1 => w_X1 y pa p_characters p_length | 2 => w_X2 y na n_settings n_letters n_heats n_starts n_families n_generations n_tally n_stories n_nextFamily n_splits n_boilings n_fizzles | 3 => w_X2 y ta t_settings t_letters t_heats t_starts t_families t_generations t_tally t_stories t_nextFamily t_splits t_boilings t_fizzles | 4 => w_X0 y ha hsb h_v h_oldest h_size | _ => w_SL y sl ssb s_v) [2, 0, 1, 3, 4, 5] [0, 1, 2, 3, 4, 5] (blkp _ _ rfl) _ _ rfl rfl hG
  refine lv_if_ne (tgt := 14) hx hb dX3_heat_9 (by decide) (fun c3 => ?_) (fun c3 => ?_)
  · have hf := if_e c3 hf
    refine lv_iload_n hx hb dX3_heat_14 rfl (lv_at hl 3 rfl) ?_
    refine lv_iconst (v := nI 1) hx hb dX3_heat_15 rfl ?_
    refine lv_sipush (v := nI 500) hx hb dX3_heat_16 rfl ?_
    obtain ⟨r4, h5, hf⟩ := bd1_e hf
    refine k_Si F hK hA hG (c_X3_isWithin l D y  H.size Fu  p3 (nI 1) (nI 500) r4 h5) (va_cwS 3 F.2.2.2.2 gX3_heat_X3_isWithin rfl rfl rfl (by decide +kernel) ⟨Nat.le_of_ble_eq_true rfl, Nat.le_of_ble_eq_true rfl⟩) rfl rfl hl.1 (Nat.le_of_ble_eq_true rfl) dX3_heat_19 ⟨Nat.le_refl 0, Nat.le_refl 0⟩ (fun H locs hG => ?_)
    refine lv_if_ne (tgt := 28) hx hb dX3_heat_22 (by decide) (fun c6 => ?_) (fun c6 => ?_)
    · have hf := if_e c6 hf
      refine lv_aload_n hx hb dX3_heat_28 rfl (lv_at hl 0 rfl) ?_
      refine w_get3 F hK hG k1 0 rfl 2 (by decide) k2 rfl dX3_heat_29 ?_
      refine lv_aload_n hx hb dX3_heat_32 rfl (lv_at hl 0 rfl) ?_
      refine w_get3 F hK hG k1 0 rfl 0 (by decide) k0 rfl dX3_heat_33 ?_
      obtain ⟨h_v_7, h_oldest_8, h_size_9, h10, hf⟩ := bd3_e hf
      have hG : GG D A s.heap ((w_X0 y ha hsb h_v h_oldest h_size ++ (w_X2 y na n_settings n_letters n_heats n_starts n_families n_generations n_tally n_stories n_nextFamily n_splits n_boilings n_fizzles)) ++ (w_X3 y a pa na ta ha sl q_saved q_runs q_themes q_storyHeats ++ (w_X1 y pa p_characters p_length ++ (w_X2 y ta t_settings t_letters t_heats t_starts t_families t_generations t_tally t_stories t_nextFamily t_splits t_boilings t_fizzles ++ (w_SL y sl ssb s_v))))) H locs := GG.blk (fun k => match k with | 0 => w_X3 y a pa na ta ha sl q_saved q_runs q_themes q_storyHeats | 1 => w_X1 y pa p_characters p_length | 2 => w_X2 y na n_settings n_letters n_heats n_starts n_families n_generations n_tally n_stories n_nextFamily n_splits n_boilings n_fizzles | 3 => w_X2 y ta t_settings t_letters t_heats t_starts t_families t_generations t_tally t_stories t_nextFamily t_splits t_boilings t_fizzles | 4 => w_X0 y ha hsb h_v h_oldest h_size | _ => w_SL y sl ssb s_v) [0, 1, 2, 3, 4, 5] [4, 2, 0, 1, 3, 5] (blkp _ _ rfl) _ _ rfl (List.append_assoc (w_X0 y ha hsb h_v h_oldest h_size) (w_X2 y na n_settings n_letters n_heats n_starts n_families n_generations n_tally n_stories n_nextFamily n_splits n_boilings n_fizzles) (w_X3 y a pa na ta ha sl q_saved q_runs q_themes q_storyHeats ++ (w_X1 y pa p_characters p_length ++ (w_X2 y ta t_settings t_letters t_heats t_starts t_families t_generations t_tally t_stories t_nextFamily t_splits t_boilings t_fizzles ++ (w_SL y sl ssb s_v))))).symm hG
      refine k_Pv F hK hA hG (c_X0_record l D y ha na hsb H.size Fu h_v h_oldest h_size n_settings n_letters n_heats n_starts n_families n_generations n_tally n_stories n_nextFamily n_splits n_boilings n_fizzles h_v_7 h_oldest_8 h_size_9 h10) (cwV 1 F.2.2.2.2 gX3_heat_X0_record rfl rfl rfl (by decide +kernel) ⟨Nat.le_of_ble_eq_true rfl, Nat.le_of_ble_eq_true rfl⟩) 0 rfl rfl (adr_app (adr_X0 ..) rfl) rfl rfl hl.1 (Nat.le_of_ble_eq_true rfl) dX3_heat_36 ⟨Nat.le_refl 0, Nat.le_refl 0⟩ (fun H locs hG => ?_)
      have hG : GG D A s.heap (w_X3 y a pa na ta ha sl q_saved q_runs q_themes q_storyHeats ++ (w_X1 y pa p_characters p_length ++ (w_X2 y na n_settings n_letters n_heats n_starts n_families n_generations n_tally n_stories n_nextFamily n_splits n_boilings n_fizzles ++ (w_X2 y ta t_settings t_letters t_heats t_starts t_families t_generations t_tally t_stories t_nextFamily t_splits t_boilings t_fizzles ++ (w_X0 y ha hsb h_v_7 h_oldest_8 h_size_9 ++ w_SL y sl ssb s_v))))) H locs := GG.blk (fun k => match k with | 0 => w_X3 y a pa na ta ha sl q_saved q_runs q_themes q_storyHeats | 1 => w_X1 y pa p_characters p_length | 2 => w_X2 y na n_settings n_letters n_heats n_starts n_families n_generations n_tally n_stories n_nextFamily n_splits n_boilings n_fizzles | 3 => w_X2 y ta t_settings t_letters t_heats t_starts t_families t_generations t_tally t_stories t_nextFamily t_splits t_boilings t_fizzles | 4 => w_X0 y ha hsb h_v_7 h_oldest_8 h_size_9 | _ => w_SL y sl ssb s_v) [4, 2, 0, 1, 3, 5] [0, 1, 2, 3, 4, 5] (blkp _ _ rfl) _ _ (List.append_assoc (w_X0 y ha hsb h_v_7 h_oldest_8 h_size_9) (w_X2 y na n_settings n_letters n_heats n_starts n_families n_generations n_tally n_stories n_nextFamily n_splits n_boilings n_fizzles) (w_X3 y a pa na ta ha sl q_saved q_runs q_themes q_storyHeats ++ (w_X1 y pa p_characters p_length ++ (w_X2 y ta t_settings t_letters t_heats t_starts t_families t_generations t_tally t_stories t_nextFamily t_splits t_boilings t_fizzles ++ (w_SL y sl ssb s_v))))) rfl hG
      refine lv_aload_n hx hb dX3_heat_39 rfl (lv_at hl 0 rfl) ?_
      refine w_get3 F hK hG k1 0 rfl 0 (by decide) k0 rfl dX3_heat_40 ?_
      refine lv_aload_n hx hb dX3_heat_43 rfl (lv_at hl 0 rfl) ?_
      refine w_get3 F hK hG k1 0 rfl 0 (by decide) k0 rfl dX3_heat_44 ?_
      refine w_get2 F hK hG k4 7 rfl 3 (by decide) k3 rfl dX3_heat_47 ?_
      refine lv_iload_n hx hb dX3_heat_50 rfl (lv_at hl 1 rfl) ?_
      obtain ⟨g11, hf⟩ := gd_e hf
      refine w_iald F hK hG 11 rfl g11 dX3_heat_51 ?_
      refine lv_iload_n hx hb dX3_heat_52 rfl (lv_at hl 2 rfl) ?_
      refine lv_iadd hx hb dX3_heat_53 ?_
      refine lv_iload_n hx hb dX3_heat_54 rfl (lv_at hl 3 rfl) ?_
      obtain ⟨n_heats_12, h13, hf⟩ := bd1_e hf
      have hG : GG D A s.heap ((w_X2 y na n_settings n_letters n_heats n_starts n_families n_generations n_tally n_stories n_nextFamily n_splits n_boilings n_fizzles) ++ (w_X3 y a pa na ta ha sl q_saved q_runs q_themes q_storyHeats ++ (w_X1 y pa p_characters p_length ++ (w_X2 y ta t_settings t_letters t_heats t_starts t_families t_generations t_tally t_stories t_nextFamily t_splits t_boilings t_fizzles ++ (w_X0 y ha hsb h_v_7 h_oldest_8 h_size_9 ++ (w_SL y sl ssb s_v)))))) H locs := GG.blk (fun k => match k with | 0 => w_X3 y a pa na ta ha sl q_saved q_runs q_themes q_storyHeats | 1 => w_X1 y pa p_characters p_length | 2 => w_X2 y na n_settings n_letters n_heats n_starts n_families n_generations n_tally n_stories n_nextFamily n_splits n_boilings n_fizzles | 3 => w_X2 y ta t_settings t_letters t_heats t_starts t_families t_generations t_tally t_stories t_nextFamily t_splits t_boilings t_fizzles | 4 => w_X0 y ha hsb h_v_7 h_oldest_8 h_size_9 | _ => w_SL y sl ssb s_v) [0, 1, 2, 3, 4, 5] [2, 0, 1, 3, 4, 5] (blkp _ _ rfl) _ _ rfl rfl hG
      refine k_Pv F hK hA hG (c_X2_warm l D y na H.size Fu n_settings n_letters n_heats n_starts n_families n_generations n_tally n_stories n_nextFamily n_splits n_boilings n_fizzles ((n_starts (p1).toNatClampNeg) + p2) p3 n_heats_12 h13) (cwV 2 F.2.2.2.2 gX3_heat_X2_warm rfl rfl rfl (by decide +kernel) ⟨Nat.le_of_ble_eq_true rfl, Nat.le_of_ble_eq_true rfl⟩) 0 rfl rfl rfl rfl rfl hl.1 (Nat.le_of_ble_eq_true rfl) dX3_heat_55 ⟨Nat.le_refl 0, Nat.le_refl 0⟩ (fun H locs hG => ?_)
      have hG : GG D A s.heap (w_X3 y a pa na ta ha sl q_saved q_runs q_themes q_storyHeats ++ (w_X1 y pa p_characters p_length ++ (w_X2 y na n_settings n_letters n_heats_12 n_starts n_families n_generations n_tally n_stories n_nextFamily n_splits n_boilings n_fizzles ++ (w_X2 y ta t_settings t_letters t_heats t_starts t_families t_generations t_tally t_stories t_nextFamily t_splits t_boilings t_fizzles ++ (w_X0 y ha hsb h_v_7 h_oldest_8 h_size_9 ++ w_SL y sl ssb s_v))))) H locs := GG.blk (fun k => match k with | 0 => w_X3 y a pa na ta ha sl q_saved q_runs q_themes q_storyHeats | 1 => w_X1 y pa p_characters p_length | 2 => w_X2 y na n_settings n_letters n_heats_12 n_starts n_families n_generations n_tally n_stories n_nextFamily n_splits n_boilings n_fizzles | 3 => w_X2 y ta t_settings t_letters t_heats t_starts t_families t_generations t_tally t_stories t_nextFamily t_splits t_boilings t_fizzles | 4 => w_X0 y ha hsb h_v_7 h_oldest_8 h_size_9 | _ => w_SL y sl ssb s_v) [2, 0, 1, 3, 4, 5] [0, 1, 2, 3, 4, 5] (blkp _ _ rfl) _ _ rfl rfl hG
      refine lv_aload_n hx hb dX3_heat_58 rfl (lv_at hl 0 rfl) ?_
      refine w_get3 F hK hG k1 0 rfl 0 (by decide) k0 rfl dX3_heat_59 ?_
      obtain ⟨r14, n_heats_15, n_starts_16, n_families_17, n_generations_18, n_stories_19, n_splits_20, n_boilings_21, n_fizzles_22, h23, hf⟩ := bd9_e hf
      have hG : GG D A s.heap ((w_X2 y na n_settings n_letters n_heats_12 n_starts n_families n_generations n_tally n_stories n_nextFamily n_splits n_boilings n_fizzles) ++ (w_X3 y a pa na ta ha sl q_saved q_runs q_themes q_storyHeats ++ (w_X1 y pa p_characters p_length ++ (w_X2 y ta t_settings t_letters t_heats t_starts t_families t_generations t_tally t_stories t_nextFamily t_splits t_boilings t_fizzles ++ (w_X0 y ha hsb h_v_7 h_oldest_8 h_size_9 ++ (w_SL y sl ssb s_v)))))) H locs := GG.blk (fun k => match k with | 0 => w_X3 y a pa na ta ha sl q_saved q_runs q_themes q_storyHeats | 1 => w_X1 y pa p_characters p_length | 2 => w_X2 y na n_settings n_letters n_heats_12 n_starts n_families n_generations n_tally n_stories n_nextFamily n_splits n_boilings n_fizzles | 3 => w_X2 y ta t_settings t_letters t_heats t_starts t_families t_generations t_tally t_stories t_nextFamily t_splits t_boilings t_fizzles | 4 => w_X0 y ha hsb h_v_7 h_oldest_8 h_size_9 | _ => w_SL y sl ssb s_v) [0, 1, 2, 3, 4, 5] [2, 0, 1, 3, 4, 5] (blkp _ _ rfl) _ _ rfl rfl hG
      refine k_Pi F hK hA hG (c_X2_react l D y na H.size Fu n_settings n_letters n_heats_12 n_starts n_families n_generations n_tally n_stories n_nextFamily n_splits n_boilings n_fizzles r14 n_heats_15 n_starts_16 n_families_17 n_generations_18 n_stories_19 n_splits_20 n_boilings_21 n_fizzles_22 h23) (cwV 0 F.2.2.2.2 gX3_heat_X2_react rfl rfl rfl (by decide +kernel) ⟨Nat.le_of_ble_eq_true rfl, Nat.le_of_ble_eq_true rfl⟩) 0 rfl rfl rfl rfl rfl hl.1 (Nat.le_of_ble_eq_true rfl) dX3_heat_62 ⟨Nat.le_refl 0, Nat.le_refl 0⟩ (fun H locs hG => ?_)
      have hG : GG D A s.heap (w_X3 y a pa na ta ha sl q_saved q_runs q_themes q_storyHeats ++ (w_X1 y pa p_characters p_length ++ (w_X2 y na n_settings n_letters n_heats_15 n_starts_16 n_families_17 n_generations_18 n_tally n_stories_19 n_nextFamily n_splits_20 n_boilings_21 n_fizzles_22 ++ (w_X2 y ta t_settings t_letters t_heats t_starts t_families t_generations t_tally t_stories t_nextFamily t_splits t_boilings t_fizzles ++ (w_X0 y ha hsb h_v_7 h_oldest_8 h_size_9 ++ w_SL y sl ssb s_v))))) H locs := GG.blk (fun k => match k with | 0 => w_X3 y a pa na ta ha sl q_saved q_runs q_themes q_storyHeats | 1 => w_X1 y pa p_characters p_length | 2 => w_X2 y na n_settings n_letters n_heats_15 n_starts_16 n_families_17 n_generations_18 n_tally n_stories_19 n_nextFamily n_splits_20 n_boilings_21 n_fizzles_22 | 3 => w_X2 y ta t_settings t_letters t_heats t_starts t_families t_generations t_tally t_stories t_nextFamily t_splits t_boilings t_fizzles | 4 => w_X0 y ha hsb h_v_7 h_oldest_8 h_size_9 | _ => w_SL y sl ssb s_v) [2, 0, 1, 3, 4, 5] [0, 1, 2, 3, 4, 5] (blkp _ _ rfl) _ _ rfl rfl hG
      have hf := so_e hf
      have e0 : r14 = ro := congrArg (fun z => z.1) hf
      have e1 : n_heats_15 = n_heats_o := congrArg (fun z => z.2.1) hf
      have e2 : n_starts_16 = n_starts_o := congrArg (fun z => z.2.2.1) hf
      have e3 : n_families_17 = n_families_o := congrArg (fun z => z.2.2.2.1) hf
      have e4 : n_generations_18 = n_generations_o := congrArg (fun z => z.2.2.2.2.1) hf
      have e5 : n_stories_19 = n_stories_o := congrArg (fun z => z.2.2.2.2.2.1) hf
      have e6 : n_splits_20 = n_splits_o := congrArg (fun z => z.2.2.2.2.2.2.1) hf
      have e7 : n_boilings_21 = n_boilings_o := congrArg (fun z => z.2.2.2.2.2.2.2.1) hf
      have e8 : n_fizzles_22 = n_fizzles_o := congrArg (fun z => z.2.2.2.2.2.2.2.2.1) hf
      have e9 : h_v_7 = h_v_o := congrArg (fun z => z.2.2.2.2.2.2.2.2.2.1) hf
      have e10 : h_oldest_8 = h_oldest_o := congrArg (fun z => z.2.2.2.2.2.2.2.2.2.2.1) hf
      have e11 : h_size_9 = h_size_o := congrArg (fun z => z.2.2.2.2.2.2.2.2.2.2.2) hf
      exact hret _ _ _ _ _ e0 (by rw [← e1, ← e2, ← e3, ← e4, ← e5, ← e6, ← e7, ← e8, ← e9, ← e10, ← e11]; exact hG) dX3_heat_65
    · have hf := it_e c6 hf
      refine lv_bipush (v := -2) hx hb dX3_heat_25 rfl ?_
      have hf := so_e hf
      have e0 : (-2) = ro := congrArg (fun z => z.1) hf
      have e1 : n_heats = n_heats_o := congrArg (fun z => z.2.1) hf
      have e2 : n_starts = n_starts_o := congrArg (fun z => z.2.2.1) hf
      have e3 : n_families = n_families_o := congrArg (fun z => z.2.2.2.1) hf
      have e4 : n_generations = n_generations_o := congrArg (fun z => z.2.2.2.2.1) hf
      have e5 : n_stories = n_stories_o := congrArg (fun z => z.2.2.2.2.2.1) hf
      have e6 : n_splits = n_splits_o := congrArg (fun z => z.2.2.2.2.2.2.1) hf
      have e7 : n_boilings = n_boilings_o := congrArg (fun z => z.2.2.2.2.2.2.2.1) hf
      have e8 : n_fizzles = n_fizzles_o := congrArg (fun z => z.2.2.2.2.2.2.2.2.1) hf
      have e9 : h_v = h_v_o := congrArg (fun z => z.2.2.2.2.2.2.2.2.2.1) hf
      have e10 : h_oldest = h_oldest_o := congrArg (fun z => z.2.2.2.2.2.2.2.2.2.2.1) hf
      have e11 : h_size = h_size_o := congrArg (fun z => z.2.2.2.2.2.2.2.2.2.2.2) hf
      exact hret _ _ _ _ _ e0 (by rw [← e1, ← e2, ← e3, ← e4, ← e5, ← e6, ← e7, ← e8, ← e9, ← e10, ← e11]; exact hG) dX3_heat_27
  · have hf := it_e c3 hf
    refine lv_iconst (v := -1) hx hb dX3_heat_12 rfl ?_
    have hf := so_e hf
    have e0 : (-1) = ro := congrArg (fun z => z.1) hf
    have e1 : n_heats = n_heats_o := congrArg (fun z => z.2.1) hf
    have e2 : n_starts = n_starts_o := congrArg (fun z => z.2.2.1) hf
    have e3 : n_families = n_families_o := congrArg (fun z => z.2.2.2.1) hf
    have e4 : n_generations = n_generations_o := congrArg (fun z => z.2.2.2.2.1) hf
    have e5 : n_stories = n_stories_o := congrArg (fun z => z.2.2.2.2.2.1) hf
    have e6 : n_splits = n_splits_o := congrArg (fun z => z.2.2.2.2.2.2.1) hf
    have e7 : n_boilings = n_boilings_o := congrArg (fun z => z.2.2.2.2.2.2.2.1) hf
    have e8 : n_fizzles = n_fizzles_o := congrArg (fun z => z.2.2.2.2.2.2.2.2.1) hf
    have e9 : h_v = h_v_o := congrArg (fun z => z.2.2.2.2.2.2.2.2.2.1) hf
    have e10 : h_oldest = h_oldest_o := congrArg (fun z => z.2.2.2.2.2.2.2.2.2.2.1) hf
    have e11 : h_size = h_size_o := congrArg (fun z => z.2.2.2.2.2.2.2.2.2.2.2) hf
    exact hret _ _ _ _ _ e0 (by rw [← e1, ← e2, ← e3, ← e4, ← e5, ← e6, ← e7, ← e8, ← e9, ← e10, ← e11]; exact hG) dX3_heat_13
