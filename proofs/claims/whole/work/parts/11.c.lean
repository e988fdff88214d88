set_option maxHeartbeats 1000000 in
set_option maxRecDepth 100000 in
theorem c_X2_words (l : Launch) (D : va_G) (y : Nat → ClassId) (a : Nat → Nat) (sz : Nat) (Fu : Nat) (q_settings : Ar) (q_letters : Ar) (q_heats : Ar) (q_starts : Ar) (q_families : Ar) (q_generations : Ar) (q_tally : Ar) (q_stories : Int32) (q_nextFamily : Int32) (q_splits : Int32) (q_boilings : Int32) (q_fizzles : Int32) (ro : Int32) (hf : f_X2_words Fu q_starts q_stories = some (ro)) : MI l yX2_words wsX2_words 0 0 [.ref (a 0)] D y (w_X2 y a q_settings q_letters q_heats q_starts q_families q_generations q_tally q_stories q_nextFamily q_splits q_boilings q_fizzles) sz ro (w_X2 y a q_settings q_letters q_heats q_starts q_families q_generations q_tally q_stories q_nextFamily q_splits q_boilings q_fizzles) := by
  refine M_i (cc := cX2_words) (maxL := 1) (own := RX2) (by decide) rfl rfl (Nat.le_of_ble_eq_true rfl) ?_
  intro p e s m args below meth c A Q F hK hA H locs hG hret ls hl
  have hx := F.1
  have hb := F.2.1
  have hl : lv_has ls 1 [(0, .ref (a 0))] := hl
  have k0 := F.2.2.2.2 (.fieldLink RX2 21 "HeatedStories$Shelf" "starts" "[I") (List.mem_of_getElem? (i := 1) rfl)
  have k1 : ∀ w ∈ wsX20, w ∈ wsX2_words := (fun w h => List.mem_cons_of_mem _ (List.mem_append_right _ (h)))
  have k2 := F.2.2.2.2 (.fieldLink RX2 43 "HeatedStories$Shelf" "stories" "I") (List.mem_of_getElem? (i := 2) rfl)
  unfold f_X2_words at hf
  refine lv_aload_n hx hb dX2_words_0 rfl (lv_at hl 0 rfl) ?_
  refine w_get2 F hK hG k1 0 rfl 3 (by decide) k0 rfl dX2_words_1 ?_
  refine lv_aload_n hx hb dX2_words_4 rfl (lv_at hl 0 rfl) ?_
  refine w_get2 F hK hG k1 0 rfl 7 (by decide) k2 rfl dX2_words_5 ?_
  obtain ⟨g1, hf⟩ := gd_e hf
  refine w_iald F hK hG 4 rfl g1 dX2_words_8 ?_
  have hf := so_e hf
  have e0 : (q_starts (q_stories).toNatClampNeg) = ro := hf
  exact hret _ _ _ _ _ e0 hG dX2_words_9
set_option maxHeartbeats 1000000 in
set_option maxRecDepth 100000 in
theorem c_X2_copyFrom (l : Launch) (D : va_G) (y : Nat → ClassId) (a b : Nat → Nat) (sz : Nat) (Fu : Nat) (q_settings : Ar) (q_letters : Ar) (q_heats : Ar) (q_starts : Ar) (q_families : Ar) (q_generations : Ar) (q_tally : Ar) (q_stories : Int32) (q_nextFamily : Int32) (q_splits : Int32) (q_boilings : Int32) (q_fizzles : Int32) (o_settings : Ar) (o_letters : Ar) (o_heats : Ar) (o_starts : Ar) (o_families : Ar) (o_generations : Ar) (o_tally : Ar) (o_stories : Int32) (o_nextFamily : Int32) (o_splits : Int32) (o_boilings : Int32) (o_fizzles : Int32) (q_settings_o : Ar) (q_letters_o : Ar) (q_heats_o : Ar) (q_starts_o : Ar) (q_families_o : Ar) (q_generations_o : Ar) (q_stories_o : Int32) (q_nextFamily_o : Int32) (q_splits_o : Int32) (q_boilings_o : Int32) (q_fizzles_o : Int32) (hf : f_X2_copyFrom Fu q_settings q_letters q_heats q_starts q_families q_generations q_stories q_nextFamily q_splits q_boilings q_fizzles o_settings o_letters o_heats o_starts o_families o_generations o_stories o_nextFamily o_splits o_boilings o_fizzles = some (q_settings_o, q_letters_o, q_heats_o, q_starts_o, q_families_o, q_generations_o, q_stories_o, q_nextFamily_o, q_splits_o, q_boilings_o, q_fizzles_o)) : MV l yX2_copyFrom wsX2_copyFrom 1 40 [.ref (a 0), .ref (b 0)] D y (w_X2 y a q_settings q_letters q_heats q_starts q_families q_generations q_tally q_stories q_nextFamily q_splits q_boilings q_fizzles ++ w_X2 y b o_settings o_letters o_heats o_starts o_families o_generations o_tally o_stories o_nextFamily o_splits o_boilings o_fizzles) sz (w_X2 y a q_settings_o q_letters_o q_heats_o q_starts_o q_families_o q_generations_o q_tally q_stories_o q_nextFamily_o q_splits_o q_boilings_o q_fizzles_o ++ w_X2 y b o_settings o_letters o_heats o_starts o_families o_generations o_tally o_stories o_nextFamily o_splits o_boilings o_fizzles) := by
  refine M_v (cc := cX2_copyFrom) (maxL := 3) (own := RX2) (by decide) rfl rfl (Nat.le_of_ble_eq_true rfl) ?_
  intro p e s m args below meth c A Q F hK hA H locs hG hret ls hl
  have hx := F.1
  have hb := F.2.1
  have hl : lv_has ls 3 [(0, .ref (a 0)), (1, .ref (b 0))] := hl
  have k0 := F.2.2.2.2 (.fieldLink RX2 9 "HeatedStories$Shelf" "settings" "[I") (List.mem_of_getElem? (i := 1) rfl)
  have k1 : ∀ w ∈ wsX20, w ∈ wsX2_copyFrom := (fun w h => List.mem_cons_of_mem _ (List.mem_append_right _ (h)))
  have k2 := F.2.2.2.2 (.methodLink RX2 37 arraycopyName) (List.mem_of_getElem? (i := 2) rfl)
  have k3 := F.2.2.2.2 (.native arraycopyName) (List.mem_of_getElem? (i := 3) rfl)
  have k4 := F.2.2.2.2 (.static arraycopyName) (List.mem_of_getElem? (i := 4) rfl)
  have k5 := F.2.2.2.2 (.initialized "java/lang/System") (List.mem_of_getElem? (i := 5) rfl)
  have k6 := F.2.2.2.2 (.fieldLink RX2 15 "HeatedStories$Shelf" "letters" "[I") (List.mem_of_getElem? (i := 6) rfl)
  have k7 := F.2.2.2.2 (.fieldLink RX2 18 "HeatedStories$Shelf" "heats" "[I") (List.mem_of_getElem? (i := 7) rfl)
  have k8 := F.2.2.2.2 (.fieldLink RX2 21 "HeatedStories$Shelf" "starts" "[I") (List.mem_of_getElem? (i := 8) rfl)
  have k9 := F.2.2.2.2 (.fieldLink RX2 43 "HeatedStories$Shelf" "stories" "I") (List.mem_of_getElem? (i := 9) rfl)
  have k10 := F.2.2.2.2 (.fieldLink RX2 24 "HeatedStories$Shelf" "families" "[I") (List.mem_of_getElem? (i := 10) rfl)
  have k11 := F.2.2.2.2 (.fieldLink RX2 27 "HeatedStories$Shelf" "generations" "[I") (List.mem_of_getElem? (i := 11) rfl)
  have k12 := F.2.2.2.2 (.fieldLink RX2 47 "HeatedStories$Shelf" "nextFamily" "I") (List.mem_of_getElem? (i := 12) rfl)
  have k13 := F.2.2.2.2 (.fieldLink RX2 50 "HeatedStories$Shelf" "splits" "I") (List.mem_of_getElem? (i := 13) rfl)
  have k14 := F.2.2.2.2 (.fieldLink RX2 53 "HeatedStories$Shelf" "boilings" "I") (List.mem_of_getElem? (i := 14) rfl)
  have k15 := F.2.2.2.2 (.fieldLink RX2 56 "HeatedStories$Shelf" "fizzles" "I") (List.mem_of_getElem? (i := 15) rfl)
  unfold f_X2_copyFrom at hf
  refine lv_aload_n hx hb dX2_copyFrom_0 rfl (lv_at hl 1 rfl) ?_
  obtain ⟨r1, h2, hf⟩ := bd1_e hf
  refine k_Vi F hK hA hG (c_X2_words l D y b H.size Fu o_settings o_letters o_heats o_starts o_families o_generations o_tally o_stories o_nextFamily o_splits o_boilings o_fizzles r1 h2) (cwV 0 F.2.2.2.2 gX2_copyFrom_X2_words rfl rfl rfl (by decide +kernel) ⟨Nat.le_of_ble_eq_true rfl, Nat.le_of_ble_eq_true rfl⟩) 0 rfl rfl [8, 9, 10, 11, 12, 13, 14, 15] rfl rfl rfl (w_X2 y a q_settings q_letters q_heats q_starts q_families q_generations q_tally q_stories q_nextFamily q_splits q_boilings q_fizzles ++ w_X2 y b o_settings o_letters o_heats o_starts o_families o_generations o_tally o_stories o_nextFamily o_splits o_boilings o_fizzles) rfl rfl rfl hl.1 (Nat.le_of_ble_eq_true rfl) dX2_copyFrom_1 ⟨Nat.le_refl 0, Nat.le_refl 0⟩ (fun H locs hG => ?_)
  refine lv_istore_n (lv' := [(2, .int r1), (0, .ref (a 0)), (1, .ref (b 0))]) hx hb dX2_copyFrom_4 rfl hl (by decide) rfl (fun ls hl => ?_)
  refine lv_aload_n hx hb dX2_copyFrom_5 rfl (lv_at hl 2 rfl) ?_
  refine w_get2 F hK hG k1 8 rfl 0 (by decide) k0 rfl dX2_copyFrom_6 ?_
  refine lv_iconst (v := nI 0) hx hb dX2_copyFrom_9 rfl ?_
  refine lv_aload_n hx hb dX2_copyFrom_10 rfl (lv_at hl 1 rfl) ?_
  refine w_get2 F hK hG k1 0 rfl 0 (by decide) k0 rfl dX2_copyFrom_11 ?_
  refine lv_iconst (v := nI 0) hx hb dX2_copyFrom_14 rfl ?_
  refine lv_iconst (v := nI 3) hx hb dX2_copyFrom_15 rfl ?_
  obtain ⟨g3, hf⟩ := gd_e hf
  refine w_copy F hK hG hl.1 k2 k3 k4 k5 9 1 rfl rfl g3 (w_X2 y a (cpA o_settings q_settings (nI 0) (nI 0) (nI 3)) q_letters q_heats q_starts q_families q_generations q_tally q_stories q_nextFamily q_splits q_boilings q_fizzles ++ w_X2 y b o_settings o_letters o_heats o_starts o_families o_generations o_tally o_stories o_nextFamily o_splits o_boilings o_fizzles) rfl ⟨Nat.le_of_ble_eq_true rfl, by decide⟩ dX2_copyFrom_16 (fun H locs hG => ?_)
  refine lv_aload_n hx hb dX2_copyFrom_19 rfl (lv_at hl 2 rfl) ?_
  refine w_get2 F hK hG k1 8 rfl 1 (by decide) k6 rfl dX2_copyFrom_20 ?_
  refine lv_iconst (v := nI 0) hx hb dX2_copyFrom_23 rfl ?_
  refine lv_aload_n hx hb dX2_copyFrom_24 rfl (lv_at hl 1 rfl) ?_
  refine w_get2 F hK hG k1 0 rfl 1 (by decide) k6 rfl dX2_copyFrom_25 ?_
  refine lv_iconst (v := nI 0) hx hb dX2_copyFrom_28 rfl ?_
  refine lv_iload_n hx hb dX2_copyFrom_29 rfl (lv_at hl 0 rfl) ?_
  obtain ⟨g4, hf⟩ := gd_e hf
  refine w_copy F hK hG hl.1 k2 k3 k4 k5 10 2 rfl rfl g4 (w_X2 y a (cpA o_settings q_settings (nI 0) (nI 0) (nI 3)) (cpA o_letters q_letters (nI 0) (nI 0) r1) q_heats q_starts q_families q_generations q_tally q_stories q_nextFamily q_splits q_boilings q_fizzles ++ w_X2 y b o_settings o_letters o_heats o_starts o_families o_generations o_tally o_stories o_nextFamily o_splits o_boilings o_fizzles) rfl ⟨Nat.le_of_ble_eq_true rfl, by decide⟩ dX2_copyFrom_30 (fun H locs hG => ?_)
  refine lv_aload_n hx hb dX2_copyFrom_33 rfl (lv_at hl 2 rfl) ?_
  refine w_get2 F hK hG k1 8 rfl 2 (by decide) k7 rfl dX2_copyFrom_34 ?_
  refine lv_iconst (v := nI 0) hx hb dX2_copyFrom_37 rfl ?_
  refine lv_aload_n hx hb dX2_copyFrom_38 rfl (lv_at hl 1 rfl) ?_
  refine w_get2 F hK hG k1 0 rfl 2 (by decide) k7 rfl dX2_copyFrom_39 ?_
  refine lv_iconst (v := nI 0) hx hb dX2_copyFrom_42 rfl ?_
  refine lv_iload_n hx hb dX2_copyFrom_43 rfl (lv_at hl 0 rfl) ?_
  obtain ⟨g5, hf⟩ := gd_e hf
  refine w_copy F hK hG hl.1 k2 k3 k4 k5 11 3 rfl rfl g5 (w_X2 y a (cpA o_settings q_settings (nI 0) (nI 0) (nI 3)) (cpA o_letters q_letters (nI 0) (nI 0) r1) (cpA o_heats q_heats (nI 0) (nI 0) r1) q_starts q_families q_generations q_tally q_stories q_nextFamily q_splits q_boilings q_fizzles ++ w_X2 y b o_settings o_letters o_heats o_starts o_families o_generations o_tally o_stories o_nextFamily o_splits o_boilings o_fizzles) rfl ⟨Nat.le_of_ble_eq_true rfl, by decide⟩ dX2_copyFrom_44 (fun H locs hG => ?_)
  refine lv_aload_n hx hb dX2_copyFrom_47 rfl (lv_at hl 2 rfl) ?_
  refine w_get2 F hK hG k1 8 rfl 3 (by decide) k8 rfl dX2_copyFrom_48 ?_
  refine lv_iconst (v := nI 0) hx hb dX2_copyFrom_51 rfl ?_
  refine lv_aload_n hx hb dX2_copyFrom_52 rfl (lv_at hl 1 rfl) ?_
  refine w_get2 F hK hG k1 0 rfl 3 (by decide) k8 rfl dX2_copyFrom_53 ?_
  refine lv_iconst (v := nI 0) hx hb dX2_copyFrom_56 rfl ?_
  refine lv_aload_n hx hb dX2_copyFrom_57 rfl (lv_at hl 2 rfl) ?_
  refine w_get2 F hK hG k1 8 rfl 7 (by decide) k9 rfl dX2_copyFrom_58 ?_
  refine lv_iconst (v := nI 1) hx hb dX2_copyFrom_61 rfl ?_
  refine lv_iadd hx hb dX2_copyFrom_62 ?_
  obtain ⟨g6, hf⟩ := gd_e hf
  refine w_copy F hK hG hl.1 k2 k3 k4 k5 12 4 rfl rfl g6 (w_X2 y a (cpA o_settings q_settings (nI 0) (nI 0) (nI 3)) (cpA o_letters q_letters (nI 0) (nI 0) r1) (cpA o_heats q_heats (nI 0) (nI 0) r1) (cpA o_starts q_starts (nI 0) (nI 0) (o_stories + (nI 1))) q_families q_generations q_tally q_stories q_nextFamily q_splits q_boilings q_fizzles ++ w_X2 y b o_settings o_letters o_heats o_starts o_families o_generations o_tally o_stories o_nextFamily o_splits o_boilings o_fizzles) rfl ⟨Nat.le_of_ble_eq_true rfl, by decide⟩ dX2_copyFrom_63 (fun H locs hG => ?_)
  refine lv_aload_n hx hb dX2_copyFrom_66 rfl (lv_at hl 2 rfl) ?_
  refine w_get2 F hK hG k1 8 rfl 4 (by decide) k10 rfl dX2_copyFrom_67 ?_
  refine lv_iconst (v := nI 0) hx hb dX2_copyFrom_70 rfl ?_
  refine lv_aload_n hx hb dX2_copyFrom_71 rfl (lv_at hl 1 rfl) ?_
  refine w_get2 F hK hG k1 0 rfl 4 (by decide) k10 rfl dX2_copyFrom_72 ?_
  refine lv_iconst (v := nI 0) hx hb dX2_copyFrom_75 rfl ?_
  refine lv_aload_n hx hb dX2_copyFrom_76 rfl (lv_at hl 2 rfl) ?_
  refine w_get2 F hK hG k1 8 rfl 7 (by decide) k9 rfl dX2_copyFrom_77 ?_
  obtain ⟨g7, hf⟩ := gd_e hf
  refine w_copy F hK hG hl.1 k2 k3 k4 k5 13 5 rfl rfl g7 (w_X2 y a (cpA o_settings q_settings (nI 0) (nI 0) (nI 3)) (cpA o_letters q_letters (nI 0) (nI 0) r1) (cpA o_heats q_heats (nI 0) (nI 0) r1) (cpA o_starts q_starts (nI 0) (nI 0) (o_stories + (nI 1))) (cpA o_families q_families (nI 0) (nI 0) o_stories) q_generations q_tally q_stories q_nextFamily q_splits q_boilings q_fizzles ++ w_X2 y b o_settings o_letters o_heats o_starts o_families o_generations o_tally o_stories o_nextFamily o_splits o_boilings o_fizzles) rfl ⟨Nat.le_of_ble_eq_true rfl, by decide⟩ dX2_copyFrom_80 (fun H locs hG => ?_)
  refine lv_aload_n hx hb dX2_copyFrom_83 rfl (lv_at hl 2 rfl) ?_
  refine w_get2 F hK hG k1 8 rfl 5 (by decide) k11 rfl dX2_copyFrom_84 ?_
  refine lv_iconst (v := nI 0) hx hb dX2_copyFrom_87 rfl ?_
  refine lv_aload_n hx hb dX2_copyFrom_88 rfl (lv_at hl 1 rfl) ?_
  refine w_get2 F hK hG k1 0 rfl 5 (by decide) k11 rfl dX2_copyFrom_89 ?_
  refine lv_iconst (v := nI 0) hx hb dX2_copyFrom_92 rfl ?_
  refine lv_aload_n hx hb dX2_copyFrom_93 rfl (lv_at hl 2 rfl) ?_
  refine w_get2 F hK hG k1 8 rfl 7 (by decide) k9 rfl dX2_copyFrom_94 ?_
  obtain ⟨g8, hf⟩ := gd_e hf
  refine w_copy F hK hG hl.1 k2 k3 k4 k5 14 6 rfl rfl g8 (w_X2 y a (cpA o_settings q_settings (nI 0) (nI 0) (nI 3)) (cpA o_letters q_letters (nI 0) (nI 0) r1) (cpA o_heats q_heats (nI 0) (nI 0) r1) (cpA o_starts q_starts (nI 0) (nI 0) (o_stories + (nI 1))) (cpA o_families q_families (nI 0) (nI 0) o_stories) (cpA o_generations q_generations (nI 0) (nI 0) o_stories) q_tally q_stories q_nextFamily q_splits q_boilings q_fizzles ++ w_X2 y b o_settings o_letters o_heats o_starts o_families o_generations o_tally o_stories o_nextFamily o_splits o_boilings o_fizzles) rfl ⟨Nat.le_of_ble_eq_true rfl, by decide⟩ dX2_copyFrom_97 (fun H locs hG => ?_)
  refine lv_aload_n hx hb dX2_copyFrom_100 rfl (lv_at hl 1 rfl) ?_
  refine lv_aload_n hx hb dX2_copyFrom_101 rfl (lv_at hl 2 rfl) ?_
  refine w_get2 F hK hG k1 8 rfl 7 (by decide) k9 rfl dX2_copyFrom_102 ?_
  refine w_put2 F hK hG k1 0 rfl 7 (by decide) k9 rfl rfl rfl (Nat.le_of_ble_eq_true rfl) (w_X2 y a (cpA o_settings q_settings (nI 0) (nI 0) (nI 3)) (cpA o_letters q_letters (nI 0) (nI 0) r1) (cpA o_heats q_heats (nI 0) (nI 0) r1) (cpA o_starts q_starts (nI 0) (nI 0) (o_stories + (nI 1))) (cpA o_families q_families (nI 0) (nI 0) o_stories) (cpA o_generations q_generations (nI 0) (nI 0) o_stories) q_tally o_stories q_nextFamily q_splits q_boilings q_fizzles ++ w_X2 y b o_settings o_letters o_heats o_starts o_families o_generations o_tally o_stories o_nextFamily o_splits o_boilings o_fizzles) rfl dX2_copyFrom_105 (fun H locs hG => ?_)
  refine lv_aload_n hx hb dX2_copyFrom_108 rfl (lv_at hl 1 rfl) ?_
  refine lv_aload_n hx hb dX2_copyFrom_109 rfl (lv_at hl 2 rfl) ?_
  refine w_get2 F hK hG k1 8 rfl 8 (by decide) k12 rfl dX2_copyFrom_110 ?_
  refine w_put2 F hK hG k1 0 rfl 8 (by decide) k12 rfl rfl rfl (Nat.le_of_ble_eq_true rfl) (w_X2 y a (cpA o_settings q_settings (nI 0) (nI 0) (nI 3)) (cpA o_letters q_letters (nI 0) (nI 0) r1) (cpA o_heats q_heats (nI 0) (nI 0) r1) (cpA o_starts q_starts (nI 0) (nI 0) (o_stories + (nI 1))) (cpA o_families q_families (nI 0) (nI 0) o_stories) (cpA o_generations q_generations (nI 0) (nI 0) o_stories) q_tally o_stories o_nextFamily q_splits q_boilings q_fizzles ++ w_X2 y b o_settings o_letters o_heats o_starts o_families o_generations o_tally o_stories o_nextFamily o_splits o_boilings o_fizzles) rfl dX2_copyFrom_113 (fun H locs hG => ?_)
  refine lv_aload_n hx hb dX2_copyFrom_116 rfl (lv_at hl 1 rfl) ?_
  refine lv_aload_n hx hb dX2_copyFrom_117 rfl (lv_at hl 2 rfl) ?_
  refine w_get2 F hK hG k1 8 rfl 9 (by decide) k13 rfl dX2_copyFrom_118 ?_
  refine w_put2 F hK hG k1 0 rfl 9 (by decide) k13 rfl rfl rfl (Nat.le_of_ble_eq_true rfl) (w_X2 y a (cpA o_settings q_settings (nI 0) (nI 0) (nI 3)) (cpA o_letters q_letters (nI 0) (nI 0) r1) (cpA o_heats q_heats (nI 0) (nI 0) r1) (cpA o_starts q_starts (nI 0) (nI 0) (o_stories + (nI 1))) (cpA o_families q_families (nI 0) (nI 0) o_stories) (cpA o_generations q_generations (nI 0) (nI 0) o_stories) q_tally o_stories o_nextFamily o_splits q_boilings q_fizzles ++ w_X2 y b o_settings o_letters o_heats o_starts o_families o_generations o_tally o_stories o_nextFamily o_splits o_boilings o_fizzles) rfl dX2_copyFrom_121 (fun H locs hG => ?_)
  refine lv_aload_n hx hb dX2_copyFrom_124 rfl (lv_at hl 1 rfl) ?_
  refine lv_aload_n hx hb dX2_copyFrom_125 rfl (lv_at hl 2 rfl) ?_
  refine w_get2 F hK hG k1 8 rfl 10 (by decide) k14 rfl dX2_copyFrom_126 ?_
  refine w_put2 F hK hG k1 0 rfl 10 (by decide) k14 rfl rfl rfl (Nat.le_of_ble_eq_true rfl) (w_X2 y a (cpA o_settings q_settings (nI 0) (nI 0) (nI 3)) (cpA o_letters q_letters (nI 0) (nI 0) r1) (cpA o_heats q_heats (nI 0) (nI 0) r1) (cpA o_starts q_starts (nI 0) (nI 0) (o_stories + (nI 1))) (cpA o_families q_families (nI 0) (nI 0) o_stories) (cpA o_generations q_generations (nI 0) (nI 0) o_stories) q_tally o_stories o_nextFamily o_splits o_boilings q_fizzles ++ w_X2 y b o_settings o_letters o_heats o_starts o_families o_generations o_tally o_stories o_nextFamily o_splits o_boilings o_fizzles) rfl dX2_copyFrom_129 (fun H locs hG => ?_)
  refine lv_aload_n hx hb dX2_copyFrom_132 rfl (lv_at hl 1 rfl) ?_
  refine lv_aload_n hx hb dX2_copyFrom_133 rfl (lv_at hl 2 rfl) ?_
  refine w_get2 F hK hG k1 8 rfl 11 (by decide) k15 rfl dX2_copyFrom_134 ?_
  refine w_put2 F hK hG k1 0 rfl 11 (by decide) k15 rfl rfl rfl (Nat.le_of_ble_eq_true rfl) (w_X2 y a (cpA o_settings q_settings (nI 0) (nI 0) (nI 3)) (cpA o_letters q_letters (nI 0) (nI 0) r1) (cpA o_heats q_heats (nI 0) (nI 0) r1) (cpA o_starts q_starts (nI 0) (nI 0) (o_stories + (nI 1))) (cpA o_families q_families (nI 0) (nI 0) o_stories) (cpA o_generations q_generations (nI 0) (nI 0) o_stories) q_tally o_stories o_nextFamily o_splits o_boilings o_fizzles ++ w_X2 y b o_settings o_letters o_heats o_starts o_families o_generations o_tally o_stories o_nextFamily o_splits o_boilings o_fizzles) rfl dX2_copyFrom_137 (fun H locs hG => ?_)
  have hf := so_e hf
  have e0 : (cpA o_settings q_settings (nI 0) (nI 0) (nI 3)) = q_settings_o := congrArg (fun z => z.1) hf
  have e1 : (cpA o_letters q_letters (nI 0) (nI 0) r1) = q_letters_o := congrArg (fun z => z.2.1) hf
  have e2 : (cpA o_heats q_heats (nI 0) (nI 0) r1) = q_heats_o := congrArg (fun z => z.2.2.1) hf
  have e3 : (cpA o_starts q_starts (nI 0) (nI 0) (o_stories + (nI 1))) = q_starts_o := congrArg (fun z => z.2.2.2.1) hf
  have e4 : (cpA o_families q_families (nI 0) (nI 0) o_stories) = q_families_o := congrArg (fun z => z.2.2.2.2.1) hf
  have e5 : (cpA o_generations q_generations (nI 0) (nI 0) o_stories) = q_generations_o := congrArg (fun z => z.2.2.2.2.2.1) hf
  have e6 : o_stories = q_stories_o := congrArg (fun z => z.2.2.2.2.2.2.1) hf
  have e7 : o_nextFamily = q_nextFamily_o := congrArg (fun z => z.2.2.2.2.2.2.2.1) hf
  have e8 : o_splits = q_splits_o := congrArg (fun z => z.2.2.2.2.2.2.2.2.1) hf
  have e9 : o_boilings = q_boilings_o := congrArg (fun z => z.2.2.2.2.2.2.2.2.2.1) hf
  have e10 : o_fizzles = q_fizzles_o := congrArg (fun z => z.2.2.2.2.2.2.2.2.2.2) hf
  exact hret _ _ _ _ (by rw [← e0, ← e1, ← e2, ← e3, ← e4, ← e5, ← e6, ← e7, ← e8, ← e9, ← e10]; exact hG) dX2_copyFrom_140
set_option maxHeartbeats 1000000 in
set_option maxRecDepth 100000 in
theorem c_X0_record (l : Launch) (D : va_G) (y : Nat → ClassId) (ha b : Nat → Nat) (hsb : Nat → Nat → Nat) (sz : Nat) (Fu : Nat) (h_v : (Nat → SV)) (h_oldest : Int32) (h_size : Int32) (o_settings : Ar) (o_letters : Ar) (o_heats : Ar) (o_starts : Ar) (o_families : Ar) (o_generations : Ar) (o_tally : Ar) (o_stories : Int32) (o_nextFamily : Int32) (o_splits : Int32) (o_boilings : Int32) (o_fizzles : Int32) (h_v_o : (Nat → SV)) (h_oldest_o : Int32) (h_size_o : Int32) (hf : f_X0_record Fu h_v h_oldest h_size o_settings o_letters o_heats o_starts o_families o_generations o_stories o_nextFamily o_splits o_boilings o_fizzles = some (h_v_o, h_oldest_o, h_size_o)) : MV l yX0_record wsX0_record 2 62 [.ref (ha 0), .ref (b 0)] D y (w_X0 y ha hsb h_v h_oldest h_size ++ w_X2 y b o_settings o_letters o_heats o_starts o_families o_generations o_tally o_stories o_nextFamily o_splits o_boilings o_fizzles) sz (w_X0 y ha hsb h_v_o h_oldest_o h_size_o ++ w_X2 y b o_settings o_letters o_heats o_starts o_families o_generations o_tally o_stories o_nextFamily o_splits o_boilings o_fizzles) := by
  refine M_v (cc := cX0_record) (maxL := 2) (own := RX0) (by decide) rfl rfl (Nat.le_of_ble_eq_true rfl) ?_
  intro p e s m args below meth c A Q F hK hA H locs hG hret ls hl
  have hx := F.1
  have hb := F.2.1
  have hl : lv_has ls 2 [(0, .ref (ha 0)), (1, .ref (b 0))] := hl
  have k0 := F.2.2.2.2 (.fieldLink RX0 11 "HeatedStories$History" "states" "[LHeatedStories$Shelf;") (List.mem_of_getElem? (i := 1) rfl)
  have k1 : ∀ w ∈ wsX00, w ∈ wsX0_record := (fun w h => List.mem_cons_of_mem _ (List.mem_append_left _ (List.mem_append_right _ (h))))
  have k2 := F.2.2.2.2 (.fieldLink RX0 18 "HeatedStories$History" "oldest" "I") (List.mem_of_getElem? (i := 2) rfl)
  have k3 := F.2.2.2.2 (.fieldLink RX0 22 "HeatedStories$History" "size" "I") (List.mem_of_getElem? (i := 3) rfl)
  unfold f_X0_record at hf
  refine lv_aload_n hx hb dX0_record_0 rfl (lv_at hl 0 rfl) ?_
  refine w_get0 F hK hG k1 0 rfl 0 (by decide) k0 rfl dX0_record_1 ?_
  refine lv_aload_n hx hb dX0_record_4 rfl (lv_at hl 0 rfl) ?_
  refine w_get0 F hK hG k1 0 rfl 1 (by decide) k2 rfl dX0_record_5 ?_
  refine lv_aload_n hx hb dX0_record_8 rfl (lv_at hl 0 rfl) ?_
  refine w_get0 F hK hG k1 0 rfl 2 (by decide) k3 rfl dX0_record_9 ?_
  refine lv_iadd hx hb dX0_record_12 ?_
  refine lv_bipush (v := nI 6) hx hb dX0_record_13 rfl ?_
  refine lv_irem hx hb dX0_record_15 (by decide) ?_
  obtain ⟨g1, hf⟩ := gd_e hf
  obtain ⟨i2, ei2, hf⟩ := nm_o hf
  have hi2 : i2 < 6 := by rw [ei2]; exact ix_lt g1
  refine w_aald F hK hG 1 (f := fun k => some (hsb k 0)) rfl g1 ei2 rfl dX0_record_16 ?_
  refine lv_aload_n hx hb dX0_record_17 rfl (lv_at hl 1 rfl) ?_
  obtain ⟨z_settings_3, z_letters_4, z_heats_5, z_starts_6, z_families_7, z_generations_8, z_stories_9, z_nextFamily_10, z_splits_11, z_boilings_12, z_fizzles_13, h14, hf⟩ := bd11_e hf
  have hG := GG.popen hi2 (h_X0 y ha hsb h_oldest h_size) (w_X2 y b o_settings o_letters o_heats o_starts o_families o_generations o_tally o_stories o_nextFamily o_splits o_boilings o_fizzles) hsb h_v hG
  refine k_Vv F hK hA hG (c_X2_copyFrom l D y (hsb i2) b H.size Fu (sv_settings (h_v i2)) (sv_letters (h_v i2)) (sv_heats (h_v i2)) (sv_starts (h_v i2)) (sv_families (h_v i2)) (sv_generations (h_v i2)) (sv_tally (h_v i2)) (sv_stories (h_v i2)) (sv_nextFamily (h_v i2)) (sv_splits (h_v i2)) (sv_boilings (h_v i2)) (sv_fizzles (h_v i2)) o_settings o_letters o_heats o_starts o_families o_generations o_tally o_stories o_nextFamily o_splits o_boilings o_fizzles z_settings_3 z_letters_4 z_heats_5 z_starts_6 z_families_7 z_generations_8 z_stories_9 z_nextFamily_10 z_splits_11 z_boilings_12 z_fizzles_13 h14) (cwV 1 F.2.2.2.2 gX0_record_X2_copyFrom rfl rfl rfl (by decide +kernel) ⟨Nat.le_of_ble_eq_true rfl, Nat.le_of_ble_eq_true rfl⟩) 0 rfl rfl [0, 1, 2, 3, 4, 5, 6, 7, 10, 11, 12, 13, 14, 15, 16, 17] rfl rfl rfl (w_sv y (hsb i2) (mkSV z_settings_3 z_letters_4 z_heats_5 z_starts_6 z_families_7 z_generations_8 (sv_tally (h_v i2)) z_stories_9 z_nextFamily_10 z_splits_11 z_boilings_12 z_fizzles_13) ++ ((h_X0 y ha hsb h_oldest h_size) ++ ((w_X2 y b o_settings o_letters o_heats o_starts o_families o_generations o_tally o_stories o_nextFamily o_splits o_boilings o_fizzles) ++ poolX y hsb h_v 6 i2))) rfl rfl rfl hl.1 (Nat.le_of_ble_eq_true rfl) dX0_record_18 ⟨Nat.le_refl 0, Nat.le_refl 0⟩ (fun H locs hG => ?_)
  have hG := GG.pclose hi2 (h_X0 y ha hsb h_oldest h_size) (w_X2 y b o_settings o_letters o_heats o_starts o_families o_generations o_tally o_stories o_nextFamily o_splits o_boilings o_fizzles) hsb h_v (mkSV z_settings_3 z_letters_4 z_heats_5 z_starts_6 z_families_7 z_generations_8 (sv_tally (h_v i2)) z_stories_9 z_nextFamily_10 z_splits_11 z_boilings_12 z_fizzles_13) hG
  have hG : GG D A s.heap (w_X0 y ha hsb (va_up h_v i2 (mkSV z_settings_3 z_letters_4 z_heats_5 z_starts_6 z_families_7 z_generations_8 (sv_tally (h_v i2)) z_stories_9 z_nextFamily_10 z_splits_11 z_boilings_12 z_fizzles_13)) h_oldest h_size ++ w_X2 y b o_settings o_letters o_heats o_starts o_families o_generations o_tally o_stories o_nextFamily o_splits o_boilings o_fizzles) H locs := hG
  obtain ⟨h_v_15, eh_v_15, hf⟩ := nm_o hf
  rw [← eh_v_15] at hG
  refine lv_aload_n hx hb dX0_record_21 rfl (lv_at hl 0 rfl) ?_
  refine w_get0 F hK hG k1 0 rfl 2 (by decide) k3 rfl dX0_record_22 ?_
  refine lv_bipush (v := nI 6) hx hb dX0_record_25 rfl ?_
  obtain ⟨j19, ej19, hf⟩ := jn_e hf
  have hj19 : ∀ (h_oldest_17 : Int32) (h_size_18 : Int32) (H : Heap) (locs : List Loc) (ls : Array Slot), j19 h_oldest_17 h_size_18 = some (h_v_o, h_oldest_o, h_size_o) → GG D A s.heap (w_X0 y ha hsb h_v_15 h_oldest_17 h_size_18 ++ w_X2 y b o_settings o_letters o_heats o_starts o_families o_generations o_tally o_stories o_nextFamily o_splits o_boilings o_fizzles) H locs → lv_has ls 2 [] → W p l e (RM 2 62) s m args below meth c H locs 0 0 Q (F0 m 56 ls []) := by
    intro h_oldest_17 h_size_18 H locs ls hf hG hl
    rw [ej19] at hf
    have hf := so_e hf
    have e0 : h_v_15 = h_v_o := congrArg (fun z => z.1) hf
    have e1 : h_oldest_17 = h_oldest_o := congrArg (fun z => z.2.1) hf
    have e2 : h_size_18 = h_size_o := congrArg (fun z => z.2.2) hf
    exact hret _ _ _ _ (by rw [← e0, ← e1, ← e2]; exact hG) dX0_record_56
  refine lv_icmp_ge (tgt := 43) hx hb dX0_record_27 (by decide) (fun c16 => ?_) (fun c16 => ?_)
  · have hf := it_e c16 hf
    refine lv_aload_n hx hb dX0_record_43 rfl (lv_at hl 0 rfl) ?_
    refine lv_aload_n hx hb dX0_record_44 rfl (lv_at hl 0 rfl) ?_
    refine w_get0 F hK hG k1 0 rfl 1 (by decide) k2 rfl dX0_record_45 ?_
    refine lv_iconst (v := nI 1) hx hb dX0_record_48 rfl ?_
    refine lv_iadd hx hb dX0_record_49 ?_
    refine lv_bipush (v := nI 6) hx hb dX0_record_50 rfl ?_
    refine lv_irem hx hb dX0_record_52 (by decide) ?_
    refine w_put0 F hK hG k1 0 rfl 1 (by decide) k2 rfl rfl rfl (Nat.le_of_ble_eq_true rfl) (w_X0 y ha hsb h_v_15 ((h_oldest + (nI 1)) - (h_oldest + (nI 1)) / (nI 6) * (nI 6)) h_size ++ w_X2 y b o_settings o_letters o_heats o_starts o_families o_generations o_tally o_stories o_nextFamily o_splits o_boilings o_fizzles) rfl dX0_record_53 (fun H locs hG => ?_)
    exact hj19 ((h_oldest + (nI 1)) - (h_oldest + (nI 1)) / (nI 6) * (nI 6)) h_size _ _ ls hf hG (lv_sub hl [] rfl)
  · have hf := if_e c16 hf
    refine lv_aload_n hx hb dX0_record_30 rfl (lv_at hl 0 rfl) ?_
    refine lv_dup hx hb dX0_record_31 rfl ?_
    refine w_get0 F hK hG k1 0 rfl 2 (by decide) k3 rfl dX0_record_32 ?_
    refine lv_iconst (v := nI 1) hx hb dX0_record_35 rfl ?_
    refine lv_iadd hx hb dX0_record_36 ?_
    refine w_put0 F hK hG k1 0 rfl 2 (by decide) k3 rfl rfl rfl (Nat.le_of_ble_eq_true rfl) (w_X0 y ha hsb h_v_15 h_oldest (h_size + (nI 1)) ++ w_X2 y b o_settings o_letters o_heats o_starts o_families o_generations o_tally o_stories o_nextFamily o_splits o_boilings o_fizzles) rfl dX0_record_37 (fun H locs hG => ?_)
    refine lv_goto (tgt := 56) hx hb dX0_record_40 (by decide) ?_
    exact hj19 h_oldest (h_size + (nI 1)) _ _ ls hf hG (lv_sub hl [] rfl)
set_option maxHeartbeats 1000000 in
set_option maxRecDepth 100000 in
theorem c_X0_takeBack (l : Launch) (D : va_G) (y : Nat → ClassId) (ha b : Nat → Nat) (hsb : Nat → Nat → Nat) (sz : Nat) (Fu : Nat) (h_v : (Nat → SV)) (h_oldest : Int32) (h_size : Int32) (o_settings : Ar) (o_letters : Ar) (o_heats : Ar) (o_starts : Ar) (o_families : Ar) (o_generations : Ar) (o_tally : Ar) (o_stories : Int32) (o_nextFamily : Int32) (o_splits : Int32) (o_boilings : Int32) (o_fizzles : Int32) (h_size_o : Int32) (o_settings_o : Ar) (o_letters_o : Ar) (o_heats_o : Ar) (o_starts_o : Ar) (o_families_o : Ar) (o_generations_o : Ar) (o_stories_o : Int32) (o_nextFamily_o : Int32) (o_splits_o : Int32) (o_boilings_o : Int32) (o_fizzles_o : Int32) (hf : f_X0_takeBack Fu h_v h_oldest h_size o_settings o_letters o_heats o_starts o_families o_generations o_stories o_nextFamily o_splits o_boilings o_fizzles = some (h_size_o, o_settings_o, o_letters_o, o_heats_o, o_starts_o, o_families_o, o_generations_o, o_stories_o, o_nextFamily_o, o_splits_o, o_boilings_o, o_fizzles_o)) : MV l yX0_takeBack wsX0_takeBack 2 62 [.ref (ha 0), .ref (b 0)] D y (w_X0 y ha hsb h_v h_oldest h_size ++ w_X2 y b o_settings o_letters o_heats o_starts o_families o_generations o_tally o_stories o_nextFamily o_splits o_boilings o_fizzles) sz (w_X0 y ha hsb h_v h_oldest h_size_o ++ w_X2 y b o_settings_o o_letters_o o_heats_o o_starts_o o_families_o o_generations_o o_tally o_stories_o o_nextFamily_o o_splits_o o_boilings_o o_fizzles_o) := by
  refine M_v (cc := cX0_takeBack) (maxL := 2) (own := RX0) (by decide) rfl rfl (Nat.le_of_ble_eq_true rfl) ?_
  intro p e s m args below meth c A Q F hK hA H locs hG hret ls hl
  have hx := F.1
  have hb := F.2.1
  have hl : lv_has ls 2 [(0, .ref (ha 0)), (1, .ref (b 0))] := hl
  have k0 := F.2.2.2.2 (.fieldLink RX0 22 "HeatedStories$History" "size" "I") (List.mem_of_getElem? (i := 1) rfl)
  have k1 : ∀ w ∈ wsX00, w ∈ wsX0_takeBack := (fun w h => List.mem_cons_of_mem _ (List.mem_append_left _ (List.mem_append_right _ (h))))
  have k2 := F.2.2.2.2 (.fieldLink RX0 11 "HeatedStories$History" "states" "[LHeatedStories$Shelf;") (List.mem_of_getElem? (i := 2) rfl)
  have k3 := F.2.2.2.2 (.fieldLink RX0 18 "HeatedStories$History" "oldest" "I") (List.mem_of_getElem? (i := 3) rfl)
  unfold f_X0_takeBack at hf
  refine lv_aload_n hx hb dX0_takeBack_0 rfl (lv_at hl 0 rfl) ?_
  refine lv_dup hx hb dX0_takeBack_1 rfl ?_
  refine w_get0 F hK hG k1 0 rfl 2 (by decide) k0 rfl dX0_takeBack_2 ?_
  refine lv_iconst (v := nI 1) hx hb dX0_takeBack_5 rfl ?_
  refine lv_isub hx hb dX0_takeBack_6 ?_
  refine w_put0 F hK hG k1 0 rfl 2 (by decide) k0 rfl rfl rfl (Nat.le_of_ble_eq_true rfl) (w_X0 y ha hsb h_v h_oldest (h_size - (nI 1)) ++ w_X2 y b o_settings o_letters o_heats o_starts o_families o_generations o_tally o_stories o_nextFamily o_splits o_boilings o_fizzles) rfl dX0_takeBack_7 (fun H locs hG => ?_)
  refine lv_aload_n hx hb dX0_takeBack_10 rfl (lv_at hl 1 rfl) ?_
  refine lv_aload_n hx hb dX0_takeBack_11 rfl (lv_at hl 0 rfl) ?_
  refine w_get0 F hK hG k1 0 rfl 0 (by decide) k2 rfl dX0_takeBack_12 ?_
  refine lv_aload_n hx hb dX0_takeBack_15 rfl (lv_at hl 0 rfl) ?_
  refine w_get0 F hK hG k1 0 rfl 1 (by decide) k3 rfl dX0_takeBack_16 ?_
  refine lv_aload_n hx hb dX0_takeBack_19 rfl (lv_at hl 0 rfl) ?_
  refine w_get0 F hK hG k1 0 rfl 2 (by decide) k0 rfl dX0_takeBack_20 ?_
  refine lv_iadd hx hb dX0_takeBack_23 ?_
  refine lv_bipush (v := nI 6) hx hb dX0_takeBack_24 rfl ?_
  refine lv_irem hx hb dX0_takeBack_26 (by decide) ?_
  obtain ⟨g1, hf⟩ := gd_e hf
  obtain ⟨i2, ei2, hf⟩ := nm_o hf
  have hi2 : i2 < 6 := by rw [ei2]; exact ix_lt g1
  refine w_aald F hK hG 1 (f := fun k => some (hsb k 0)) rfl g1 ei2 rfl dX0_takeBack_27 ?_
  obtain ⟨o_settings_3, o_letters_4, o_heats_5, o_starts_6, o_families_7, o_generations_8, o_stories_9, o_nextFamily_10, o_splits_11, o_boilings_12, o_fizzles_13, h14, hf⟩ := bd11_e hf
  have hG := GG.popen hi2 (h_X0 y ha hsb h_oldest (h_size - (nI 1))) (w_X2 y b o_settings o_letters o_heats o_starts o_families o_generations o_tally o_stories o_nextFamily o_splits o_boilings o_fizzles) hsb h_v hG
  refine k_Vv F hK hA hG (c_X2_copyFrom l D y b (hsb i2) H.size Fu o_settings o_letters o_heats o_starts o_families o_generations o_tally o_stories o_nextFamily o_splits o_boilings o_fizzles (sv_settings (h_v i2)) (sv_letters (h_v i2)) (sv_heats (h_v i2)) (sv_starts (h_v i2)) (sv_families (h_v i2)) (sv_generations (h_v i2)) (sv_tally (h_v i2)) (sv_stories (h_v i2)) (sv_nextFamily (h_v i2)) (sv_splits (h_v i2)) (sv_boilings (h_v i2)) (sv_fizzles (h_v i2)) o_settings_3 o_letters_4 o_heats_5 o_starts_6 o_families_7 o_generations_8 o_stories_9 o_nextFamily_10 o_splits_11 o_boilings_12 o_fizzles_13 h14) (cwV 1 F.2.2.2.2 gX0_takeBack_X2_copyFrom rfl rfl rfl (by decide +kernel) ⟨Nat.le_of_ble_eq_true rfl, Nat.le_of_ble_eq_true rfl⟩) 0 rfl rfl [10, 11, 12, 13, 14, 15, 16, 17, 0, 1, 2, 3, 4, 5, 6, 7] rfl rfl rfl (w_sv y (hsb i2) (h_v i2) ++ ((h_X0 y ha hsb h_oldest (h_size - (nI 1))) ++ ((w_X2 y b o_settings_3 o_letters_4 o_heats_5 o_starts_6 o_families_7 o_generations_8 o_tally o_stories_9 o_nextFamily_10 o_splits_11 o_boilings_12 o_fizzles_13) ++ poolX y hsb h_v 6 i2))) rfl rfl rfl hl.1 (Nat.le_of_ble_eq_true rfl) dX0_takeBack_28 ⟨Nat.le_refl 0, Nat.le_refl 0⟩ (fun H locs hG => ?_)
  have hG := GG.pclose0 hi2 (h_X0 y ha hsb h_oldest (h_size - (nI 1))) (w_X2 y b o_settings_3 o_letters_4 o_heats_5 o_starts_6 o_families_7 o_generations_8 o_tally o_stories_9 o_nextFamily_10 o_splits_11 o_boilings_12 o_fizzles_13) hsb h_v hG
  have hG : GG D A s.heap (w_X0 y ha hsb h_v h_oldest (h_size - (nI 1)) ++ w_X2 y b o_settings_3 o_letters_4 o_heats_5 o_starts_6 o_families_7 o_generations_8 o_tally o_stories_9 o_nextFamily_10 o_splits_11 o_boilings_12 o_fizzles_13) H locs := hG
  have hf := so_e hf
  have e0 : (h_size - (nI 1)) = h_size_o := congrArg (fun z => z.1) hf
  have e1 : o_settings_3 = o_settings_o := congrArg (fun z => z.2.1) hf
  have e2 : o_letters_4 = o_letters_o := congrArg (fun z => z.2.2.1) hf
  have e3 : o_heats_5 = o_heats_o := congrArg (fun z => z.2.2.2.1) hf
  have e4 : o_starts_6 = o_starts_o := congrArg (fun z => z.2.2.2.2.1) hf
  have e5 : o_families_7 = o_families_o := congrArg (fun z => z.2.2.2.2.2.1) hf
  have e6 : o_generations_8 = o_generations_o := congrArg (fun z => z.2.2.2.2.2.2.1) hf
  have e7 : o_stories_9 = o_stories_o := congrArg (fun z => z.2.2.2.2.2.2.2.1) hf
  have e8 : o_nextFamily_10 = o_nextFamily_o := congrArg (fun z => z.2.2.2.2.2.2.2.2.1) hf
  have e9 : o_splits_11 = o_splits_o := congrArg (fun z => z.2.2.2.2.2.2.2.2.2.1) hf
  have e10 : o_boilings_12 = o_boilings_o := congrArg (fun z => z.2.2.2.2.2.2.2.2.2.2.1) hf
  have e11 : o_fizzles_13 = o_fizzles_o := congrArg (fun z => z.2.2.2.2.2.2.2.2.2.2.2) hf
  exact hret _ _ _ _ (by rw [← e0, ← e1, ← e2, ← e3, ← e4, ← e5, ← e6, ← e7, ← e8, ← e9, ← e10, ← e11]; exact hG) dX0_takeBack_31
set_option maxHeartbeats 1000000 in
set_option maxRecDepth 100000 in
theorem c_X3_isWithin (l : Launch) (D : va_G) (y : Nat → ClassId)  (sz : Nat) (Fu : Nat) (p0 : Int32) (p1 : Int32) (p2 : Int32) (ro : Int32) (hf : f_X3_isWithin Fu p0 p1 p2 = some (ro)) : MI l yX3_isWithin wsX3_isWithin 0 0 [.int p0, .int p1, .int p2] D y [] sz ro [] := by
  refine M_z (cc := cX3_isWithin) (maxL := 3) (own := RX3) (by decide) rfl rfl (Nat.le_of_ble_eq_true rfl) ?_
  intro p e s m args below meth c A Q F hK hA H locs hG hret ls hl
  have hx := F.1
  have hb := F.2.1
  have hl : lv_has ls 3 [(0, .int p0), (1, .int p1), (2, .int p2)] := hl
  unfold f_X3_isWithin at hf
  refine lv_iload_n hx hb dX3_isWithin_0 rfl (lv_at hl 0 rfl) ?_
  refine lv_iload_n hx hb dX3_isWithin_1 rfl (lv_at hl 1 rfl) ?_
  obtain ⟨v3, ev3, hf⟩ := nm_o hf
  have hJ : ∀ (ls : Array Slot), lv_has ls 3 [] → W p l e (RM 0 0) s m args below meth c H locs 0 0 Q (F0 m 15 ls [.int v3]) := by
    intro ls hl
    obtain ⟨gz, hf⟩ := gd_e hf
    have hf := so_e hf
    have e0 : v3 = ro := hf
    exact hret _ _ _ _ _ (bz_n gz) e0 hG dX3_isWithin_15
  refine lv_icmp_lt (tgt := 14) hx hb dX3_isWithin_2 (by decide) (fun c1 => ?_) (fun c1 => ?_)
  · refine lv_iconst (v := nI 0) hx hb dX3_isWithin_14 rfl ?_
    have qv3 := (ev3.trans (if_pos c1))
    subst qv3
    exact hJ ls (lv_sub hl [] rfl)
  · refine lv_iload_n hx hb dX3_isWithin_5 rfl (lv_at hl 0 rfl) ?_
    refine lv_iload_n hx hb dX3_isWithin_6 rfl (lv_at hl 2 rfl) ?_
    refine lv_icmp_gt (tgt := 14) hx hb dX3_isWithin_7 (by decide) (fun c2 => ?_) (fun c2 => ?_)
    · refine lv_iconst (v := nI 0) hx hb dX3_isWithin_14 rfl ?_
      have qv3 := ((ev3.trans (if_neg c1)).trans (if_pos c2))
      subst qv3
      exact hJ ls (lv_sub hl [] rfl)
    · refine lv_iconst (v := nI 1) hx hb dX3_isWithin_10 rfl ?_
      refine lv_goto (tgt := 15) hx hb dX3_isWithin_11 (by decide) ?_
      have qv3 := ((ev3.trans (if_neg c1)).trans (if_neg c2))
      subst qv3
      exact hJ ls (lv_sub hl [] rfl)
set_option maxHeartbeats 1000000 in
set_option maxRecDepth 100000 in
theorem c_X1_charactersIn (l : Launch) (D : va_G) (y : Nat → ClassId)  (sz : Nat) (Fu : Nat) (p0 : Int64) (ro : Int32) (hf : f_X1_charactersIn Fu p0 = some (ro)) : MI l yX1_charactersIn wsX1_charactersIn 1 22 [.long p0] D y [] sz ro [] := by
  refine M_i (cc := cX1_charactersIn) (maxL := 5) (own := RX1) (by decide) rfl rfl (Nat.le_of_ble_eq_true rfl) ?_
  intro p e s m args below meth c A Q F hK hA H locs hG hret ls hl
  have hx := F.1
  have hb := F.2.1
  have hl : lv_has ls 5 [(0, .long p0)] := hl
  have k0 := F.2.2.2.2 (.constantLong RX1 15 (255)) (List.mem_of_getElem? (i := 1) rfl)
  have k1 := F.2.2.2.2 (.initialized RX3) (List.mem_of_getElem? (i := 3) rfl)
  have k2 := F.2.2.2.2 (.static yX3_isWithin) (List.mem_of_getElem? (i := 2) rfl)
  unfold f_X1_charactersIn at hf
  refine lv_lload_n hx hb dX1_charactersIn_0 rfl (lv_at hl 0 rfl) ?_
  refine lv_lstore_n (lv' := [(2, .long p0), (0, .long p0)]) hx hb dX1_charactersIn_1 rfl hl (by decide) rfl (fun ls hl => ?_)
  refine lv_iconst (v := nI 0) hx hb dX1_charactersIn_2 rfl ?_
  refine lv_istore (lv' := [(4, .int (nI 0)), (2, .long p0), (0, .long p0)]) hx hb dX1_charactersIn_3 hl (by decide) rfl (fun ls hl => ?_)
  have hL5 : ∀ (fu : Nat) (x1 : Int64) (x2 : Int32) (H : Heap) (locs : List Loc) (ls : Array Slot), f_X1_charactersIn_L5 Fu fu x1 x2 = some (ro) → GG D A s.heap [] H locs → lv_has ls 5 [(2, .long x1), (4, .int x2)] → W p l e (RM 1 22) s m args below meth c H locs 0 0 Q (F0 m 5 ls []) := by
    intro fu
    induction fu with
    | zero => intro x1 x2 H locs ls hf hG hl; exact no_e hf
    | succ fu ih =>
      intro x1 x2 H locs ls hf hG hl
      rw [f_X1_charactersIn_L5_s] at hf
      refine lv_iload hx hb dX1_charactersIn_5 (lv_at hl 1 rfl) ?_
      refine lv_bipush (v := nI 8) hx hb dX1_charactersIn_7 rfl ?_
      refine lv_icmp_ge (tgt := 47) hx hb dX1_charactersIn_9 (by decide) (fun c3 => ?_) (fun c3 => ?_)
      · have hf := it_e c3 hf
        refine lv_iload hx hb dX1_charactersIn_47 (lv_at hl 1 rfl) ?_
        have hf := so_e hf
        have e0 : x2 = ro := hf
        exact hret _ _ _ _ _ e0 hG dX1_charactersIn_49
      · have hf := if_e c3 hf
        refine lv_lload_n hx hb dX1_charactersIn_12 rfl (lv_at hl 0 rfl) ?_
        refine lv_lconst (v := lN 0) hx hb dX1_charactersIn_13 rfl ?_
        refine W.lcmp hx hb dX1_charactersIn_14 ?_
        refine lv_if_eq (tgt := 47) hx hb dX1_charactersIn_15 (by decide) (fun c4 => ?_) (fun c4 => ?_)
        · have hf := it_e c4 hf
          refine lv_iload hx hb dX1_charactersIn_47 (lv_at hl 1 rfl) ?_
          have hf := so_e hf
          have e0 : x2 = ro := hf
          exact hret _ _ _ _ _ e0 hG dX1_charactersIn_49
        · have hf := if_e c4 hf
          refine lv_lload_n hx hb dX1_charactersIn_18 rfl (lv_at hl 0 rfl) ?_
          refine lv_ldc2 (v := lN 255) hx hb F.2.2.2.1 (show (Cond.constantLong RX1 15 (lN 255)).before args s = true from k0) dX1_charactersIn_19 ?_
          refine lv_land hx hb dX1_charactersIn_22 ?_
          refine lv_l2i (v := ((x1 &&& (lN 255))).toInt32) hx hb dX1_charactersIn_23 rfl ?_
          refine lv_bipush (v := nI 33) hx hb dX1_charactersIn_24 rfl ?_
          refine lv_bipush (v := nI 126) hx hb dX1_charactersIn_26 rfl ?_
          obtain ⟨r5, h6, hf⟩ := bd1_e hf
          refine k_SNi F hK hA hG (c_X3_isWithin l D y  H.size Fu  (((x1 &&& (lN 255))).toInt32) (nI 33) (nI 126) r5 h6) ⟨va_cnB 3 F.2.2.2.2 gX1_charactersIn_X3_isWithin_n17 rfl rfl rfl hK.2.2.1 k1 (by decide +kernel) ⟨Nat.le_of_ble_eq_true rfl, Nat.le_of_ble_eq_true rfl⟩, k2, trivial⟩ rfl rfl hl.1 (Nat.le_of_ble_eq_true rfl) dX1_charactersIn_28 ⟨Nat.le_refl 0, Nat.le_refl 0⟩ (fun H locs hG => ?_)
          refine lv_if_ne (tgt := 36) hx hb dX1_charactersIn_31 (by decide) (fun c7 => ?_) (fun c7 => ?_)
          · have hf := if_e c7 hf
            refine lv_lload_n hx hb dX1_charactersIn_36 rfl (lv_at hl 0 rfl) ?_
            refine lv_bipush (v := nI 8) hx hb dX1_charactersIn_37 rfl ?_
            refine lv_lushr (v := (lushr x1 (nI 8))) hx hb dX1_charactersIn_39 rfl ?_
            refine lv_lstore_n (lv' := [(2, .long (lushr x1 (nI 8))), (4, .int x2)]) hx hb dX1_charactersIn_40 rfl hl (by decide) rfl (fun ls hl => ?_)
            refine lv_iinc (v := x2 + (nI 1)) (lv' := [(4, .int (x2 + (nI 1))), (2, .long (lushr x1 (nI 8)))]) hx hb dX1_charactersIn_41 hl (k := 1) rfl rfl (by decide) rfl (fun ls hl => ?_)
            refine lv_goto (tgt := 5) hx hb dX1_charactersIn_44 (by decide) ?_
            exact ih (lushr x1 (nI 8)) (x2 + (nI 1)) _ _ ls hf hG (lv_sub hl [1, 0] rfl)
          · have hf := it_e c7 hf
            refine lv_iconst (v := nI 0) hx hb dX1_charactersIn_34 rfl ?_
            have hf := so_e hf
            have e0 : (nI 0) = ro := hf
            exact hret _ _ _ _ _ e0 hG dX1_charactersIn_35
  exact hL5 Fu p0 (nI 0) _ _ ls hf hG (lv_sub hl [1, 0] rfl)
set_option maxHeartbeats 1000000 in
set_option maxRecDepth 100000 in
theorem c_X1_add (l : Launch) (D : va_G) (y : Nat → ClassId) (a : Nat → Nat) (sz : Nat) (Fu : Nat) (q_characters : Ar) (q_length : Int32) (p1 : Int64) (p3 : Int32) (q_characters_o : Ar) (q_length_o : Int32) (hf : f_X1_add Fu q_characters q_length p1 p3 = some (q_characters_o, q_length_o)) : MV l yX1_add wsX1_add 0 0 [.ref (a 0), .long p1, .int p3] D y (w_X1 y a q_characters q_length) sz (w_X1 y a q_characters_o q_length_o) := by
  refine M_v (cc := cX1_add) (maxL := 5) (own := RX1) (by decide) rfl rfl (Nat.le_of_ble_eq_true rfl) ?_
  intro p e s m args below meth c A Q F hK hA H locs hG hret ls hl
  have hx := F.1
  have hb := F.2.1
  have hl : lv_has ls 5 [(0, .ref (a 0)), (1, .long p1), (3, .int p3)] := hl
  have k0 := F.2.2.2.2 (.fieldLink RX1 11 "HeatedStories$Pad" "characters" "[C") (List.mem_of_getElem? (i := 1) rfl)
  have k1 : ∀ w ∈ wsX10, w ∈ wsX1_add := (fun w h => List.mem_cons_of_mem _ (List.mem_append_right _ (h)))
  have k2 := F.2.2.2.2 (.fieldLink RX1 21 "HeatedStories$Pad" "length" "I") (List.mem_of_getElem? (i := 2) rfl)
  have k3 := F.2.2.2.2 (.constantLong RX1 15 (255)) (List.mem_of_getElem? (i := 3) rfl)
  unfold f_X1_add at hf
  refine lv_iload_n hx hb dX1_add_0 rfl (lv_at hl 2 rfl) ?_
  refine lv_iconst (v := nI 1) hx hb dX1_add_1 rfl ?_
  refine lv_isub hx hb dX1_add_2 ?_
  refine lv_istore (lv' := [(4, .int (p3 - (nI 1))), (0, .ref (a 0)), (1, .long p1), (3, .int p3)]) hx hb dX1_add_3 hl (by decide) rfl (fun ls hl => ?_)
  obtain ⟨k_5, ek_5, hf⟩ := jn_e hf
  have hk_5 : ∀ (q_characters_7 : Ar) (q_length_8 : Int32) (H : Heap) (locs : List Loc) (ls : Array Slot), k_5 q_characters_7 q_length_8 = some (q_characters_o, q_length_o) → GG D A s.heap (w_X1 y a q_characters_7 q_length_8) H locs → lv_has ls 5 [] → W p l e (RM 0 0) s m args below meth c H locs 0 0 Q (F0 m 48 ls []) := by
    intro q_characters_7 q_length_8 H locs ls hf hG hl
    rw [ek_5] at hf
    have hf := so_e hf
    have e0 : q_characters_7 = q_characters_o := congrArg (fun z => z.1) hf
    have e1 : q_length_8 = q_length_o := congrArg (fun z => z.2) hf
    exact hret _ _ _ _ (by rw [← e0, ← e1]; exact hG) dX1_add_48
  have hL5 : ∀ (fu : Nat) (x1 : Int32) (q_characters_2 : Ar) (q_length_3 : Int32) (H : Heap) (locs : List Loc) (ls : Array Slot), f_X1_add_L5 Fu k_5 p1 fu x1 q_characters_2 q_length_3 = some (q_characters_o, q_length_o) → GG D A s.heap (w_X1 y a q_characters_2 q_length_3) H locs → lv_has ls 5 [(0, .ref (a 0)), (1, .long p1), (4, .int x1)] → W p l e (RM 0 0) s m args below meth c H locs 0 0 Q (F0 m 5 ls []) := by
    intro fu
    induction fu with
    | zero => intro x1 q_characters_2 q_length_3 H locs ls hf hG hl; exact no_e hf
    | succ fu ih =>
      intro x1 q_characters_2 q_length_3 H locs ls hf hG hl
      rw [f_X1_add_L5_s] at hf
      refine lv_iload hx hb dX1_add_5 (lv_at hl 2 rfl) ?_
      refine lv_if_lt (tgt := 48) hx hb dX1_add_7 (by decide) (fun c4 => ?_) (fun c4 => ?_)
      · have hf := it_e c4 hf
        exact hk_5 q_characters_2 q_length_3 _ _ ls hf hG (lv_sub hl [] rfl)
      · have hf := if_e c4 hf
        refine lv_aload_n hx hb dX1_add_10 rfl (lv_at hl 0 rfl) ?_
        refine w_get1 F hK hG k1 0 rfl 0 (by decide) k0 rfl dX1_add_11 ?_
        refine lv_aload_n hx hb dX1_add_14 rfl (lv_at hl 0 rfl) ?_
        refine w_get1 F hK hG k1 0 rfl 1 (by decide) k2 rfl dX1_add_15 ?_
        refine lv_lload_n hx hb dX1_add_18 rfl (lv_at hl 1 rfl) ?_
        refine lv_bipush (v := nI 8) hx hb dX1_add_19 rfl ?_
        refine lv_iload hx hb dX1_add_21 (lv_at hl 2 rfl) ?_
        refine lv_imul hx hb dX1_add_23 ?_
        refine lv_lushr (v := (lushr p1 ((nI 8) * x1))) hx hb dX1_add_24 rfl ?_
        refine lv_ldc2 (v := lN 255) hx hb F.2.2.2.1 (show (Cond.constantLong RX1 15 (lN 255)).before args s = true from k3) dX1_add_25 ?_
        refine lv_land hx hb dX1_add_28 ?_
        refine lv_l2i (v := (((lushr p1 ((nI 8) * x1)) &&& (lN 255))).toInt32) hx hb dX1_add_29 rfl ?_
        refine lv_i2c (v := i2c ((((lushr p1 ((nI 8) * x1)) &&& (lN 255))).toInt32)) hx hb dX1_add_30 rfl ?_
        obtain ⟨g5, hf⟩ := gd_e hf
        refine w_cast F hK hG 1 rfl (pk_vc ((((lushr p1 ((nI 8) * x1)) &&& (lN 255))).toInt32)) g5 (w_X1 y a (upd q_characters_2 (q_length_3).toNatClampNeg (i2c ((((lushr p1 ((nI 8) * x1)) &&& (lN 255))).toInt32))) q_length_3) rfl dX1_add_31 (fun H locs hG => ?_)
        obtain ⟨q_characters_6, eq_characters_6, hf⟩ := nm_o hf
        rw [← eq_characters_6] at hG
        refine lv_aload_n hx hb dX1_add_32 rfl (lv_at hl 0 rfl) ?_
        refine lv_dup hx hb dX1_add_33 rfl ?_
        refine w_get1 F hK hG k1 0 rfl 1 (by decide) k2 rfl dX1_add_34 ?_
        refine lv_iconst (v := nI 1) hx hb dX1_add_37 rfl ?_
        refine lv_iadd hx hb dX1_add_38 ?_
        refine w_put1 F hK hG k1 0 rfl 1 (by decide) k2 rfl rfl rfl (Nat.le_of_ble_eq_true rfl) (w_X1 y a q_characters_6 (q_length_3 + (nI 1))) rfl dX1_add_39 (fun H locs hG => ?_)
        refine lv_iinc (v := x1 + (-1)) (lv' := [(4, .int (x1 + (-1))), (0, .ref (a 0)), (1, .long p1)]) hx hb dX1_add_42 hl (k := 2) rfl rfl (by decide) rfl (fun ls hl => ?_)
        refine lv_goto (tgt := 5) hx hb dX1_add_45 (by decide) ?_
        exact ih (x1 + (-1)) q_characters_6 (q_length_3 + (nI 1)) _ _ ls hf hG (lv_sub hl [1, 2, 0] rfl)
  exact hL5 Fu (p3 - (nI 1)) q_characters q_length _ _ ls hf hG (lv_sub hl [1, 2, 0] rfl)
set_option maxHeartbeats 1000000 in
set_option maxRecDepth 100000 in
theorem c_X1_isWord (l : Launch) (D : va_G) (y : Nat → ClassId)  (sz : Nat) (Fu : Nat) (p0 : Int32) (ro : Int32) (hf : f_X1_isWord Fu p0 = some (ro)) : MI l yX1_isWord wsX1_isWord 1 22 [.int p0] D y [] sz ro [] := by
  refine M_z (cc := cX1_isWord) (maxL := 1) (own := RX1) (by decide) rfl rfl (Nat.le_of_ble_eq_true rfl) ?_
  intro p e s m args below meth c A Q F hK hA H locs hG hret ls hl
  have hx := F.1
  have hb := F.2.1
  have hl : lv_has ls 1 [(0, .int p0)] := hl
  have k0 := F.2.2.2.2 (.initialized RX3) (List.mem_of_getElem? (i := 2) rfl)
  have k1 := F.2.2.2.2 (.static yX3_isWithin) (List.mem_of_getElem? (i := 1) rfl)
  unfold f_X1_isWord at hf
  refine lv_iload_n hx hb dX1_isWord_0 rfl (lv_at hl 0 rfl) ?_
  refine lv_bipush (v := nI 97) hx hb dX1_isWord_1 rfl ?_
  refine lv_bipush (v := nI 122) hx hb dX1_isWord_3 rfl ?_
  obtain ⟨r1, h2, hf⟩ := bd1_e hf
  refine k_SNi F hK hA hG (c_X3_isWithin l D y  H.size Fu  p0 (nI 97) (nI 122) r1 h2) ⟨va_cnB 3 F.2.2.2.2 gX1_isWord_X3_isWithin_n17 rfl rfl rfl hK.2.2.1 k0 (by decide +kernel) ⟨Nat.le_of_ble_eq_true rfl, Nat.le_of_ble_eq_true rfl⟩, k1, trivial⟩ rfl rfl hl.1 (Nat.le_of_ble_eq_true rfl) dX1_isWord_5 ⟨Nat.le_refl 0, Nat.le_refl 0⟩ (fun H locs hG => ?_)
  obtain ⟨gz, hf⟩ := gd_e hf
  have hf := so_e hf
  have e0 : r1 = ro := hf
  exact hret _ _ _ _ _ (bz_n gz) e0 hG dX1_isWord_8
set_option maxHeartbeats 1000000 in
set_option maxRecDepth 100000 in
theorem c_X1_placeBehind (l : Launch) (D : va_G) (y : Nat → ClassId)  (sz : Nat) (Fu : Nat) (p0 : Int32) (p1 : Int32) (ro : Int32) (hf : f_X1_placeBehind Fu p0 p1 = some (ro)) : MI l yX1_placeBehind wsX1_placeBehind 2 42 [.int p0, .int p1] D y [] sz ro [] := by
  refine M_i (cc := cX1_placeBehind) (maxL := 2) (own := RX1) (by decide) rfl rfl (Nat.le_of_ble_eq_true rfl) ?_
  intro p e s m args below meth c A Q F hK hA H locs hG hret ls hl
  have hx := F.1
  have hb := F.2.1
  have hl : lv_has ls 2 [(0, .int p0), (1, .int p1)] := hl
  have k0 := F.2.2.2.2 (.initialized RX3) (List.mem_of_getElem? (i := 6) rfl)
  have k1 := F.2.2.2.2 (.static yX3_isWithin) (List.mem_of_getElem? (i := 5) rfl)
  unfold f_X1_placeBehind at hf
  refine lv_iload_n hx hb dX1_placeBehind_0 rfl (lv_at hl 1 rfl) ?_
  obtain ⟨r1, h2, hf⟩ := bd1_e hf
  refine k_Si F hK hA hG (c_X1_isWord l D y  H.size Fu  p1 r1 h2) (va_cwS 1 F.2.2.2.2 gX1_placeBehind_X1_isWord rfl rfl rfl (by decide +kernel) ⟨Nat.le_of_ble_eq_true rfl, Nat.le_of_ble_eq_true rfl⟩) rfl rfl hl.1 (Nat.le_of_ble_eq_true rfl) dX1_placeBehind_1 ⟨Nat.le_refl 0, Nat.le_refl 0⟩ (fun H locs hG => ?_)
  refine lv_if_eq (tgt := 9) hx hb dX1_placeBehind_4 (by decide) (fun c3 => ?_) (fun c3 => ?_)
  · have hf := it_e c3 hf
    refine lv_iload_n hx hb dX1_placeBehind_9 rfl (lv_at hl 0 rfl) ?_
    refine lv_if_ne (tgt := 15) hx hb dX1_placeBehind_10 (by decide) (fun c4 => ?_) (fun c4 => ?_)
    · have hf := if_e c4 hf
      refine lv_iload_n hx hb dX1_placeBehind_15 rfl (lv_at hl 1 rfl) ?_
      refine lv_bipush (v := nI 47) hx hb dX1_placeBehind_16 rfl ?_
      refine lv_icmp_ne (tgt := 23) hx hb dX1_placeBehind_18 (by decide) (fun c5 => ?_) (fun c5 => ?_)
      · have hf := if_e c5 hf
        refine lv_iload_n hx hb dX1_placeBehind_23 rfl (lv_at hl 0 rfl) ?_
        refine lv_iconst (v := nI 1) hx hb dX1_placeBehind_24 rfl ?_
        refine lv_icmp_ne (tgt := 41) hx hb dX1_placeBehind_25 (by decide) (fun c6 => ?_) (fun c6 => ?_)
        · have hf := if_e c6 hf
          refine lv_iload_n hx hb dX1_placeBehind_41 rfl (lv_at hl 0 rfl) ?_
          refine lv_iconst (v := nI 2) hx hb dX1_placeBehind_42 rfl ?_
          refine lv_icmp_ne (tgt := 59) hx hb dX1_placeBehind_43 (by decide) (fun c7 => ?_) (fun c7 => ?_)
          · have hf := if_e c7 hf
            refine lv_iconst (v := nI 4) hx hb dX1_placeBehind_59 rfl ?_
            have hf := so_e hf
            have e0 : (nI 4) = ro := hf
            exact hret _ _ _ _ _ e0 hG dX1_placeBehind_60
          · have hf := it_e c7 hf
            refine lv_iload_n hx hb dX1_placeBehind_46 rfl (lv_at hl 1 rfl) ?_
            refine lv_bipush (v := nI 48) hx hb dX1_placeBehind_47 rfl ?_
            refine lv_bipush (v := nI 57) hx hb dX1_placeBehind_49 rfl ?_
            obtain ⟨r8, h9, hf⟩ := bd1_e hf
            refine k_SNi F hK hA hG (c_X3_isWithin l D y  H.size Fu  p1 (nI 48) (nI 57) r8 h9) ⟨va_cnB 3 F.2.2.2.2 gX1_placeBehind_X3_isWithin_n17 rfl rfl rfl hK.2.2.1 k0 (by decide +kernel) ⟨Nat.le_of_ble_eq_true rfl, Nat.le_of_ble_eq_true rfl⟩, k1, trivial⟩ rfl rfl hl.1 (Nat.le_of_ble_eq_true rfl) dX1_placeBehind_51 ⟨Nat.le_refl 0, Nat.le_refl 0⟩ (fun H locs hG => ?_)
            refine lv_if_eq (tgt := 59) hx hb dX1_placeBehind_54 (by decide) (fun c10 => ?_) (fun c10 => ?_)
            · have hf := it_e c10 hf
              refine lv_iconst (v := nI 4) hx hb dX1_placeBehind_59 rfl ?_
              have hf := so_e hf
              have e0 : (nI 4) = ro := hf
              exact hret _ _ _ _ _ e0 hG dX1_placeBehind_60
            · have hf := if_e c10 hf
              refine lv_iconst (v := nI 3) hx hb dX1_placeBehind_57 rfl ?_
              have hf := so_e hf
              have e0 : (nI 3) = ro := hf
              exact hret _ _ _ _ _ e0 hG dX1_placeBehind_58
        · have hf := it_e c6 hf
          refine lv_iload_n hx hb dX1_placeBehind_28 rfl (lv_at hl 1 rfl) ?_
          refine lv_bipush (v := nI 49) hx hb dX1_placeBehind_29 rfl ?_
          refine lv_bipush (v := nI 57) hx hb dX1_placeBehind_31 rfl ?_
          obtain ⟨r11, h12, hf⟩ := bd1_e hf
          refine k_SNi F hK hA hG (c_X3_isWithin l D y  H.size Fu  p1 (nI 49) (nI 57) r11 h12) ⟨va_cnB 3 F.2.2.2.2 gX1_placeBehind_X3_isWithin_n17 rfl rfl rfl hK.2.2.1 k0 (by decide +kernel) ⟨Nat.le_of_ble_eq_true rfl, Nat.le_of_ble_eq_true rfl⟩, k1, trivial⟩ rfl rfl hl.1 (Nat.le_of_ble_eq_true rfl) dX1_placeBehind_33 ⟨Nat.le_refl 0, Nat.le_refl 0⟩ (fun H locs hG => ?_)
          refine lv_if_eq (tgt := 41) hx hb dX1_placeBehind_36 (by decide) (fun c13 => ?_) (fun c13 => ?_)
          · have hf := it_e c13 hf
            refine lv_iload_n hx hb dX1_placeBehind_41 rfl (lv_at hl 0 rfl) ?_
            refine lv_iconst (v := nI 2) hx hb dX1_placeBehind_42 rfl ?_
            refine lv_icmp_ne (tgt := 59) hx hb dX1_placeBehind_43 (by decide) (fun c14 => ?_) (fun c14 => ?_)
            · have hf := if_e c14 hf
              refine lv_iconst (v := nI 4) hx hb dX1_placeBehind_59 rfl ?_
              have hf := so_e hf
              have e0 : (nI 4) = ro := hf
              exact hret _ _ _ _ _ e0 hG dX1_placeBehind_60
            · have hf := it_e c14 hf
              refine lv_iload_n hx hb dX1_placeBehind_46 rfl (lv_at hl 1 rfl) ?_
              refine lv_bipush (v := nI 48) hx hb dX1_placeBehind_47 rfl ?_
              refine lv_bipush (v := nI 57) hx hb dX1_placeBehind_49 rfl ?_
              obtain ⟨r15, h16, hf⟩ := bd1_e hf
              refine k_SNi F hK hA hG (c_X3_isWithin l D y  H.size Fu  p1 (nI 48) (nI 57) r15 h16) ⟨va_cnB 3 F.2.2.2.2 gX1_placeBehind_X3_isWithin_n17 rfl rfl rfl hK.2.2.1 k0 (by decide +kernel) ⟨Nat.le_of_ble_eq_true rfl, Nat.le_of_ble_eq_true rfl⟩, k1, trivial⟩ rfl rfl hl.1 (Nat.le_of_ble_eq_true rfl) dX1_placeBehind_51 ⟨Nat.le_refl 0, Nat.le_refl 0⟩ (fun H locs hG => ?_)
              refine lv_if_eq (tgt := 59) hx hb dX1_placeBehind_54 (by decide) (fun c17 => ?_) (fun c17 => ?_)
              · have hf := it_e c17 hf
                refine lv_iconst (v := nI 4) hx hb dX1_placeBehind_59 rfl ?_
                have hf := so_e hf
                have e0 : (nI 4) = ro := hf
                exact hret _ _ _ _ _ e0 hG dX1_placeBehind_60
              · have hf := if_e c17 hf
                refine lv_iconst (v := nI 3) hx hb dX1_placeBehind_57 rfl ?_
                have hf := so_e hf
                have e0 : (nI 3) = ro := hf
                exact hret _ _ _ _ _ e0 hG dX1_placeBehind_58
          · have hf := if_e c13 hf
            refine lv_iconst (v := nI 2) hx hb dX1_placeBehind_39 rfl ?_
            have hf := so_e hf
            have e0 : (nI 2) = ro := hf
            exact hret _ _ _ _ _ e0 hG dX1_placeBehind_40
      · have hf := it_e c5 hf
        refine lv_iconst (v := nI 0) hx hb dX1_placeBehind_21 rfl ?_
        have hf := so_e hf
        have e0 : (nI 0) = ro := hf
        exact hret _ _ _ _ _ e0 hG dX1_placeBehind_22
    · have hf := it_e c4 hf
      refine lv_iconst (v := nI 4) hx hb dX1_placeBehind_13 rfl ?_
      have hf := so_e hf
      have e0 : (nI 4) = ro := hf
      exact hret _ _ _ _ _ e0 hG dX1_placeBehind_14
  · have hf := if_e c3 hf
    refine lv_iconst (v := nI 1) hx hb dX1_placeBehind_7 rfl ?_
    have hf := so_e hf
    have e0 : (nI 1) = ro := hf
    exact hret _ _ _ _ _ e0 hG dX1_placeBehind_8
set_option maxHeartbeats 1000000 in
set_option maxRecDepth 100000 in
theorem c_X1_firstFault (l : Launch) (D : va_G) (y : Nat → ClassId) (a : Nat → Nat) (sz : Nat) (Fu : Nat) (q_characters : Ar) (q_length : Int32) (ro : Int32) (hf : f_X1_firstFault Fu q_characters q_length = some (ro)) : MI l yX1_firstFault wsX1_firstFault 3 63 [.ref (a 0)] D y (w_X1 y a q_characters q_length) sz ro (w_X1 y a q_characters q_length) := by
  refine M_i (cc := cX1_firstFault) (maxL := 3) (own := RX1) (by decide) rfl rfl (Nat.le_of_ble_eq_true rfl) ?_
  intro p e s m args below meth c A Q F hK hA H locs hG hret ls hl
  have hx := F.1
  have hb := F.2.1
  have hl : lv_has ls 3 [(0, .ref (a 0))] := hl
  have k0 := F.2.2.2.2 (.fieldLink RX1 21 "HeatedStories$Pad" "length" "I") (List.mem_of_getElem? (i := 1) rfl)
  have k1 : ∀ w ∈ wsX10, w ∈ wsX1_firstFault := (fun w h => List.mem_cons_of_mem _ (List.mem_append_right _ (h)))
  have k2 := F.2.2.2.2 (.fieldLink RX1 11 "HeatedStories$Pad" "characters" "[C") (List.mem_of_getElem? (i := 2) rfl)
  unfold f_X1_firstFault at hf
  refine lv_iconst (v := nI 0) hx hb dX1_firstFault_0 rfl ?_
  refine lv_istore_n (lv' := [(1, .int (nI 0)), (0, .ref (a 0))]) hx hb dX1_firstFault_1 rfl hl (by decide) rfl (fun ls hl => ?_)
  refine lv_iconst (v := nI 0) hx hb dX1_firstFault_2 rfl ?_
  refine lv_istore_n (lv' := [(2, .int (nI 0)), (1, .int (nI 0)), (0, .ref (a 0))]) hx hb dX1_firstFault_3 rfl hl (by decide) rfl (fun ls hl => ?_)
  have hL4 : ∀ (fu : Nat) (x1 : Int32) (x2 : Int32) (H : Heap) (locs : List Loc) (ls : Array Slot), f_X1_firstFault_L4 Fu q_characters q_length fu x1 x2 = some (ro) → GG D A s.heap (w_X1 y a q_characters q_length) H locs → lv_has ls 3 [(0, .ref (a 0)), (1, .int x1), (2, .int x2)] → W p l e (RM 3 63) s m args below meth c H locs 0 0 Q (F0 m 4 ls []) := by
    intro fu
    induction fu with
    | zero => intro x1 x2 H locs ls hf hG hl; exact no_e hf
    | succ fu ih =>
      intro x1 x2 H locs ls hf hG hl
      rw [f_X1_firstFault_L4_s] at hf
      refine lv_iload_n hx hb dX1_firstFault_4 rfl (lv_at hl 2 rfl) ?_
      refine lv_aload_n hx hb dX1_firstFault_5 rfl (lv_at hl 0 rfl) ?_
      refine w_get1 F hK hG k1 0 rfl 1 (by decide) k0 rfl dX1_firstFault_6 ?_
      refine lv_icmp_ge (tgt := 36) hx hb dX1_firstFault_9 (by decide) (fun c3 => ?_) (fun c3 => ?_)
      · have hf := it_e c3 hf
        refine lv_iload_n hx hb dX1_firstFault_36 rfl (lv_at hl 1 rfl) ?_
        obtain ⟨v5, ev5, hf⟩ := nm_o hf
        have hJ : ∀ (ls : Array Slot), lv_has ls 3 [] → W p l e (RM 3 63) s m args below meth c H locs 0 0 Q (F0 m 49 ls [.int v5]) := by
          intro ls hl
          have hf := so_e hf
          have e0 : v5 = ro := hf
          exact hret _ _ _ _ _ e0 hG dX1_firstFault_49
        refine lv_if_ne (tgt := 47) hx hb dX1_firstFault_37 (by decide) (fun c4 => ?_) (fun c4 => ?_)
        · refine lv_bipush (v := -6) hx hb dX1_firstFault_47 rfl ?_
          have qv5 := (ev5.trans (if_neg c4))
          subst qv5
          exact hJ ls (lv_sub hl [] rfl)
        · refine lv_aload_n hx hb dX1_firstFault_40 rfl (lv_at hl 0 rfl) ?_
          refine w_get1 F hK hG k1 0 rfl 1 (by decide) k0 rfl dX1_firstFault_41 ?_
          refine lv_goto (tgt := 49) hx hb dX1_firstFault_44 (by decide) ?_
          have qv5 := (ev5.trans (if_pos c4))
          subst qv5
          exact hJ ls (lv_sub hl [] rfl)
      · have hf := if_e c3 hf
        refine lv_iload_n hx hb dX1_firstFault_12 rfl (lv_at hl 1 rfl) ?_
        refine lv_aload_n hx hb dX1_firstFault_13 rfl (lv_at hl 0 rfl) ?_
        refine w_get1 F hK hG k1 0 rfl 0 (by decide) k2 rfl dX1_firstFault_14 ?_
        refine lv_iload_n hx hb dX1_firstFault_17 rfl (lv_at hl 2 rfl) ?_
        obtain ⟨g6, hf⟩ := gd_e hf
        refine w_cald F hK hG 1 rfl g6 dX1_firstFault_18 ?_
        obtain ⟨r7, h8, hf⟩ := bd1_e hf
        refine k_Si F hK hA hG (c_X1_placeBehind l D y  H.size Fu  x1 (q_characters (x2).toNatClampNeg) r7 h8) (va_cwS 2 F.2.2.2.2 gX1_firstFault_X1_placeBehind rfl rfl rfl (by decide +kernel) ⟨Nat.le_of_ble_eq_true rfl, Nat.le_of_ble_eq_true rfl⟩) rfl rfl hl.1 (Nat.le_of_ble_eq_true rfl) dX1_firstFault_19 ⟨Nat.le_refl 0, Nat.le_refl 0⟩ (fun H locs hG => ?_)
        refine lv_istore_n (lv' := [(1, .int r7), (0, .ref (a 0)), (2, .int x2)]) hx hb dX1_firstFault_22 rfl hl (by decide) rfl (fun ls hl => ?_)
        refine lv_iload_n hx hb dX1_firstFault_23 rfl (lv_at hl 0 rfl) ?_
        refine lv_iconst (v := nI 4) hx hb dX1_firstFault_24 rfl ?_
        refine lv_icmp_ne (tgt := 30) hx hb dX1_firstFault_25 (by decide) (fun c9 => ?_) (fun c9 => ?_)
        · have hf := if_e c9 hf
          refine lv_iinc (v := x2 + (nI 1)) (lv' := [(2, .int (x2 + (nI 1))), (1, .int r7), (0, .ref (a 0))]) hx hb dX1_firstFault_30 hl (k := 2) rfl rfl (by decide) rfl (fun ls hl => ?_)
          refine lv_goto (tgt := 4) hx hb dX1_firstFault_33 (by decide) ?_
          exact ih r7 (x2 + (nI 1)) _ _ ls hf hG (lv_sub hl [2, 1, 0] rfl)
        · have hf := it_e c9 hf
          refine lv_iload_n hx hb dX1_firstFault_28 rfl (lv_at hl 2 rfl) ?_
          have hf := so_e hf
          have e0 : x2 = ro := hf
          exact hret _ _ _ _ _ e0 hG dX1_firstFault_29
  exact hL4 Fu (nI 0) (nI 0) _ _ ls hf hG (lv_sub hl [2, 1, 0] rfl)
set_option maxHeartbeats 1000000 in
set_option maxRecDepth 100000 in
theorem c_X1_storiesIn (l : Launch) (D : va_G) (y : Nat → ClassId) (a : Nat → Nat) (sz : Nat) (Fu : Nat) (q_characters : Ar) (q_length : Int32) (ro : Int32) (hf : f_X1_storiesIn Fu q_characters q_length = some (ro)) : MI l yX1_storiesIn wsX1_storiesIn 0 0 [.ref (a 0)] D y (w_X1 y a q_characters q_length) sz ro (w_X1 y a q_characters q_length) := by
  refine M_i (cc := cX1_storiesIn) (maxL := 3) (own := RX1) (by decide) rfl rfl (Nat.le_of_ble_eq_true rfl) ?_
  intro p e s m args below meth c A Q F hK hA H locs hG hret ls hl
  have hx := F.1
  have hb := F.2.1
  have hl : lv_has ls 3 [(0, .ref (a 0))] := hl
  have k0 := F.2.2.2.2 (.fieldLink RX1 21 "HeatedStories$Pad" "length" "I") (List.mem_of_getElem? (i := 1) rfl)
  have k1 : ∀ w ∈ wsX10, w ∈ wsX1_storiesIn := (fun w h => List.mem_cons_of_mem _ (List.mem_append_right _ (h)))
  have k2 := F.2.2.2.2 (.fieldLink RX1 11 "HeatedStories$Pad" "characters" "[C") (List.mem_of_getElem? (i := 2) rfl)
  unfold f_X1_storiesIn at hf
  refine lv_iconst (v := nI 1) hx hb dX1_storiesIn_0 rfl ?_
  refine lv_istore_n (lv' := [(1, .int (nI 1)), (0, .ref (a 0))]) hx hb dX1_storiesIn_1 rfl hl (by decide) rfl (fun ls hl => ?_)
  refine lv_iconst (v := nI 0) hx hb dX1_storiesIn_2 rfl ?_
  refine lv_istore_n (lv' := [(2, .int (nI 0)), (1, .int (nI 1)), (0, .ref (a 0))]) hx hb dX1_storiesIn_3 rfl hl (by decide) rfl (fun ls hl => ?_)
  obtain ⟨k_4, ek_4, hf⟩ := jn_e hf
  have hk_4 : ∀ (v7 : Int32) (H : Heap) (locs : List Loc) (ls : Array Slot), k_4 v7 = some (ro) → GG D A s.heap (w_X1 y a q_characters q_length) H locs → lv_has ls 3 [(1, .int v7)] → W p l e (RM 0 0) s m args below meth c H locs 0 0 Q (F0 m 37 ls []) := by
    intro v7 H locs ls hf hG hl
    rw [ek_4] at hf
    refine lv_iload_n hx hb dX1_storiesIn_37 rfl (lv_at hl 0 rfl) ?_
    have hf := so_e hf
    have e0 : v7 = ro := hf
    exact hret _ _ _ _ _ e0 hG dX1_storiesIn_38
  have hL4 : ∀ (fu : Nat) (x1 : Int32) (x2 : Int32) (H : Heap) (locs : List Loc) (ls : Array Slot), f_X1_storiesIn_L4 Fu k_4 q_characters q_length fu x1 x2 = some (ro) → GG D A s.heap (w_X1 y a q_characters q_length) H locs → lv_has ls 3 [(0, .ref (a 0)), (1, .int x1), (2, .int x2)] → W p l e (RM 0 0) s m args below meth c H locs 0 0 Q (F0 m 4 ls []) := by
    intro fu
    induction fu with
    | zero => intro x1 x2 H locs ls hf hG hl; exact no_e hf
    | succ fu ih =>
      intro x1 x2 H locs ls hf hG hl
      rw [f_X1_storiesIn_L4_s] at hf
      refine lv_iload_n hx hb dX1_storiesIn_4 rfl (lv_at hl 2 rfl) ?_
      refine lv_aload_n hx hb dX1_storiesIn_5 rfl (lv_at hl 0 rfl) ?_
      refine w_get1 F hK hG k1 0 rfl 1 (by decide) k0 rfl dX1_storiesIn_6 ?_
      refine lv_icmp_ge (tgt := 37) hx hb dX1_storiesIn_9 (by decide) (fun c3 => ?_) (fun c3 => ?_)
      · have hf := it_e c3 hf
        exact hk_4 x1 _ _ ls hf hG (lv_sub hl [1] rfl)
      · have hf := if_e c3 hf
        refine lv_iload_n hx hb dX1_storiesIn_12 rfl (lv_at hl 1 rfl) ?_
        refine lv_aload_n hx hb dX1_storiesIn_13 rfl (lv_at hl 0 rfl) ?_
        refine w_get1 F hK hG k1 0 rfl 0 (by decide) k2 rfl dX1_storiesIn_14 ?_
        refine lv_iload_n hx hb dX1_storiesIn_17 rfl (lv_at hl 2 rfl) ?_
        obtain ⟨g4, hf⟩ := gd_e hf
        refine w_cald F hK hG 1 rfl g4 dX1_storiesIn_18 ?_
        refine lv_bipush (v := nI 47) hx hb dX1_storiesIn_19 rfl ?_
        obtain ⟨v6, ev6, hf⟩ := nm_o hf
        have hJ : ∀ (ls : Array Slot), lv_has ls 3 [(0, .ref (a 0)), (2, .int x2)] → W p l e (RM 0 0) s m args below meth c H locs 0 0 Q (F0 m 29 ls [.int v6, .int x1]) := by
          intro ls hl
          refine lv_iadd hx hb dX1_storiesIn_29 ?_
          refine lv_istore_n (lv' := [(1, .int (x1 + v6)), (0, .ref (a 0)), (2, .int x2)]) hx hb dX1_storiesIn_30 rfl hl (by decide) rfl (fun ls hl => ?_)
          refine lv_iinc (v := x2 + (nI 1)) (lv' := [(2, .int (x2 + (nI 1))), (1, .int (x1 + v6)), (0, .ref (a 0))]) hx hb dX1_storiesIn_31 hl (k := 2) rfl rfl (by decide) rfl (fun ls hl => ?_)
          refine lv_goto (tgt := 4) hx hb dX1_storiesIn_34 (by decide) ?_
          exact ih (x1 + v6) (x2 + (nI 1)) _ _ ls hf hG (lv_sub hl [2, 1, 0] rfl)
        refine lv_icmp_ne (tgt := 28) hx hb dX1_storiesIn_21 (by decide) (fun c5 => ?_) (fun c5 => ?_)
        · refine lv_iconst (v := nI 0) hx hb dX1_storiesIn_28 rfl ?_
          have qv6 := (ev6.trans (if_neg c5))
          subst qv6
          exact hJ ls (lv_sub hl [0, 2] rfl)
        · refine lv_iconst (v := nI 1) hx hb dX1_storiesIn_24 rfl ?_
          refine lv_goto (tgt := 29) hx hb dX1_storiesIn_25 (by decide) ?_
          have qv6 := (ev6.trans (if_pos c5))
          subst qv6
          exact hJ ls (lv_sub hl [0, 2] rfl)
  exact hL4 Fu (nI 1) (nI 0) _ _ ls hf hG (lv_sub hl [2, 1, 0] rfl)
set_option maxHeartbeats 1000000 in
set_option maxRecDepth 100000 in
theorem c_X1_wordsIn (l : Launch) (D : va_G) (y : Nat → ClassId) (a : Nat → Nat) (sz : Nat) (Fu : Nat) (q_characters : Ar) (q_length : Int32) (ro : Int32) (hf : f_X1_wordsIn Fu q_characters q_length = some (ro)) : MI l yX1_wordsIn wsX1_wordsIn 2 42 [.ref (a 0)] D y (w_X1 y a q_characters q_length) sz ro (w_X1 y a q_characters q_length) := by
  refine M_i (cc := cX1_wordsIn) (maxL := 3) (own := RX1) (by decide) rfl rfl (Nat.le_of_ble_eq_true rfl) ?_
  intro p e s m args below meth c A Q F hK hA H locs hG hret ls hl
  have hx := F.1
  have hb := F.2.1
  have hl : lv_has ls 3 [(0, .ref (a 0))] := hl
  have k0 := F.2.2.2.2 (.fieldLink RX1 21 "HeatedStories$Pad" "length" "I") (List.mem_of_getElem? (i := 1) rfl)
  have k1 : ∀ w ∈ wsX10, w ∈ wsX1_wordsIn := (fun w h => List.mem_cons_of_mem _ (List.mem_append_right _ (h)))
  have k2 := F.2.2.2.2 (.fieldLink RX1 11 "HeatedStories$Pad" "characters" "[C") (List.mem_of_getElem? (i := 2) rfl)
  unfold f_X1_wordsIn at hf
  refine lv_iconst (v := nI 0) hx hb dX1_wordsIn_0 rfl ?_
  refine lv_istore_n (lv' := [(1, .int (nI 0)), (0, .ref (a 0))]) hx hb dX1_wordsIn_1 rfl hl (by decide) rfl (fun ls hl => ?_)
  refine lv_iconst (v := nI 0) hx hb dX1_wordsIn_2 rfl ?_
  refine lv_istore_n (lv' := [(2, .int (nI 0)), (1, .int (nI 0)), (0, .ref (a 0))]) hx hb dX1_wordsIn_3 rfl hl (by decide) rfl (fun ls hl => ?_)
  obtain ⟨k_4, ek_4, hf⟩ := jn_e hf
  have hk_4 : ∀ (v9 : Int32) (H : Heap) (locs : List Loc) (ls : Array Slot), k_4 v9 = some (ro) → GG D A s.heap (w_X1 y a q_characters q_length) H locs → lv_has ls 3 [(1, .int v9)] → W p l e (RM 2 42) s m args below meth c H locs 0 0 Q (F0 m 38 ls []) := by
    intro v9 H locs ls hf hG hl
    rw [ek_4] at hf
    refine lv_iload_n hx hb dX1_wordsIn_38 rfl (lv_at hl 0 rfl) ?_
    have hf := so_e hf
    have e0 : v9 = ro := hf
    exact hret _ _ _ _ _ e0 hG dX1_wordsIn_39
  have hL4 : ∀ (fu : Nat) (x1 : Int32) (x2 : Int32) (H : Heap) (locs : List Loc) (ls : Array Slot), f_X1_wordsIn_L4 Fu k_4 q_characters q_length fu x1 x2 = some (ro) → GG D A s.heap (w_X1 y a q_characters q_length) H locs → lv_has ls 3 [(0, .ref (a 0)), (1, .int x1), (2, .int x2)] → W p l e (RM 2 42) s m args below meth c H locs 0 0 Q (F0 m 4 ls []) := by
    intro fu
    induction fu with
    | zero => intro x1 x2 H locs ls hf hG hl; exact no_e hf
    | succ fu ih =>
      intro x1 x2 H locs ls hf hG hl
      rw [f_X1_wordsIn_L4_s] at hf
      refine lv_iload_n hx hb dX1_wordsIn_4 rfl (lv_at hl 2 rfl) ?_
      refine lv_aload_n hx hb dX1_wordsIn_5 rfl (lv_at hl 0 rfl) ?_
      refine w_get1 F hK hG k1 0 rfl 1 (by decide) k0 rfl dX1_wordsIn_6 ?_
      refine lv_icmp_ge (tgt := 38) hx hb dX1_wordsIn_9 (by decide) (fun c3 => ?_) (fun c3 => ?_)
      · have hf := it_e c3 hf
        exact hk_4 x1 _ _ ls hf hG (lv_sub hl [1] rfl)
      · have hf := if_e c3 hf
        refine lv_iload_n hx hb dX1_wordsIn_12 rfl (lv_at hl 1 rfl) ?_
        refine lv_aload_n hx hb dX1_wordsIn_13 rfl (lv_at hl 0 rfl) ?_
        refine w_get1 F hK hG k1 0 rfl 0 (by decide) k2 rfl dX1_wordsIn_14 ?_
        refine lv_iload_n hx hb dX1_wordsIn_17 rfl (lv_at hl 2 rfl) ?_
        obtain ⟨g4, hf⟩ := gd_e hf
        refine w_cald F hK hG 1 rfl g4 dX1_wordsIn_18 ?_
        obtain ⟨r5, h6, hf⟩ := bd1_e hf
        refine k_Si F hK hA hG (c_X1_isWord l D y  H.size Fu  (q_characters (x2).toNatClampNeg) r5 h6) (va_cwS 1 F.2.2.2.2 gX1_wordsIn_X1_isWord rfl rfl rfl (by decide +kernel) ⟨Nat.le_of_ble_eq_true rfl, Nat.le_of_ble_eq_true rfl⟩) rfl rfl hl.1 (Nat.le_of_ble_eq_true rfl) dX1_wordsIn_19 ⟨Nat.le_refl 0, Nat.le_refl 0⟩ (fun H locs hG => ?_)
        obtain ⟨v8, ev8, hf⟩ := nm_o hf
        have hJ : ∀ (ls : Array Slot), lv_has ls 3 [(0, .ref (a 0)), (2, .int x2)] → W p l e (RM 2 42) s m args below meth c H locs 0 0 Q (F0 m 30 ls [.int v8, .int x1]) := by
          intro ls hl
          refine lv_iadd hx hb dX1_wordsIn_30 ?_
          refine lv_istore_n (lv' := [(1, .int (x1 + v8)), (0, .ref (a 0)), (2, .int x2)]) hx hb dX1_wordsIn_31 rfl hl (by decide) rfl (fun ls hl => ?_)
          refine lv_iinc (v := x2 + (nI 1)) (lv' := [(2, .int (x2 + (nI 1))), (1, .int (x1 + v8)), (0, .ref (a 0))]) hx hb dX1_wordsIn_32 hl (k := 2) rfl rfl (by decide) rfl (fun ls hl => ?_)
          refine lv_goto (tgt := 4) hx hb dX1_wordsIn_35 (by decide) ?_
          exact ih (x1 + v8) (x2 + (nI 1)) _ _ ls hf hG (lv_sub hl [2, 1, 0] rfl)
        refine lv_if_eq (tgt := 29) hx hb dX1_wordsIn_22 (by decide) (fun c7 => ?_) (fun c7 => ?_)
        · refine lv_iconst (v := nI 0) hx hb dX1_wordsIn_29 rfl ?_
          have qv8 := (ev8.trans (if_pos c7))
          subst qv8
          exact hJ ls (lv_sub hl [0, 2] rfl)
        · refine lv_iconst (v := nI 1) hx hb dX1_wordsIn_25 rfl ?_
          refine lv_goto (tgt := 30) hx hb dX1_wordsIn_26 (by decide) ?_
          have qv8 := (ev8.trans (if_neg c7))
          subst qv8
          exact hJ ls (lv_sub hl [0, 2] rfl)
  exact hL4 Fu (nI 0) (nI 0) _ _ ls hf hG (lv_sub hl [2, 1, 0] rfl)
set_option maxHeartbeats 1000000 in
set_option maxRecDepth 100000 in
theorem c_X2_addStory (l : Launch) (D : va_G) (y : Nat → ClassId) (a : Nat → Nat) (sz : Nat) (Fu : Nat) (q_settings : Ar) (q_letters : Ar) (q_heats : Ar) (q_starts : Ar) (q_families : Ar) (q_generations : Ar) (q_tally : Ar) (q_stories : Int32) (q_nextFamily : Int32) (q_splits : Int32) (q_boilings : Int32) (q_fizzles : Int32) (q_starts_o : Ar) (q_families_o : Ar) (q_generations_o : Ar) (q_stories_o : Int32) (q_nextFamily_o : Int32) (hf : f_X2_addStory Fu q_starts q_families q_generations q_stories q_nextFamily = some (q_starts_o, q_families_o, q_generations_o, q_stories_o, q_nextFamily_o)) : MV l yX2_addStory wsX2_addStory 0 0 [.ref (a 0)] D y (w_X2 y a q_settings q_letters q_heats q_starts q_families q_generations q_tally q_stories q_nextFamily q_splits q_boilings q_fizzles) sz (w_X2 y a q_settings q_letters q_heats q_starts_o q_families_o q_generations_o q_tally q_stories_o q_nextFamily_o q_splits q_boilings q_fizzles) := by
  refine M_v (cc := cX2_addStory) (maxL := 1) (own := RX2) (by decide) rfl rfl (Nat.le_of_ble_eq_true rfl) ?_
  intro p e s m args below meth c A Q F hK hA H locs hG hret ls hl
  have hx := F.1
  have hb := F.2.1
  have hl : lv_has ls 1 [(0, .ref (a 0))] := hl
  have k0 := F.2.2.2.2 (.fieldLink RX2 24 "HeatedStories$Shelf" "families" "[I") (List.mem_of_getElem? (i := 1) rfl)
  have k1 : ∀ w ∈ wsX20, w ∈ wsX2_addStory := (fun w h => List.mem_cons_of_mem _ (List.mem_append_right _ (h)))
  have k2 := F.2.2.2.2 (.fieldLink RX2 43 "HeatedStories$Shelf" "stories" "I") (List.mem_of_getElem? (i := 2) rfl)
  have k3 := F.2.2.2.2 (.fieldLink RX2 47 "HeatedStories$Shelf" "nextFamily" "I") (List.mem_of_getElem? (i := 3) rfl)
  have k4 := F.2.2.2.2 (.fieldLink RX2 27 "HeatedStories$Shelf" "generations" "[I") (List.mem_of_getElem? (i := 4) rfl)
  have k5 := F.2.2.2.2 (.fieldLink RX2 21 "HeatedStories$Shelf" "starts" "[I") (List.mem_of_getElem? (i := 5) rfl)
  unfold f_X2_addStory at hf
  refine lv_aload_n hx hb dX2_addStory_0 rfl (lv_at hl 0 rfl) ?_
  refine w_get2 F hK hG k1 0 rfl 4 (by decide) k0 rfl dX2_addStory_1 ?_
  refine lv_aload_n hx hb dX2_addStory_4 rfl (lv_at hl 0 rfl) ?_
  refine w_get2 F hK hG k1 0 rfl 7 (by decide) k2 rfl dX2_addStory_5 ?_
  refine lv_aload_n hx hb dX2_addStory_8 rfl (lv_at hl 0 rfl) ?_
  refine w_get2 F hK hG k1 0 rfl 8 (by decide) k3 rfl dX2_addStory_9 ?_
  obtain ⟨g1, hf⟩ := gd_e hf
  refine w_iast F hK hG 5 rfl g1 (w_X2 y a q_settings q_letters q_heats q_starts (upd q_families (q_stories).toNatClampNeg q_nextFamily) q_generations q_tally q_stories q_nextFamily q_splits q_boilings q_fizzles) rfl dX2_addStory_12 (fun H locs hG => ?_)
  refine lv_aload_n hx hb dX2_addStory_13 rfl (lv_at hl 0 rfl) ?_
  refine w_get2 F hK hG k1 0 rfl 5 (by decide) k4 rfl dX2_addStory_14 ?_
  refine lv_aload_n hx hb dX2_addStory_17 rfl (lv_at hl 0 rfl) ?_
  refine w_get2 F hK hG k1 0 rfl 7 (by decide) k2 rfl dX2_addStory_18 ?_
  refine lv_iconst (v := nI 0) hx hb dX2_addStory_21 rfl ?_
  obtain ⟨g2, hf⟩ := gd_e hf
  refine w_iast F hK hG 6 rfl g2 (w_X2 y a q_settings q_letters q_heats q_starts (upd q_families (q_stories).toNatClampNeg q_nextFamily) (upd q_generations (q_stories).toNatClampNeg (nI 0)) q_tally q_stories q_nextFamily q_splits q_boilings q_fizzles) rfl dX2_addStory_22 (fun H locs hG => ?_)
  refine lv_aload_n hx hb dX2_addStory_23 rfl (lv_at hl 0 rfl) ?_
  refine w_get2 F hK hG k1 0 rfl 3 (by decide) k5 rfl dX2_addStory_24 ?_
  refine lv_aload_n hx hb dX2_addStory_27 rfl (lv_at hl 0 rfl) ?_
  refine w_get2 F hK hG k1 0 rfl 7 (by decide) k2 rfl dX2_addStory_28 ?_
  refine lv_iconst (v := nI 1) hx hb dX2_addStory_31 rfl ?_
  refine lv_iadd hx hb dX2_addStory_32 ?_
  refine lv_aload_n hx hb dX2_addStory_33 rfl (lv_at hl 0 rfl) ?_
  refine w_get2 F hK hG k1 0 rfl 3 (by decide) k5 rfl dX2_addStory_34 ?_
  refine lv_aload_n hx hb dX2_addStory_37 rfl (lv_at hl 0 rfl) ?_
  refine w_get2 F hK hG k1 0 rfl 7 (by decide) k2 rfl dX2_addStory_38 ?_
  obtain ⟨g3, hf⟩ := gd_e hf
  refine w_iald F hK hG 4 rfl g3 dX2_addStory_41 ?_
  obtain ⟨g4, hf⟩ := gd_e hf
  refine w_iast F hK hG 4 rfl g4 (w_X2 y a q_settings q_letters q_heats (upd q_starts (q_stories + (nI 1)).toNatClampNeg (q_starts (q_stories).toNatClampNeg)) (upd q_families (q_stories).toNatClampNeg q_nextFamily) (upd q_generations (q_stories).toNatClampNeg (nI 0)) q_tally q_stories q_nextFamily q_splits q_boilings q_fizzles) rfl dX2_addStory_42 (fun H locs hG => ?_)
  obtain ⟨q_starts_5, eq_starts_5, hf⟩ := nm_o hf
  rw [← eq_starts_5] at hG
  refine lv_aload_n hx hb dX2_addStory_43 rfl (lv_at hl 0 rfl) ?_
  refine lv_dup hx hb dX2_addStory_44 rfl ?_
  refine w_get2 F hK hG k1 0 rfl 8 (by decide) k3 rfl dX2_addStory_45 ?_
  refine lv_iconst (v := nI 1) hx hb dX2_addStory_48 rfl ?_
  refine lv_iadd hx hb dX2_addStory_49 ?_
  refine w_put2 F hK hG k1 0 rfl 8 (by decide) k3 rfl rfl rfl (Nat.le_of_ble_eq_true rfl) (w_X2 y a q_settings q_letters q_heats q_starts_5 (upd q_families (q_stories).toNatClampNeg q_nextFamily) (upd q_generations (q_stories).toNatClampNeg (nI 0)) q_tally q_stories (q_nextFamily + (nI 1)) q_splits q_boilings q_fizzles) rfl dX2_addStory_50 (fun H locs hG => ?_)
  refine lv_aload_n hx hb dX2_addStory_53 rfl (lv_at hl 0 rfl) ?_
  refine lv_dup hx hb dX2_addStory_54 rfl ?_
  refine w_get2 F hK hG k1 0 rfl 7 (by decide) k2 rfl dX2_addStory_55 ?_
  refine lv_iconst (v := nI 1) hx hb dX2_addStory_58 rfl ?_
  refine lv_iadd hx hb dX2_addStory_59 ?_
  refine w_put2 F hK hG k1 0 rfl 7 (by decide) k2 rfl rfl rfl (Nat.le_of_ble_eq_true rfl) (w_X2 y a q_settings q_letters q_heats q_starts_5 (upd q_families (q_stories).toNatClampNeg q_nextFamily) (upd q_generations (q_stories).toNatClampNeg (nI 0)) q_tally (q_stories + (nI 1)) (q_nextFamily + (nI 1)) q_splits q_boilings q_fizzles) rfl dX2_addStory_60 (fun H locs hG => ?_)
  have hf := so_e hf
  have e0 : q_starts_5 = q_starts_o := congrArg (fun z => z.1) hf
  have e1 : (upd q_families (q_stories).toNatClampNeg q_nextFamily) = q_families_o := congrArg (fun z => z.2.1) hf
  have e2 : (upd q_generations (q_stories).toNatClampNeg (nI 0)) = q_generations_o := congrArg (fun z => z.2.2.1) hf
  have e3 : (q_stories + (nI 1)) = q_stories_o := congrArg (fun z => z.2.2.2.1) hf
  have e4 : (q_nextFamily + (nI 1)) = q_nextFamily_o := congrArg (fun z => z.2.2.2.2) hf
  exact hret _ _ _ _ (by rw [← e0, ← e1, ← e2, ← e3, ← e4]; exact hG) dX2_addStory_63
set_option maxHeartbeats 1000000 in
set_option maxRecDepth 100000 in
theorem c_X2_addWord (l : Launch) (D : va_G) (y : Nat → ClassId) (a : Nat → Nat) (sz : Nat) (Fu : Nat) (q_settings : Ar) (q_letters : Ar) (q_heats : Ar) (q_starts : Ar) (q_families : Ar) (q_generations : Ar) (q_tally : Ar) (q_stories : Int32) (q_nextFamily : Int32) (q_splits : Int32) (q_boilings : Int32) (q_fizzles : Int32) (p1 : Int32) (q_letters_o : Ar) (q_heats_o : Ar) (q_starts_o : Ar) (hf : f_X2_addWord Fu q_letters q_heats q_starts q_stories p1 = some (q_letters_o, q_heats_o, q_starts_o)) : MV l yX2_addWord wsX2_addWord 1 20 [.ref (a 0), .int p1] D y (w_X2 y a q_settings q_letters q_heats q_starts q_families q_generations q_tally q_stories q_nextFamily q_splits q_boilings q_fizzles) sz (w_X2 y a q_settings q_letters_o q_heats_o q_starts_o q_families q_generations q_tally q_stories q_nextFamily q_splits q_boilings q_fizzles) := by
  refine M_v (cc := cX2_addWord) (maxL := 3) (own := RX2) (by decide) rfl rfl (Nat.le_of_ble_eq_true rfl) ?_
  intro p e s m args below meth c A Q F hK hA H locs hG hret ls hl
  have hx := F.1
  have hb := F.2.1
  have hl : lv_has ls 3 [(0, .ref (a 0)), (1, .int p1)] := hl
  have k0 := F.2.2.2.2 (.fieldLink RX2 15 "HeatedStories$Shelf" "letters" "[I") (List.mem_of_getElem? (i := 1) rfl)
  have k1 : ∀ w ∈ wsX20, w ∈ wsX2_addWord := (fun w h => List.mem_cons_of_mem _ (List.mem_append_right _ (h)))
  have k2 := F.2.2.2.2 (.fieldLink RX2 18 "HeatedStories$Shelf" "heats" "[I") (List.mem_of_getElem? (i := 2) rfl)
  have k3 := F.2.2.2.2 (.fieldLink RX2 21 "HeatedStories$Shelf" "starts" "[I") (List.mem_of_getElem? (i := 3) rfl)
  have k4 := F.2.2.2.2 (.fieldLink RX2 43 "HeatedStories$Shelf" "stories" "I") (List.mem_of_getElem? (i := 4) rfl)
  unfold f_X2_addWord at hf
  refine lv_aload_n hx hb dX2_addWord_0 rfl (lv_at hl 0 rfl) ?_
  obtain ⟨r1, h2, hf⟩ := bd1_e hf
  refine k_Wi F hK hA hG (c_X2_words l D y a H.size Fu q_settings q_letters q_heats q_starts q_families q_generations q_tally q_stories q_nextFamily q_splits q_boilings q_fizzles r1 h2) (cwV 0 F.2.2.2.2 gX2_addWord_X2_words rfl rfl rfl (by decide +kernel) ⟨Nat.le_of_ble_eq_true rfl, Nat.le_of_ble_eq_true rfl⟩) 0 rfl rfl rfl rfl rfl hl.1 (Nat.le_of_ble_eq_true rfl) dX2_addWord_1 ⟨Nat.le_refl 0, Nat.le_refl 0⟩ (fun H locs hG => ?_)
  refine lv_istore_n (lv' := [(2, .int r1), (0, .ref (a 0)), (1, .int p1)]) hx hb dX2_addWord_4 rfl hl (by decide) rfl (fun ls hl => ?_)
  refine lv_aload_n hx hb dX2_addWord_5 rfl (lv_at hl 1 rfl) ?_
  refine w_get2 F hK hG k1 0 rfl 1 (by decide) k0 rfl dX2_addWord_6 ?_
  refine lv_iload_n hx hb dX2_addWord_9 rfl (lv_at hl 0 rfl) ?_
  refine lv_iload_n hx hb dX2_addWord_10 rfl (lv_at hl 2 rfl) ?_
  obtain ⟨g3, hf⟩ := gd_e hf
  refine w_iast F hK hG 2 rfl g3 (w_X2 y a q_settings (upd q_letters (r1).toNatClampNeg p1) q_heats q_starts q_families q_generations q_tally q_stories q_nextFamily q_splits q_boilings q_fizzles) rfl dX2_addWord_11 (fun H locs hG => ?_)
  refine lv_aload_n hx hb dX2_addWord_12 rfl (lv_at hl 1 rfl) ?_
  refine w_get2 F hK hG k1 0 rfl 2 (by decide) k2 rfl dX2_addWord_13 ?_
  refine lv_iload_n hx hb dX2_addWord_16 rfl (lv_at hl 0 rfl) ?_
  refine lv_iconst (v := nI 0) hx hb dX2_addWord_17 rfl ?_
  obtain ⟨g4, hf⟩ := gd_e hf
  refine w_iast F hK hG 3 rfl g4 (w_X2 y a q_settings (upd q_letters (r1).toNatClampNeg p1) (upd q_heats (r1).toNatClampNeg (nI 0)) q_starts q_families q_generations q_tally q_stories q_nextFamily q_splits q_boilings q_fizzles) rfl dX2_addWord_18 (fun H locs hG => ?_)
  refine lv_aload_n hx hb dX2_addWord_19 rfl (lv_at hl 1 rfl) ?_
  refine w_get2 F hK hG k1 0 rfl 3 (by decide) k3 rfl dX2_addWord_20 ?_
  refine lv_aload_n hx hb dX2_addWord_23 rfl (lv_at hl 1 rfl) ?_
  refine w_get2 F hK hG k1 0 rfl 7 (by decide) k4 rfl dX2_addWord_24 ?_
  refine lv_iload_n hx hb dX2_addWord_27 rfl (lv_at hl 0 rfl) ?_
  refine lv_iconst (v := nI 1) hx hb dX2_addWord_28 rfl ?_
  refine lv_iadd hx hb dX2_addWord_29 ?_
  obtain ⟨g5, hf⟩ := gd_e hf
  refine w_iast F hK hG 4 rfl g5 (w_X2 y a q_settings (upd q_letters (r1).toNatClampNeg p1) (upd q_heats (r1).toNatClampNeg (nI 0)) (upd q_starts (q_stories).toNatClampNeg (r1 + (nI 1))) q_families q_generations q_tally q_stories q_nextFamily q_splits q_boilings q_fizzles) rfl dX2_addWord_30 (fun H locs hG => ?_)
  have hf := so_e hf
  have e0 : (upd q_letters (r1).toNatClampNeg p1) = q_letters_o := congrArg (fun z => z.1) hf
  have e1 : (upd q_heats (r1).toNatClampNeg (nI 0)) = q_heats_o := congrArg (fun z => z.2.1) hf
  have e2 : (upd q_starts (q_stories).toNatClampNeg (r1 + (nI 1))) = q_starts_o := congrArg (fun z => z.2.2) hf
  exact hret _ _ _ _ (by rw [← e0, ← e1, ← e2]; exact hG) dX2_addWord_31
set_option maxHeartbeats 1000000 in
set_option maxRecDepth 100000 in
theorem c_X2_addDigit (l : Launch) (D : va_G) (y : Nat → ClassId) (a : Nat → Nat) (sz : Nat) (Fu : Nat) (q_settings : Ar) (q_letters : Ar) (q_heats : Ar) (q_starts : Ar) (q_families : Ar) (q_generations : Ar) (q_tally : Ar) (q_stories : Int32) (q_nextFamily : Int32) (q_splits : Int32) (q_boilings : Int32) (q_fizzles : Int32) (p1 : Int32) (q_heats_o : Ar) (hf : f_X2_addDigit Fu q_heats q_starts q_stories p1 = some (q_heats_o)) : MV l yX2_addDigit wsX2_addDigit 1 20 [.ref (a 0), .int p1] D y (w_X2 y a q_settings q_letters q_heats q_starts q_families q_generations q_tally q_stories q_nextFamily q_splits q_boilings q_fizzles) sz (w_X2 y a q_settings q_letters q_heats_o q_starts q_families q_generations q_tally q_stories q_nextFamily q_splits q_boilings q_fizzles) := by
  refine M_v (cc := cX2_addDigit) (maxL := 3) (own := RX2) (by decide) rfl rfl (Nat.le_of_ble_eq_true rfl) ?_
  intro p e s m args below meth c A Q F hK hA H locs hG hret ls hl
  have hx := F.1
  have hb := F.2.1
  have hl : lv_has ls 3 [(0, .ref (a 0)), (1, .int p1)] := hl
  have k0 := F.2.2.2.2 (.fieldLink RX2 18 "HeatedStories$Shelf" "heats" "[I") (List.mem_of_getElem? (i := 1) rfl)
  have k1 : ∀ w ∈ wsX20, w ∈ wsX2_addDigit := (fun w h => List.mem_cons_of_mem _ (List.mem_append_right _ (h)))
  unfold f_X2_addDigit at hf
  refine lv_aload_n hx hb dX2_addDigit_0 rfl (lv_at hl 0 rfl) ?_
  obtain ⟨r1, h2, hf⟩ := bd1_e hf
  refine k_Wi F hK hA hG (c_X2_words l D y a H.size Fu q_settings q_letters q_heats q_starts q_families q_generations q_tally q_stories q_nextFamily q_splits q_boilings q_fizzles r1 h2) (cwV 0 F.2.2.2.2 gX2_addDigit_X2_words rfl rfl rfl (by decide +kernel) ⟨Nat.le_of_ble_eq_true rfl, Nat.le_of_ble_eq_true rfl⟩) 0 rfl rfl rfl rfl rfl hl.1 (Nat.le_of_ble_eq_true rfl) dX2_addDigit_1 ⟨Nat.le_refl 0, Nat.le_refl 0⟩ (fun H locs hG => ?_)
  refine lv_iconst (v := nI 1) hx hb dX2_addDigit_4 rfl ?_
  refine lv_isub hx hb dX2_addDigit_5 ?_
  refine lv_istore_n (lv' := [(2, .int (r1 - (nI 1))), (0, .ref (a 0)), (1, .int p1)]) hx hb dX2_addDigit_6 rfl hl (by decide) rfl (fun ls hl => ?_)
  refine lv_aload_n hx hb dX2_addDigit_7 rfl (lv_at hl 1 rfl) ?_
  refine w_get2 F hK hG k1 0 rfl 2 (by decide) k0 rfl dX2_addDigit_8 ?_
  refine lv_iload_n hx hb dX2_addDigit_11 rfl (lv_at hl 0 rfl) ?_
  refine lv_aload_n hx hb dX2_addDigit_12 rfl (lv_at hl 1 rfl) ?_
  refine w_get2 F hK hG k1 0 rfl 2 (by decide) k0 rfl dX2_addDigit_13 ?_
  refine lv_iload_n hx hb dX2_addDigit_16 rfl (lv_at hl 0 rfl) ?_
  obtain ⟨g3, hf⟩ := gd_e hf
  refine w_iald F hK hG 3 rfl g3 dX2_addDigit_17 ?_
  refine lv_bipush (v := nI 10) hx hb dX2_addDigit_18 rfl ?_
  refine lv_imul hx hb dX2_addDigit_20 ?_
  refine lv_iload_n hx hb dX2_addDigit_21 rfl (lv_at hl 2 rfl) ?_
  refine lv_iadd hx hb dX2_addDigit_22 ?_
  obtain ⟨g4, hf⟩ := gd_e hf
  refine w_iast F hK hG 3 rfl g4 (w_X2 y a q_settings q_letters (upd q_heats (r1 - (nI 1)).toNatClampNeg (((q_heats (r1 - (nI 1)).toNatClampNeg) * (nI 10)) + p1)) q_starts q_families q_generations q_tally q_stories q_nextFamily q_splits q_boilings q_fizzles) rfl dX2_addDigit_23 (fun H locs hG => ?_)
  obtain ⟨q_heats_5, eq_heats_5, hf⟩ := nm_o hf
  rw [← eq_heats_5] at hG
  have hf := so_e hf
  have e0 : q_heats_5 = q_heats_o := hf
  exact hret _ _ _ _ (by rw [← e0]; exact hG) dX2_addDigit_24
set_option maxHeartbeats 1000000 in
set_option maxRecDepth 100000 in
theorem c_X1_writeTo (l : Launch) (D : va_G) (y : Nat → ClassId) (a b : Nat → Nat) (sz : Nat) (Fu : Nat) (q_characters : Ar) (q_length : Int32) (o_settings : Ar) (o_letters : Ar) (o_heats : Ar) (o_starts : Ar) (o_families : Ar) (o_generations : Ar) (o_tally : Ar) (o_stories : Int32) (o_nextFamily : Int32) (o_splits : Int32) (o_boilings : Int32) (o_fizzles : Int32) (o_letters_o : Ar) (o_heats_o : Ar) (o_starts_o : Ar) (o_families_o : Ar) (o_generations_o : Ar) (o_stories_o : Int32) (o_nextFamily_o : Int32) (hf : f_X1_writeTo Fu q_characters q_length o_letters o_heats o_starts o_families o_generations o_stories o_nextFamily = some (o_letters_o, o_heats_o, o_starts_o, o_families_o, o_generations_o, o_stories_o, o_nextFamily_o)) : MV l yX1_writeTo wsX1_writeTo 2 42 [.ref (a 0), .ref (b 0)] D y (w_X1 y a q_characters q_length ++ w_X2 y b o_settings o_letters o_heats o_starts o_families o_generations o_tally o_stories o_nextFamily o_splits o_boilings o_fizzles) sz (w_X1 y a q_characters q_length ++ w_X2 y b o_settings o_letters_o o_heats_o o_starts_o o_families_o o_generations_o o_tally o_stories_o o_nextFamily_o o_splits o_boilings o_fizzles) := by
  refine M_v (cc := cX1_writeTo) (maxL := 4) (own := RX1) (by decide) rfl rfl (Nat.le_of_ble_eq_true rfl) ?_
  intro p e s m args below meth c A Q F hK hA H locs hG hret ls hl
  have hx := F.1
  have hb := F.2.1
  have hl : lv_has ls 4 [(0, .ref (a 0)), (1, .ref (b 0))] := hl
  have k0 := F.2.2.2.2 (.fieldLink RX1 21 "HeatedStories$Pad" "length" "I") (List.mem_of_getElem? (i := 1) rfl)
  have k1 : ∀ w ∈ wsX10, w ∈ wsX1_writeTo := (fun w h => List.mem_cons_of_mem _ (List.mem_append_left _ (List.mem_append_right _ (h))))
  have k2 := F.2.2.2.2 (.fieldLink RX1 11 "HeatedStories$Pad" "characters" "[C") (List.mem_of_getElem? (i := 2) rfl)
  unfold f_X1_writeTo at hf
  refine lv_aload_n hx hb dX1_writeTo_0 rfl (lv_at hl 1 rfl) ?_
  obtain ⟨o_starts_1, o_families_2, o_generations_3, o_stories_4, o_nextFamily_5, h6, hf⟩ := bd5_e hf
  refine k_Vv F hK hA hG (c_X2_addStory l D y b H.size Fu o_settings o_letters o_heats o_starts o_families o_generations o_tally o_stories o_nextFamily o_splits o_boilings o_fizzles o_starts_1 o_families_2 o_generations_3 o_stories_4 o_nextFamily_5 h6) (cwV 0 F.2.2.2.2 gX1_writeTo_X2_addStory rfl rfl rfl (by decide +kernel) ⟨Nat.le_of_ble_eq_true rfl, Nat.le_of_ble_eq_true rfl⟩) 0 rfl rfl [2, 3, 4, 5, 6, 7, 8, 9] rfl rfl rfl (w_X1 y a q_characters q_length ++ w_X2 y b o_settings o_letters o_heats o_starts_1 o_families_2 o_generations_3 o_tally o_stories_4 o_nextFamily_5 o_splits o_boilings o_fizzles) rfl rfl rfl hl.1 (Nat.le_of_ble_eq_true rfl) dX1_writeTo_1 ⟨Nat.le_refl 0, Nat.le_refl 0⟩ (fun H locs hG => ?_)
  refine lv_iconst (v := nI 0) hx hb dX1_writeTo_4 rfl ?_
  refine lv_istore_n (lv' := [(2, .int (nI 0)), (0, .ref (a 0)), (1, .ref (b 0))]) hx hb dX1_writeTo_5 rfl hl (by decide) rfl (fun ls hl => ?_)
  obtain ⟨k_6, ek_6, hf⟩ := jn_e hf
  have hk_6 : ∀ (o_letters_42 : Ar) (o_heats_43 : Ar) (o_starts_44 : Ar) (o_families_45 : Ar) (o_generations_46 : Ar) (o_stories_47 : Int32) (o_nextFamily_48 : Int32) (H : Heap) (locs : List Loc) (ls : Array Slot), k_6 o_letters_42 o_heats_43 o_starts_44 o_families_45 o_generations_46 o_stories_47 o_nextFamily_48 = some (o_letters_o, o_heats_o, o_starts_o, o_families_o, o_generations_o, o_stories_o, o_nextFamily_o) → GG D A s.heap (w_X1 y a q_characters q_length ++ w_X2 y b o_settings o_letters_42 o_heats_43 o_starts_44 o_families_45 o_generations_46 o_tally o_stories_47 o_nextFamily_48 o_splits o_boilings o_fizzles) H locs → lv_has ls 4 [] → W p l e (RM 2 42) s m args below meth c H locs 0 0 Q (F0 m 66 ls []) := by
    intro o_letters_42 o_heats_43 o_starts_44 o_families_45 o_generations_46 o_stories_47 o_nextFamily_48 H locs ls hf hG hl
    rw [ek_6] at hf
    have hf := so_e hf
    have e0 : o_letters_42 = o_letters_o := congrArg (fun z => z.1) hf
    have e1 : o_heats_43 = o_heats_o := congrArg (fun z => z.2.1) hf
    have e2 : o_starts_44 = o_starts_o := congrArg (fun z => z.2.2.1) hf
    have e3 : o_families_45 = o_families_o := congrArg (fun z => z.2.2.2.1) hf
    have e4 : o_generations_46 = o_generations_o := congrArg (fun z => z.2.2.2.2.1) hf
    have e5 : o_stories_47 = o_stories_o := congrArg (fun z => z.2.2.2.2.2.1) hf
    have e6 : o_nextFamily_48 = o_nextFamily_o := congrArg (fun z => z.2.2.2.2.2.2) hf
    exact hret _ _ _ _ (by rw [← e0, ← e1, ← e2, ← e3, ← e4, ← e5, ← e6]; exact hG) dX1_writeTo_66
  have hL6 : ∀ (fu : Nat) (x7 : Int32) (o_letters_8 : Ar) (o_heats_9 : Ar) (o_starts_10 : Ar) (o_families_11 : Ar) (o_generations_12 : Ar) (o_stories_13 : Int32) (o_nextFamily_14 : Int32) (H : Heap) (locs : List Loc) (ls : Array Slot), f_X1_writeTo_L6 Fu k_6 q_characters q_length fu x7 o_letters_8 o_heats_9 o_starts_10 o_families_11 o_generations_12 o_stories_13 o_nextFamily_14 = some (o_letters_o, o_heats_o, o_starts_o, o_families_o, o_generations_o, o_stories_o, o_nextFamily_o) → GG D A s.heap (w_X1 y a q_characters q_length ++ w_X2 y b o_settings o_letters_8 o_heats_9 o_starts_10 o_families_11 o_generations_12 o_tally o_stories_13 o_nextFamily_14 o_splits o_boilings o_fizzles) H locs → lv_has ls 4 [(0, .ref (a 0)), (1, .ref (b 0)), (2, .int x7)] → W p l e (RM 2 42) s m args below meth c H locs 0 0 Q (F0 m 6 ls []) := by
    intro fu
    induction fu with
    | zero => intro x7 o_letters_8 o_heats_9 o_starts_10 o_families_11 o_generations_12 o_stories_13 o_nextFamily_14 H locs ls hf hG hl; exact no_e hf
    | succ fu ih =>
      intro x7 o_letters_8 o_heats_9 o_starts_10 o_families_11 o_generations_12 o_stories_13 o_nextFamily_14 H locs ls hf hG hl
      rw [f_X1_writeTo_L6_s] at hf
      refine lv_iload_n hx hb dX1_writeTo_6 rfl (lv_at hl 2 rfl) ?_
      refine lv_aload_n hx hb dX1_writeTo_7 rfl (lv_at hl 0 rfl) ?_
      refine w_get1 F hK hG k1 0 rfl 1 (by decide) k0 rfl dX1_writeTo_8 ?_
      refine lv_icmp_ge (tgt := 66) hx hb dX1_writeTo_11 (by decide) (fun c15 => ?_) (fun c15 => ?_)
      · have hf := it_e c15 hf
        exact hk_6 o_letters_8 o_heats_9 o_starts_10 o_families_11 o_generations_12 o_stories_13 o_nextFamily_14 _ _ ls hf hG (lv_sub hl [] rfl)
      · have hf := if_e c15 hf
        refine lv_aload_n hx hb dX1_writeTo_14 rfl (lv_at hl 0 rfl) ?_
        refine w_get1 F hK hG k1 0 rfl 0 (by decide) k2 rfl dX1_writeTo_15 ?_
        refine lv_iload_n hx hb dX1_writeTo_18 rfl (lv_at hl 2 rfl) ?_
        obtain ⟨g16, hf⟩ := gd_e hf
        refine w_cald F hK hG 1 rfl g16 dX1_writeTo_19 ?_
        obtain ⟨v17, ev17, hf⟩ := nm_o hf
        refine w_nm ev17 ?_
        refine lv_istore_n (lv' := [(3, .int v17), (0, .ref (a 0)), (1, .ref (b 0)), (2, .int x7)]) hx hb dX1_writeTo_20 rfl hl (by decide) rfl (fun ls hl => ?_)
        refine lv_iload_n hx hb dX1_writeTo_21 rfl (lv_at hl 0 rfl) ?_
        refine lv_bipush (v := nI 47) hx hb dX1_writeTo_22 rfl ?_
        obtain ⟨j41, ej41, hf⟩ := jn_e hf
        have hj41 : ∀ (o_letters_34 : Ar) (o_heats_35 : Ar) (o_starts_36 : Ar) (o_families_37 : Ar) (o_generations_38 : Ar) (o_stories_39 : Int32) (o_nextFamily_40 : Int32) (H : Heap) (locs : List Loc) (ls : Array Slot), j41 o_letters_34 o_heats_35 o_starts_36 o_families_37 o_generations_38 o_stories_39 o_nextFamily_40 = some (o_letters_o, o_heats_o, o_starts_o, o_families_o, o_generations_o, o_stories_o, o_nextFamily_o) → GG D A s.heap (w_X1 y a q_characters q_length ++ w_X2 y b o_settings o_letters_34 o_heats_35 o_starts_36 o_families_37 o_generations_38 o_tally o_stories_39 o_nextFamily_40 o_splits o_boilings o_fizzles) H locs → lv_has ls 4 [(0, .ref (a 0)), (1, .ref (b 0)), (2, .int x7)] → W p l e (RM 2 42) s m args below meth c H locs 0 0 Q (F0 m 60 ls []) := by
          intro o_letters_34 o_heats_35 o_starts_36 o_families_37 o_generations_38 o_stories_39 o_nextFamily_40 H locs ls hf hG hl
          rw [ej41] at hf
          refine lv_iinc (v := x7 + (nI 1)) (lv' := [(2, .int (x7 + (nI 1))), (0, .ref (a 0)), (1, .ref (b 0))]) hx hb dX1_writeTo_60 hl (k := 2) rfl rfl (by decide) rfl (fun ls hl => ?_)
          refine lv_goto (tgt := 6) hx hb dX1_writeTo_63 (by decide) ?_
          exact ih (x7 + (nI 1)) o_letters_34 o_heats_35 o_starts_36 o_families_37 o_generations_38 o_stories_39 o_nextFamily_40 _ _ ls hf hG (lv_sub hl [1, 2, 0] rfl)
        refine lv_icmp_ne (tgt := 34) hx hb dX1_writeTo_24 (by decide) (fun c18 => ?_) (fun c18 => ?_)
        · have hf := if_e c18 hf
          refine lv_iload_n hx hb dX1_writeTo_34 rfl (lv_at hl 0 rfl) ?_
          obtain ⟨r19, h20, hf⟩ := bd1_e hf
          refine k_Si F hK hA hG (c_X1_isWord l D y  H.size Fu  v17 r19 h20) (va_cwS 1 F.2.2.2.2 gX1_writeTo_X1_isWord rfl rfl rfl (by decide +kernel) ⟨Nat.le_of_ble_eq_true rfl, Nat.le_of_ble_eq_true rfl⟩) rfl rfl hl.1 (Nat.le_of_ble_eq_true rfl) dX1_writeTo_35 ⟨Nat.le_refl 0, Nat.le_refl 0⟩ (fun H locs hG => ?_)
          refine lv_if_eq (tgt := 52) hx hb dX1_writeTo_38 (by decide) (fun c21 => ?_) (fun c21 => ?_)
          · have hf := it_e c21 hf
            refine lv_aload_n hx hb dX1_writeTo_52 rfl (lv_at hl 2 rfl) ?_
            refine lv_iload_n hx hb dX1_writeTo_53 rfl (lv_at hl 0 rfl) ?_
            refine lv_bipush (v := nI 48) hx hb dX1_writeTo_54 rfl ?_
            refine lv_isub hx hb dX1_writeTo_56 ?_
            obtain ⟨o_heats_22, h23, hf⟩ := bd1_e hf
            refine k_Vv F hK hA hG (c_X2_addDigit l D y b H.size Fu o_settings o_letters_8 o_heats_9 o_starts_10 o_families_11 o_generations_12 o_tally o_stories_13 o_nextFamily_14 o_splits o_boilings o_fizzles (v17 - (nI 48)) o_heats_22 h23) (cwV 1 F.2.2.2.2 gX1_writeTo_X2_addDigit rfl rfl rfl (by decide +kernel) ⟨Nat.le_of_ble_eq_true rfl, Nat.le_of_ble_eq_true rfl⟩) 0 rfl rfl [2, 3, 4, 5, 6, 7, 8, 9] rfl rfl rfl (w_X1 y a q_characters q_length ++ w_X2 y b o_settings o_letters_8 o_heats_22 o_starts_10 o_families_11 o_generations_12 o_tally o_stories_13 o_nextFamily_14 o_splits o_boilings o_fizzles) rfl rfl rfl hl.1 (Nat.le_of_ble_eq_true rfl) dX1_writeTo_57 ⟨Nat.le_refl 0, Nat.le_refl 0⟩ (fun H locs hG => ?_)
            exact hj41 o_letters_8 o_heats_22 o_starts_10 o_families_11 o_generations_12 o_stories_13 o_nextFamily_14 _ _ ls hf hG (lv_sub hl [1, 2, 3] rfl)
          · have hf := if_e c21 hf
            refine lv_aload_n hx hb dX1_writeTo_41 rfl (lv_at hl 2 rfl) ?_
            refine lv_iload_n hx hb dX1_writeTo_42 rfl (lv_at hl 0 rfl) ?_
            refine lv_bipush (v := nI 97) hx hb dX1_writeTo_43 rfl ?_
            refine lv_isub hx hb dX1_writeTo_45 ?_
            obtain ⟨o_letters_24, o_heats_25, o_starts_26, h27, hf⟩ := bd3_e hf
            refine k_Vv F hK hA hG (c_X2_addWord l D y b H.size Fu o_settings o_letters_8 o_heats_9 o_starts_10 o_families_11 o_generations_12 o_tally o_stories_13 o_nextFamily_14 o_splits o_boilings o_fizzles (v17 - (nI 97)) o_letters_24 o_heats_25 o_starts_26 h27) (cwV 1 F.2.2.2.2 gX1_writeTo_X2_addWord rfl rfl rfl (by decide +kernel) ⟨Nat.le_of_ble_eq_true rfl, Nat.le_of_ble_eq_true rfl⟩) 0 rfl rfl [2, 3, 4, 5, 6, 7, 8, 9] rfl rfl rfl (w_X1 y a q_characters q_length ++ w_X2 y b o_settings o_letters_24 o_heats_25 o_starts_26 o_families_11 o_generations_12 o_tally o_stories_13 o_nextFamily_14 o_splits o_boilings o_fizzles) rfl rfl rfl hl.1 (Nat.le_of_ble_eq_true rfl) dX1_writeTo_46 ⟨Nat.le_refl 0, Nat.le_refl 0⟩ (fun H locs hG => ?_)
            refine lv_goto (tgt := 60) hx hb dX1_writeTo_49 (by decide) ?_
            exact hj41 o_letters_24 o_heats_25 o_starts_26 o_families_11 o_generations_12 o_stories_13 o_nextFamily_14 _ _ ls hf hG (lv_sub hl [1, 2, 3] rfl)
        · have hf := it_e c18 hf
          refine lv_aload_n hx hb dX1_writeTo_27 rfl (lv_at hl 2 rfl) ?_
          obtain ⟨o_starts_28, o_families_29, o_generations_30, o_stories_31, o_nextFamily_32, h33, hf⟩ := bd5_e hf
          refine k_Vv F hK hA hG (c_X2_addStory l D y b H.size Fu o_settings o_letters_8 o_heats_9 o_starts_10 o_families_11 o_generations_12 o_tally o_stories_13 o_nextFamily_14 o_splits o_boilings o_fizzles o_starts_28 o_families_29 o_generations_30 o_stories_31 o_nextFamily_32 h33) (cwV 0 F.2.2.2.2 gX1_writeTo_X2_addStory rfl rfl rfl (by decide +kernel) ⟨Nat.le_of_ble_eq_true rfl, Nat.le_of_ble_eq_true rfl⟩) 0 rfl rfl [2, 3, 4, 5, 6, 7, 8, 9] rfl rfl rfl (w_X1 y a q_characters q_length ++ w_X2 y b o_settings o_letters_8 o_heats_9 o_starts_28 o_families_29 o_generations_30 o_tally o_stories_31 o_nextFamily_32 o_splits o_boilings o_fizzles) rfl rfl rfl hl.1 (Nat.le_of_ble_eq_true rfl) dX1_writeTo_28 ⟨Nat.le_refl 0, Nat.le_refl 0⟩ (fun H locs hG => ?_)
          refine lv_goto (tgt := 60) hx hb dX1_writeTo_31 (by decide) ?_
          exact hj41 o_letters_8 o_heats_9 o_starts_28 o_families_29 o_generations_30 o_stories_31 o_nextFamily_32 _ _ ls hf hG (lv_sub hl [1, 2, 3] rfl)
  exact hL6 Fu (nI 0) o_letters o_heats o_starts_1 o_families_2 o_generations_3 o_stories_4 o_nextFamily_5 _ _ ls hf hG (lv_sub hl [1, 2, 0] rfl)
set_option maxHeartbeats 1000000 in
set_option maxRecDepth 100000 in
theorem c_X2_hasStory (l : Launch) (D : va_G) (y : Nat → ClassId) (a : Nat → Nat) (sz : Nat) (Fu : Nat) (q_settings : Ar) (q_letters : Ar) (q_heats : Ar) (q_starts : Ar) (q_families : Ar) (q_generations : Ar) (q_tally : Ar) (q_stories : Int32) (q_nextFamily : Int32) (q_splits : Int32) (q_boilings : Int32) (q_fizzles : Int32) (p1 : Int32) (ro : Int32) (hf : f_X2_hasStory Fu q_stories p1 = some (ro)) : MI l yX2_hasStory wsX2_hasStory 1 22 [.ref (a 0), .int p1] D y (w_X2 y a q_settings q_letters q_heats q_starts q_families q_generations q_tally q_stories q_nextFamily q_splits q_boilings q_fizzles) sz ro (w_X2 y a q_settings q_letters q_heats q_starts q_families q_generations q_tally q_stories q_nextFamily q_splits q_boilings q_fizzles) := by
  refine M_z (cc := cX2_hasStory) (maxL := 2) (own := RX2) (by decide) rfl rfl (Nat.le_of_ble_eq_true rfl) ?_
  intro p e s m args below meth c A Q F hK hA H locs hG hret ls hl
  have hx := F.1
  have hb := F.2.1
  have hl : lv_has ls 2 [(0, .ref (a 0)), (1, .int p1)] := hl
  have k0 := F.2.2.2.2 (.fieldLink RX2 43 "HeatedStories$Shelf" "stories" "I") (List.mem_of_getElem? (i := 1) rfl)
  have k1 : ∀ w ∈ wsX20, w ∈ wsX2_hasStory := (fun w h => List.mem_cons_of_mem _ (List.mem_append_right _ (h)))
  have k2 := F.2.2.2.2 (.initialized RX3) (List.mem_of_getElem? (i := 3) rfl)
  have k3 := F.2.2.2.2 (.static yX3_isWithin) (List.mem_of_getElem? (i := 2) rfl)
  unfold f_X2_hasStory at hf
  refine lv_iload_n hx hb dX2_hasStory_0 rfl (lv_at hl 1 rfl) ?_
  refine lv_iconst (v := nI 0) hx hb dX2_hasStory_1 rfl ?_
  refine lv_aload_n hx hb dX2_hasStory_2 rfl (lv_at hl 0 rfl) ?_
  refine w_get2 F hK hG k1 0 rfl 7 (by decide) k0 rfl dX2_hasStory_3 ?_
  refine lv_iconst (v := nI 1) hx hb dX2_hasStory_6 rfl ?_
  refine lv_isub hx hb dX2_hasStory_7 ?_
  obtain ⟨r1, h2, hf⟩ := bd1_e hf
  refine k_SNi F hK hA hG (c_X3_isWithin l D y  H.size Fu  p1 (nI 0) (q_stories - (nI 1)) r1 h2) ⟨va_cnB 3 F.2.2.2.2 gX2_hasStory_X3_isWithin_n59 rfl rfl rfl hK.2.1 k2 (by decide +kernel) ⟨Nat.le_of_ble_eq_true rfl, Nat.le_of_ble_eq_true rfl⟩, k3, trivial⟩ rfl rfl hl.1 (Nat.le_of_ble_eq_true rfl) dX2_hasStory_8 ⟨Nat.le_refl 0, Nat.le_refl 0⟩ (fun H locs hG => ?_)
  obtain ⟨gz, hf⟩ := gd_e hf
  have hf := so_e hf
  have e0 : r1 = ro := hf
  exact hret _ _ _ _ _ (bz_n gz) e0 hG dX2_hasStory_11
set_option maxHeartbeats 1000000 in
set_option maxRecDepth 100000 in
theorem c_X2_sizeOf (l : Launch) (D : va_G) (y : Nat → ClassId) (a : Nat → Nat) (sz : Nat) (Fu : Nat) (q_settings : Ar) (q_letters : Ar) (q_heats : Ar) (q_starts : Ar) (q_families : Ar) (q_generations : Ar) (q_tally : Ar) (q_stories : Int32) (q_nextFamily : Int32) (q_splits : Int32) (q_boilings : Int32) (q_fizzles : Int32) (p1 : Int32) (ro : Int32) (hf : f_X2_sizeOf Fu q_starts p1 = some (ro)) : MI l yX2_sizeOf wsX2_sizeOf 0 0 [.ref (a 0), .int p1] D y (w_X2 y a q_settings q_letters q_heats q_starts q_families q_generations q_tally q_stories q_nextFamily q_splits q_boilings q_fizzles) sz ro (w_X2 y a q_settings q_letters q_heats q_starts q_families q_generations q_tally q_stories q_nextFamily q_splits q_boilings q_fizzles) := by
  refine M_i (cc := cX2_sizeOf) (maxL := 2) (own := RX2) (by decide) rfl rfl (Nat.le_of_ble_eq_true rfl) ?_
  intro p e s m args below meth c A Q F hK hA H locs hG hret ls hl
  have hx := F.1
  have hb := F.2.1
  have hl : lv_has ls 2 [(0, .ref (a 0)), (1, .int p1)] := hl
  have k0 := F.2.2.2.2 (.fieldLink RX2 21 "HeatedStories$Shelf" "starts" "[I") (List.mem_of_getElem? (i := 1) rfl)
  have k1 : ∀ w ∈ wsX20, w ∈ wsX2_sizeOf := (fun w h => List.mem_cons_of_mem _ (List.mem_append_right _ (h)))
  unfold f_X2_sizeOf at hf
  refine lv_aload_n hx hb dX2_sizeOf_0 rfl (lv_at hl 0 rfl) ?_
  refine w_get2 F hK hG k1 0 rfl 3 (by decide) k0 rfl dX2_sizeOf_1 ?_
  refine lv_iload_n hx hb dX2_sizeOf_4 rfl (lv_at hl 1 rfl) ?_
  refine lv_iconst (v := nI 1) hx hb dX2_sizeOf_5 rfl ?_
  refine lv_iadd hx hb dX2_sizeOf_6 ?_
  obtain ⟨g1, hf⟩ := gd_e hf
  refine w_iald F hK hG 4 rfl g1 dX2_sizeOf_7 ?_
  refine lv_aload_n hx hb dX2_sizeOf_8 rfl (lv_at hl 0 rfl) ?_
  refine w_get2 F hK hG k1 0 rfl 3 (by decide) k0 rfl dX2_sizeOf_9 ?_
  refine lv_iload_n hx hb dX2_sizeOf_12 rfl (lv_at hl 1 rfl) ?_
  obtain ⟨g2, hf⟩ := gd_e hf
  refine w_iald F hK hG 4 rfl g2 dX2_sizeOf_13 ?_
  refine lv_isub hx hb dX2_sizeOf_14 ?_
  have hf := so_e hf
  have e0 : ((q_starts (p1 + (nI 1)).toNatClampNeg) - (q_starts (p1).toNatClampNeg)) = ro := hf
  exact hret _ _ _ _ _ e0 hG dX2_sizeOf_15
set_option maxHeartbeats 1000000 in
set_option maxRecDepth 100000 in
theorem c_X2_hasWord (l : Launch) (D : va_G) (y : Nat → ClassId) (a : Nat → Nat) (sz : Nat) (Fu : Nat) (q_settings : Ar) (q_letters : Ar) (q_heats : Ar) (q_starts : Ar) (q_families : Ar) (q_generations : Ar) (q_tally : Ar) (q_stories : Int32) (q_nextFamily : Int32) (q_splits : Int32) (q_boilings : Int32) (q_fizzles : Int32) (p1 : Int32) (p2 : Int32) (ro : Int32) (hf : f_X2_hasWord Fu q_starts q_stories p1 p2 = some (ro)) : MI l yX2_hasWord wsX2_hasWord 2 43 [.ref (a 0), .int p1, .int p2] D y (w_X2 y a q_settings q_letters q_heats q_starts q_families q_generations q_tally q_stories q_nextFamily q_splits q_boilings q_fizzles) sz ro (w_X2 y a q_settings q_letters q_heats q_starts q_families q_generations q_tally q_stories q_nextFamily q_splits q_boilings q_fizzles) := by
  refine M_z (cc := cX2_hasWord) (maxL := 3) (own := RX2) (by decide) rfl rfl (Nat.le_of_ble_eq_true rfl) ?_
  intro p e s m args below meth c A Q F hK hA H locs hG hret ls hl
  have hx := F.1
  have hb := F.2.1
  have hl : lv_has ls 3 [(0, .ref (a 0)), (1, .int p1), (2, .int p2)] := hl
  have k0 := F.2.2.2.2 (.initialized RX3) (List.mem_of_getElem? (i := 8) rfl)
  have k1 := F.2.2.2.2 (.static yX3_isWithin) (List.mem_of_getElem? (i := 7) rfl)
  unfold f_X2_hasWord at hf
  refine lv_aload_n hx hb dX2_hasWord_0 rfl (lv_at hl 0 rfl) ?_
  refine lv_iload_n hx hb dX2_hasWord_1 rfl (lv_at hl 1 rfl) ?_
  obtain ⟨r1, h2, hf⟩ := bd1_e hf
  refine k_Wi F hK hA hG (c_X2_hasStory l D y a H.size Fu q_settings q_letters q_heats q_starts q_families q_generations q_tally q_stories q_nextFamily q_splits q_boilings q_fizzles p1 r1 h2) (cwV 1 F.2.2.2.2 gX2_hasWord_X2_hasStory rfl rfl rfl (by decide +kernel) ⟨Nat.le_of_ble_eq_true rfl, Nat.le_of_ble_eq_true rfl⟩) 0 rfl rfl rfl rfl rfl hl.1 (Nat.le_of_ble_eq_true rfl) dX2_hasWord_2 ⟨Nat.le_refl 0, Nat.le_refl 0⟩ (fun H locs hG => ?_)
  obtain ⟨j10, ej10, hf⟩ := jn_e hf
  have hj10 : ∀ (v9 : Int32) (H : Heap) (locs : List Loc) (ls : Array Slot), j10 v9 = some (ro) → GG D A s.heap (w_X2 y a q_settings q_letters q_heats q_starts q_families q_generations q_tally q_stories q_nextFamily q_splits q_boilings q_fizzles) H locs → lv_has ls 3 [] → W p l e (RM 2 43) s m args below meth c H locs 0 0 Q (F0 m 28 ls [.int v9]) := by
    intro v9 H locs ls hf hG hl
    rw [ej10] at hf
    obtain ⟨gz, hf⟩ := gd_e hf
    have hf := so_e hf
    have e0 : v9 = ro := hf
    exact hret _ _ _ _ _ (bz_n gz) e0 hG dX2_hasWord_28
  refine lv_if_eq (tgt := 27) hx hb dX2_hasWord_5 (by decide) (fun c3 => ?_) (fun c3 => ?_)
  · have hf := it_e c3 hf
    refine lv_iconst (v := nI 0) hx hb dX2_hasWord_27 rfl ?_
    exact hj10 (nI 0) _ _ ls hf hG (lv_sub hl [] rfl)
  · have hf := if_e c3 hf
    refine lv_iload_n hx hb dX2_hasWord_8 rfl (lv_at hl 2 rfl) ?_
    refine lv_iconst (v := nI 0) hx hb dX2_hasWord_9 rfl ?_
    refine lv_aload_n hx hb dX2_hasWord_10 rfl (lv_at hl 0 rfl) ?_
    refine lv_iload_n hx hb dX2_hasWord_11 rfl (lv_at hl 1 rfl) ?_
    obtain ⟨r4, h5, hf⟩ := bd1_e hf
    refine k_Wi F hK hA hG (c_X2_sizeOf l D y a H.size Fu q_settings q_letters q_heats q_starts q_families q_generations q_tally q_stories q_nextFamily q_splits q_boilings q_fizzles p1 r4 h5) (cwV 1 F.2.2.2.2 gX2_hasWord_X2_sizeOf rfl rfl rfl (by decide +kernel) ⟨Nat.le_of_ble_eq_true rfl, Nat.le_of_ble_eq_true rfl⟩) 0 rfl rfl rfl rfl rfl hl.1 (Nat.le_of_ble_eq_true rfl) dX2_hasWord_12 ⟨Nat.le_refl 0, Nat.le_refl 0⟩ (fun H locs hG => ?_)
    refine lv_iconst (v := nI 1) hx hb dX2_hasWord_15 rfl ?_
    refine lv_isub hx hb dX2_hasWord_16 ?_
    obtain ⟨r6, h7, hf⟩ := bd1_e hf
    refine k_SNi F hK hA hG (c_X3_isWithin l D y  H.size Fu  p2 (nI 0) (r4 - (nI 1)) r6 h7) ⟨va_cnB 3 F.2.2.2.2 gX2_hasWord_X3_isWithin_n59 rfl rfl rfl hK.2.1 k0 (by decide +kernel) ⟨Nat.le_of_ble_eq_true rfl, Nat.le_of_ble_eq_true rfl⟩, k1, trivial⟩ rfl rfl hl.1 (Nat.le_of_ble_eq_true rfl) dX2_hasWord_17 ⟨Nat.le_refl 0, Nat.le_refl 0⟩ (fun H locs hG => ?_)
    refine lv_if_eq (tgt := 27) hx hb dX2_hasWord_20 (by decide) (fun c8 => ?_) (fun c8 => ?_)
    · have hf := it_e c8 hf
      refine lv_iconst (v := nI 0) hx hb dX2_hasWord_27 rfl ?_
      exact hj10 (nI 0) _ _ ls hf hG (lv_sub hl [] rfl)
    · have hf := if_e c8 hf
      refine lv_iconst (v := nI 1) hx hb dX2_hasWord_23 rfl ?_
      refine lv_goto (tgt := 28) hx hb dX2_hasWord_24 (by decide) ?_
      exact hj10 (nI 1) _ _ ls hf hG (lv_sub hl [] rfl)
set_option maxHeartbeats 1000000 in
set_option maxRecDepth 100000 in
theorem c_X2_storyAt (l : Launch) (D : va_G) (y : Nat → ClassId) (a : Nat → Nat) (sz : Nat) (Fu : Nat) (q_settings : Ar) (q_letters : Ar) (q_heats : Ar) (q_starts : Ar) (q_families : Ar) (q_generations : Ar) (q_tally : Ar) (q_stories : Int32) (q_nextFamily : Int32) (q_splits : Int32) (q_boilings : Int32) (q_fizzles : Int32) (p1 : Int32) (ro : Int32) (hf : f_X2_storyAt Fu q_starts q_stories p1 = some (ro)) : MI l yX2_storyAt wsX2_storyAt 0 0 [.ref (a 0), .int p1] D y (w_X2 y a q_settings q_letters q_heats q_starts q_families q_generations q_tally q_stories q_nextFamily q_splits q_boilings q_fizzles) sz ro (w_X2 y a q_settings q_letters q_heats q_starts q_families q_generations q_tally q_stories q_nextFamily q_splits q_boilings q_fizzles) := by
  refine M_i (cc := cX2_storyAt) (maxL := 3) (own := RX2) (by decide) rfl rfl (Nat.le_of_ble_eq_true rfl) ?_
  intro p e s m args below meth c A Q F hK hA H locs hG hret ls hl
  have hx := F.1
  have hb := F.2.1
  have hl : lv_has ls 3 [(0, .ref (a 0)), (1, .int p1)] := hl
  have k0 := F.2.2.2.2 (.fieldLink RX2 43 "HeatedStories$Shelf" "stories" "I") (List.mem_of_getElem? (i := 1) rfl)
  have k1 : ∀ w ∈ wsX20, w ∈ wsX2_storyAt := (fun w h => List.mem_cons_of_mem _ (List.mem_append_right _ (h)))
  have k2 := F.2.2.2.2 (.fieldLink RX2 21 "HeatedStories$Shelf" "starts" "[I") (List.mem_of_getElem? (i := 2) rfl)
  unfold f_X2_storyAt at hf
  refine lv_iconst (v := nI 0) hx hb dX2_storyAt_0 rfl ?_
  refine lv_istore_n (lv' := [(2, .int (nI 0)), (0, .ref (a 0)), (1, .int p1)]) hx hb dX2_storyAt_1 rfl hl (by decide) rfl (fun ls hl => ?_)
  obtain ⟨k_2, ek_2, hf⟩ := jn_e hf
  have hk_2 : ∀ (v5 : Int32) (H : Heap) (locs : List Loc) (ls : Array Slot), k_2 v5 = some (ro) → GG D A s.heap (w_X2 y a q_settings q_letters q_heats q_starts q_families q_generations q_tally q_stories q_nextFamily q_splits q_boilings q_fizzles) H locs → lv_has ls 3 [(2, .int v5)] → W p l e (RM 0 0) s m args below meth c H locs 0 0 Q (F0 m 30 ls []) := by
    intro v5 H locs ls hf hG hl
    rw [ek_2] at hf
    refine lv_iload_n hx hb dX2_storyAt_30 rfl (lv_at hl 0 rfl) ?_
    have hf := so_e hf
    have e0 : v5 = ro := hf
    exact hret _ _ _ _ _ e0 hG dX2_storyAt_31
  have hL2 : ∀ (fu : Nat) (x1 : Int32) (H : Heap) (locs : List Loc) (ls : Array Slot), f_X2_storyAt_L2 Fu k_2 q_starts q_stories p1 fu x1 = some (ro) → GG D A s.heap (w_X2 y a q_settings q_letters q_heats q_starts q_families q_generations q_tally q_stories q_nextFamily q_splits q_boilings q_fizzles) H locs → lv_has ls 3 [(0, .ref (a 0)), (1, .int p1), (2, .int x1)] → W p l e (RM 0 0) s m args below meth c H locs 0 0 Q (F0 m 2 ls []) := by
    intro fu
    induction fu with
    | zero => intro x1 H locs ls hf hG hl; exact no_e hf
    | succ fu ih =>
      intro x1 H locs ls hf hG hl
      rw [f_X2_storyAt_L2_s] at hf
      refine lv_iload_n hx hb dX2_storyAt_2 rfl (lv_at hl 2 rfl) ?_
      refine lv_iconst (v := nI 1) hx hb dX2_storyAt_3 rfl ?_
      refine lv_iadd hx hb dX2_storyAt_4 ?_
      refine lv_aload_n hx hb dX2_storyAt_5 rfl (lv_at hl 0 rfl) ?_
      refine w_get2 F hK hG k1 0 rfl 7 (by decide) k0 rfl dX2_storyAt_6 ?_
      refine lv_icmp_ge (tgt := 30) hx hb dX2_storyAt_9 (by decide) (fun c2 => ?_) (fun c2 => ?_)
      · have hf := it_e c2 hf
        exact hk_2 x1 _ _ ls hf hG (lv_sub hl [2] rfl)
      · have hf := if_e c2 hf
        refine lv_aload_n hx hb dX2_storyAt_12 rfl (lv_at hl 0 rfl) ?_
        refine w_get2 F hK hG k1 0 rfl 3 (by decide) k2 rfl dX2_storyAt_13 ?_
        refine lv_iload_n hx hb dX2_storyAt_16 rfl (lv_at hl 2 rfl) ?_
        refine lv_iconst (v := nI 1) hx hb dX2_storyAt_17 rfl ?_
        refine lv_iadd hx hb dX2_storyAt_18 ?_
        obtain ⟨g3, hf⟩ := gd_e hf
        refine w_iald F hK hG 4 rfl g3 dX2_storyAt_19 ?_
        refine lv_iload_n hx hb dX2_storyAt_20 rfl (lv_at hl 1 rfl) ?_
        refine lv_icmp_gt (tgt := 30) hx hb dX2_storyAt_21 (by decide) (fun c4 => ?_) (fun c4 => ?_)
        · have hf := it_e c4 hf
          exact hk_2 x1 _ _ ls hf hG (lv_sub hl [2] rfl)
        · have hf := if_e c4 hf
          refine lv_iinc (v := x1 + (nI 1)) (lv' := [(2, .int (x1 + (nI 1))), (0, .ref (a 0)), (1, .int p1)]) hx hb dX2_storyAt_24 hl (k := 2) rfl rfl (by decide) rfl (fun ls hl => ?_)
          refine lv_goto (tgt := 2) hx hb dX2_storyAt_27 (by decide) ?_
          exact ih (x1 + (nI 1)) _ _ ls hf hG (lv_sub hl [1, 2, 0] rfl)
  exact hL2 Fu (nI 0) _ _ ls hf hG (lv_sub hl [1, 2, 0] rfl)
set_option maxHeartbeats 1000000 in
set_option maxRecDepth 100000 in
theorem c_X2_placeOf (l : Launch) (D : va_G) (y : Nat → ClassId) (a : Nat → Nat) (sz : Nat) (Fu : Nat) (q_settings : Ar) (q_letters : Ar) (q_heats : Ar) (q_starts : Ar) (q_families : Ar) (q_generations : Ar) (q_tally : Ar) (q_stories : Int32) (q_nextFamily : Int32) (q_splits : Int32) (q_boilings : Int32) (q_fizzles : Int32) (p1 : Int32) (ro : Int32) (hf : f_X2_placeOf Fu q_starts q_stories p1 = some (ro)) : MI l yX2_placeOf wsX2_placeOf 1 22 [.ref (a 0), .int p1] D y (w_X2 y a q_settings q_letters q_heats q_starts q_families q_generations q_tally q_stories q_nextFamily q_splits q_boilings q_fizzles) sz ro (w_X2 y a q_settings q_letters q_heats q_starts q_families q_generations q_tally q_stories q_nextFamily q_splits q_boilings q_fizzles) := by
  refine M_i (cc := cX2_placeOf) (maxL := 2) (own := RX2) (by decide) rfl rfl (Nat.le_of_ble_eq_true rfl) ?_
  intro p e s m args below meth c A Q F hK hA H locs hG hret ls hl
  have hx := F.1
  have hb := F.2.1
  have hl : lv_has ls 2 [(0, .ref (a 0)), (1, .int p1)] := hl
  have k0 := F.2.2.2.2 (.fieldLink RX2 21 "HeatedStories$Shelf" "starts" "[I") (List.mem_of_getElem? (i := 1) rfl)
  have k1 : ∀ w ∈ wsX20, w ∈ wsX2_placeOf := (fun w h => List.mem_cons_of_mem _ (List.mem_append_right _ (h)))
  unfold f_X2_placeOf at hf
  refine lv_iload_n hx hb dX2_placeOf_0 rfl (lv_at hl 1 rfl) ?_
  refine lv_aload_n hx hb dX2_placeOf_1 rfl (lv_at hl 0 rfl) ?_
  refine w_get2 F hK hG k1 0 rfl 3 (by decide) k0 rfl dX2_placeOf_2 ?_
  refine lv_aload_n hx hb dX2_placeOf_5 rfl (lv_at hl 0 rfl) ?_
  refine lv_iload_n hx hb dX2_placeOf_6 rfl (lv_at hl 1 rfl) ?_
  obtain ⟨r1, h2, hf⟩ := bd1_e hf
  refine k_Wi F hK hA hG (c_X2_storyAt l D y a H.size Fu q_settings q_letters q_heats q_starts q_families q_generations q_tally q_stories q_nextFamily q_splits q_boilings q_fizzles p1 r1 h2) (cwV 1 F.2.2.2.2 gX2_placeOf_X2_storyAt rfl rfl rfl (by decide +kernel) ⟨Nat.le_of_ble_eq_true rfl, Nat.le_of_ble_eq_true rfl⟩) 0 rfl rfl rfl rfl rfl hl.1 (Nat.le_of_ble_eq_true rfl) dX2_placeOf_7 ⟨Nat.le_refl 0, Nat.le_refl 0⟩ (fun H locs hG => ?_)
  obtain ⟨g3, hf⟩ := gd_e hf
  refine w_iald F hK hG 4 rfl g3 dX2_placeOf_10 ?_
  refine lv_isub hx hb dX2_placeOf_11 ?_
  have hf := so_e hf
  have e0 : (p1 - (q_starts (r1).toNatClampNeg)) = ro := hf
  exact hret _ _ _ _ _ e0 hG dX2_placeOf_12
set_option maxHeartbeats 1000000 in
set_option maxRecDepth 100000 in
theorem c_X2_warm (l : Launch) (D : va_G) (y : Nat → ClassId) (a : Nat → Nat) (sz : Nat) (Fu : Nat) (q_settings : Ar) (q_letters : Ar) (q_heats : Ar) (q_starts : Ar) (q_families : Ar) (q_generations : Ar) (q_tally : Ar) (q_stories : Int32) (q_nextFamily : Int32) (q_splits : Int32) (q_boilings : Int32) (q_fizzles : Int32) (p1 : Int32) (p2 : Int32) (q_heats_o : Ar) (hf : f_X2_warm Fu q_heats p1 p2 = some (q_heats_o)) : MV l yX2_warm wsX2_warm 1 15 [.ref (a 0), .int p1, .int p2] D y (w_X2 y a q_settings q_letters q_heats q_starts q_families q_generations q_tally q_stories q_nextFamily q_splits q_boilings q_fizzles) sz (w_X2 y a q_settings q_letters q_heats_o q_starts q_families q_generations q_tally q_stories q_nextFamily q_splits q_boilings q_fizzles) := by
  refine M_v (cc := cX2_warm) (maxL := 3) (own := RX2) (by decide) rfl rfl (Nat.le_of_ble_eq_true rfl) ?_
  intro p e s m args below meth c A Q F hK hA H locs hG hret ls hl
  have hx := F.1
  have hb := F.2.1
  have hl : lv_has ls 3 [(0, .ref (a 0)), (1, .int p1), (2, .int p2)] := hl
  have k0 := F.2.2.2.2 (.fieldLink RX2 18 "HeatedStories$Shelf" "heats" "[I") (List.mem_of_getElem? (i := 1) rfl)
  have k1 : ∀ w ∈ wsX20, w ∈ wsX2_warm := (fun w h => List.mem_cons_of_mem _ (List.mem_append_right _ (h)))
  have k2 := F.2.2.2.2 (.methodLink RX2 74 Lib.Math.min.name) (List.mem_of_getElem? (i := 2) rfl)
  have k3 := F.2.2.2.2 (.static Lib.Math.min.name) (List.mem_of_getElem? (i := 3) rfl)
  have k4 := F.2.2.2.2 (.initialized "java/lang/Math") (List.mem_of_getElem? (i := 4) rfl)
  have k5 := F.2.2.2.2 (.code Lib.Math.min.name Lib.Math.min.code 2 (some .int)) (List.mem_of_getElem? (i := 5) rfl)
  unfold f_X2_warm at hf
  refine lv_aload_n hx hb dX2_warm_0 rfl (lv_at hl 0 rfl) ?_
  refine w_get2 F hK hG k1 0 rfl 2 (by decide) k0 rfl dX2_warm_1 ?_
  refine lv_iload_n hx hb dX2_warm_4 rfl (lv_at hl 1 rfl) ?_
  refine lv_sipush (v := nI 999) hx hb dX2_warm_5 rfl ?_
  refine lv_aload_n hx hb dX2_warm_8 rfl (lv_at hl 0 rfl) ?_
  refine w_get2 F hK hG k1 0 rfl 2 (by decide) k0 rfl dX2_warm_9 ?_
  refine lv_iload_n hx hb dX2_warm_12 rfl (lv_at hl 1 rfl) ?_
  obtain ⟨g1, hf⟩ := gd_e hf
  refine w_iald F hK hG 3 rfl g1 dX2_warm_13 ?_
  refine lv_iload_n hx hb dX2_warm_14 rfl (lv_at hl 2 rfl) ?_
  refine lv_iadd hx hb dX2_warm_15 ?_
  refine w_min F hl.1 k2 k3 k4 k5 ⟨Nat.le_of_ble_eq_true rfl, Nat.le_of_ble_eq_true rfl⟩ ⟨Nat.le_refl 0, Nat.le_refl 0⟩ dX2_warm_16 ?_
  obtain ⟨g2, hf⟩ := gd_e hf
  refine w_iast F hK hG 3 rfl g2 (w_X2 y a q_settings q_letters (upd q_heats (p1).toNatClampNeg (jmin (nI 999) ((q_heats (p1).toNatClampNeg) + p2))) q_starts q_families q_generations q_tally q_stories q_nextFamily q_splits q_boilings q_fizzles) rfl dX2_warm_19 (fun H locs hG => ?_)
  obtain ⟨q_heats_3, eq_heats_3, hf⟩ := nm_o hf
  rw [← eq_heats_3] at hG
  have hf := so_e hf
  have e0 : q_heats_3 = q_heats_o := hf
  exact hret _ _ _ _ (by rw [← e0]; exact hG) dX2_warm_20
set_option maxHeartbeats 1000000 in
set_option maxRecDepth 100000 in
theorem c_X2_remove (l : Launch) (D : va_G) (y : Nat → ClassId) (a : Nat → Nat) (sz : Nat) (Fu : Nat) (q_settings : Ar) (q_letters : Ar) (q_heats : Ar) (q_starts : Ar) (q_families : Ar) (q_generations : Ar) (q_tally : Ar) (q_stories : Int32) (q_nextFamily : Int32) (q_splits : Int32) (q_boilings : Int32) (q_fizzles : Int32) (p1 : Int32) (q_letters_o : Ar) (q_heats_o : Ar) (q_starts_o : Ar) (q_families_o : Ar) (q_generations_o : Ar) (q_stories_o : Int32) (hf : f_X2_remove Fu q_letters q_heats q_starts q_families q_generations q_stories p1 = some (q_letters_o, q_heats_o, q_starts_o, q_families_o, q_generations_o, q_stories_o)) : MV l yX2_remove wsX2_remove 1 40 [.ref (a 0), .int p1] D y (w_X2 y a q_settings q_letters q_heats q_starts q_families q_generations q_tally q_stories q_nextFamily q_splits q_boilings q_fizzles) sz (w_X2 y a q_settings q_letters_o q_heats_o q_starts_o q_families_o q_generations_o q_tally q_stories_o q_nextFamily q_splits q_boilings q_fizzles) := by
  refine M_v (cc := cX2_remove) (maxL := 7) (own := RX2) (by decide) rfl rfl (Nat.le_of_ble_eq_true rfl) ?_
  intro p e s m args below meth c A Q F hK hA H locs hG hret ls hl
  have hx := F.1
  have hb := F.2.1
  have hl : lv_has ls 7 [(0, .ref (a 0)), (1, .int p1)] := hl
  have k0 := F.2.2.2.2 (.fieldLink RX2 21 "HeatedStories$Shelf" "starts" "[I") (List.mem_of_getElem? (i := 1) rfl)
  have k1 : ∀ w ∈ wsX20, w ∈ wsX2_remove := (fun w h => List.mem_cons_of_mem _ (List.mem_append_right _ (h)))
  have k2 := F.2.2.2.2 (.fieldLink RX2 43 "HeatedStories$Shelf" "stories" "I") (List.mem_of_getElem? (i := 2) rfl)
  have k3 := F.2.2.2.2 (.fieldLink RX2 15 "HeatedStories$Shelf" "letters" "[I") (List.mem_of_getElem? (i := 3) rfl)
  have k4 := F.2.2.2.2 (.methodLink RX2 37 arraycopyName) (List.mem_of_getElem? (i := 4) rfl)
  have k5 := F.2.2.2.2 (.native arraycopyName) (List.mem_of_getElem? (i := 5) rfl)
  have k6 := F.2.2.2.2 (.static arraycopyName) (List.mem_of_getElem? (i := 6) rfl)
  have k7 := F.2.2.2.2 (.initialized "java/lang/System") (List.mem_of_getElem? (i := 7) rfl)
  have k8 := F.2.2.2.2 (.fieldLink RX2 18 "HeatedStories$Shelf" "heats" "[I") (List.mem_of_getElem? (i := 8) rfl)
  have k9 := F.2.2.2.2 (.fieldLink RX2 24 "HeatedStories$Shelf" "families" "[I") (List.mem_of_getElem? (i := 9) rfl)
  have k10 := F.2.2.2.2 (.fieldLink RX2 27 "HeatedStories$Shelf" "generations" "[I") (List.mem_of_getElem? (i := 10) rfl)
  unfold f_X2_remove at hf
  refine lv_aload_n hx hb dX2_remove_0 rfl (lv_at hl 0 rfl) ?_
  refine w_get2 F hK hG k1 0 rfl 3 (by decide) k0 rfl dX2_remove_1 ?_
  refine lv_iload_n hx hb dX2_remove_4 rfl (lv_at hl 1 rfl) ?_
  obtain ⟨g1, hf⟩ := gd_e hf
  refine w_iald F hK hG 4 rfl g1 dX2_remove_5 ?_
  refine lv_istore_n (lv' := [(2, .int (q_starts (p1).toNatClampNeg)), (0, .ref (a 0)), (1, .int p1)]) hx hb dX2_remove_6 rfl hl (by decide) rfl (fun ls hl => ?_)
  refine lv_aload_n hx hb dX2_remove_7 rfl (lv_at hl 1 rfl) ?_
  refine w_get2 F hK hG k1 0 rfl 3 (by decide) k0 rfl dX2_remove_8 ?_
  refine lv_iload_n hx hb dX2_remove_11 rfl (lv_at hl 2 rfl) ?_
  refine lv_iconst (v := nI 1) hx hb dX2_remove_12 rfl ?_
  refine lv_iadd hx hb dX2_remove_13 ?_
  obtain ⟨g2, hf⟩ := gd_e hf
  refine w_iald F hK hG 4 rfl g2 dX2_remove_14 ?_
  obtain ⟨v3, ev3, hf⟩ := nm_o hf
  refine w_nm ev3 ?_
  refine lv_istore_n (lv' := [(3, .int v3), (2, .int (q_starts (p1).toNatClampNeg)), (0, .ref (a 0)), (1, .int p1)]) hx hb dX2_remove_15 rfl hl (by decide) rfl (fun ls hl => ?_)
  refine lv_aload_n hx hb dX2_remove_16 rfl (lv_at hl 2 rfl) ?_
  obtain ⟨r4, h5, hf⟩ := bd1_e hf
  refine k_Wi F hK hA hG (c_X2_words l D y a H.size Fu q_settings q_letters q_heats q_starts q_families q_generations q_tally q_stories q_nextFamily q_splits q_boilings q_fizzles r4 h5) (cwV 0 F.2.2.2.2 gX2_remove_X2_words rfl rfl rfl (by decide +kernel) ⟨Nat.le_of_ble_eq_true rfl, Nat.le_of_ble_eq_true rfl⟩) 0 rfl rfl rfl rfl rfl hl.1 (Nat.le_of_ble_eq_true rfl) dX2_remove_17 ⟨Nat.le_refl 0, Nat.le_refl 0⟩ (fun H locs hG => ?_)
  refine lv_iload_n hx hb dX2_remove_20 rfl (lv_at hl 0 rfl) ?_
  refine lv_isub hx hb dX2_remove_21 ?_
  refine lv_istore (lv' := [(4, .int (r4 - v3)), (3, .int v3), (2, .int (q_starts (p1).toNatClampNeg)), (0, .ref (a 0)), (1, .int p1)]) hx hb dX2_remove_22 hl (by decide) rfl (fun ls hl => ?_)
  refine lv_aload_n hx hb dX2_remove_24 rfl (lv_at hl 3 rfl) ?_
  refine w_get2 F hK hG k1 0 rfl 7 (by decide) k2 rfl dX2_remove_25 ?_
  refine lv_iconst (v := nI 1) hx hb dX2_remove_28 rfl ?_
  refine lv_isub hx hb dX2_remove_29 ?_
  refine lv_iload_n hx hb dX2_remove_30 rfl (lv_at hl 4 rfl) ?_
  refine lv_isub hx hb dX2_remove_31 ?_
  refine lv_istore (lv' := [(5, .int ((q_stories - (nI 1)) - p1)), (4, .int (r4 - v3)), (3, .int v3), (2, .int (q_starts (p1).toNatClampNeg)), (0, .ref (a 0)), (1, .int p1)]) hx hb dX2_remove_32 hl (by decide) rfl (fun ls hl => ?_)
  refine lv_aload_n hx hb dX2_remove_34 rfl (lv_at hl 4 rfl) ?_
  refine w_get2 F hK hG k1 0 rfl 1 (by decide) k3 rfl dX2_remove_35 ?_
  refine lv_iload_n hx hb dX2_remove_38 rfl (lv_at hl 2 rfl) ?_
  refine lv_aload_n hx hb dX2_remove_39 rfl (lv_at hl 4 rfl) ?_
  refine w_get2 F hK hG k1 0 rfl 1 (by decide) k3 rfl dX2_remove_40 ?_
  refine lv_iload_n hx hb dX2_remove_43 rfl (lv_at hl 3 rfl) ?_
  refine lv_iload hx hb dX2_remove_44 (lv_at hl 1 rfl) ?_
  obtain ⟨g6, hf⟩ := gd_e hf
  refine w_copy F hK hG hl.1 k4 k5 k6 k7 2 2 rfl rfl g6 (w_X2 y a q_settings (cpA q_letters q_letters v3 (q_starts (p1).toNatClampNeg) (r4 - v3)) q_heats q_starts q_families q_generations q_tally q_stories q_nextFamily q_splits q_boilings q_fizzles) rfl ⟨Nat.le_of_ble_eq_true rfl, by decide⟩ dX2_remove_46 (fun H locs hG => ?_)
  obtain ⟨q_letters_7, eq_letters_7, hf⟩ := nm_o hf
  rw [← eq_letters_7] at hG
  refine lv_aload_n hx hb dX2_remove_49 rfl (lv_at hl 4 rfl) ?_
  refine w_get2 F hK hG k1 0 rfl 2 (by decide) k8 rfl dX2_remove_50 ?_
  refine lv_iload_n hx hb dX2_remove_53 rfl (lv_at hl 2 rfl) ?_
  refine lv_aload_n hx hb dX2_remove_54 rfl (lv_at hl 4 rfl) ?_
  refine w_get2 F hK hG k1 0 rfl 2 (by decide) k8 rfl dX2_remove_55 ?_
  refine lv_iload_n hx hb dX2_remove_58 rfl (lv_at hl 3 rfl) ?_
  refine lv_iload hx hb dX2_remove_59 (lv_at hl 1 rfl) ?_
  obtain ⟨g8, hf⟩ := gd_e hf
  refine w_copy F hK hG hl.1 k4 k5 k6 k7 3 3 rfl rfl g8 (w_X2 y a q_settings q_letters_7 (cpA q_heats q_heats v3 (q_starts (p1).toNatClampNeg) (r4 - v3)) q_starts q_families q_generations q_tally q_stories q_nextFamily q_splits q_boilings q_fizzles) rfl ⟨Nat.le_of_ble_eq_true rfl, by decide⟩ dX2_remove_61 (fun H locs hG => ?_)
  obtain ⟨q_heats_9, eq_heats_9, hf⟩ := nm_o hf
  rw [← eq_heats_9] at hG
  refine lv_aload_n hx hb dX2_remove_64 rfl (lv_at hl 4 rfl) ?_
  refine w_get2 F hK hG k1 0 rfl 4 (by decide) k9 rfl dX2_remove_65 ?_
  refine lv_iload_n hx hb dX2_remove_68 rfl (lv_at hl 5 rfl) ?_
  refine lv_iconst (v := nI 1) hx hb dX2_remove_69 rfl ?_
  refine lv_iadd hx hb dX2_remove_70 ?_
  refine lv_aload_n hx hb dX2_remove_71 rfl (lv_at hl 4 rfl) ?_
  refine w_get2 F hK hG k1 0 rfl 4 (by decide) k9 rfl dX2_remove_72 ?_
  refine lv_iload_n hx hb dX2_remove_75 rfl (lv_at hl 5 rfl) ?_
  refine lv_iload hx hb dX2_remove_76 (lv_at hl 0 rfl) ?_
  obtain ⟨g10, hf⟩ := gd_e hf
  refine w_copy F hK hG hl.1 k4 k5 k6 k7 5 5 rfl rfl g10 (w_X2 y a q_settings q_letters_7 q_heats_9 q_starts (cpA q_families q_families (p1 + (nI 1)) p1 ((q_stories - (nI 1)) - p1)) q_generations q_tally q_stories q_nextFamily q_splits q_boilings q_fizzles) rfl ⟨Nat.le_of_ble_eq_true rfl, by decide⟩ dX2_remove_78 (fun H locs hG => ?_)
  obtain ⟨q_families_11, eq_families_11, hf⟩ := nm_o hf
  rw [← eq_families_11] at hG
  refine lv_aload_n hx hb dX2_remove_81 rfl (lv_at hl 4 rfl) ?_
  refine w_get2 F hK hG k1 0 rfl 5 (by decide) k10 rfl dX2_remove_82 ?_
  refine lv_iload_n hx hb dX2_remove_85 rfl (lv_at hl 5 rfl) ?_
  refine lv_iconst (v := nI 1) hx hb dX2_remove_86 rfl ?_
  refine lv_iadd hx hb dX2_remove_87 ?_
  refine lv_aload_n hx hb dX2_remove_88 rfl (lv_at hl 4 rfl) ?_
  refine w_get2 F hK hG k1 0 rfl 5 (by decide) k10 rfl dX2_remove_89 ?_
  refine lv_iload_n hx hb dX2_remove_92 rfl (lv_at hl 5 rfl) ?_
  refine lv_iload hx hb dX2_remove_93 (lv_at hl 0 rfl) ?_
  obtain ⟨g12, hf⟩ := gd_e hf
  refine w_copy F hK hG hl.1 k4 k5 k6 k7 6 6 rfl rfl g12 (w_X2 y a q_settings q_letters_7 q_heats_9 q_starts q_families_11 (cpA q_generations q_generations (p1 + (nI 1)) p1 ((q_stories - (nI 1)) - p1)) q_tally q_stories q_nextFamily q_splits q_boilings q_fizzles) rfl ⟨Nat.le_of_ble_eq_true rfl, by decide⟩ dX2_remove_95 (fun H locs hG => ?_)
  obtain ⟨q_generations_13, eq_generations_13, hf⟩ := nm_o hf
  rw [← eq_generations_13] at hG
  refine lv_iload_n hx hb dX2_remove_98 rfl (lv_at hl 5 rfl) ?_
  refine lv_istore (lv' := [(6, .int p1), (5, .int ((q_stories - (nI 1)) - p1)), (4, .int (r4 - v3)), (3, .int v3), (2, .int (q_starts (p1).toNatClampNeg)), (0, .ref (a 0)), (1, .int p1)]) hx hb dX2_remove_99 hl (by decide) rfl (fun ls hl => ?_)
  obtain ⟨k_101, ek_101, hf⟩ := jn_e hf
  have hk_101 : ∀ (q_starts_20 : Ar) (H : Heap) (locs : List Loc) (ls : Array Slot), k_101 q_starts_20 = some (q_letters_o, q_heats_o, q_starts_o, q_families_o, q_generations_o, q_stories_o) → GG D A s.heap (w_X2 y a q_settings q_letters_7 q_heats_9 q_starts_20 q_families_11 q_generations_13 q_tally q_stories q_nextFamily q_splits q_boilings q_fizzles) H locs → lv_has ls 7 [(0, .ref (a 0))] → W p l e (RM 1 40) s m args below meth c H locs 0 0 Q (F0 m 136 ls []) := by
    intro q_starts_20 H locs ls hf hG hl
    rw [ek_101] at hf
    refine lv_aload_n hx hb dX2_remove_136 rfl (lv_at hl 0 rfl) ?_
    refine lv_dup hx hb dX2_remove_137 rfl ?_
    refine w_get2 F hK hG k1 0 rfl 7 (by decide) k2 rfl dX2_remove_138 ?_
    refine lv_iconst (v := nI 1) hx hb dX2_remove_141 rfl ?_
    refine lv_isub hx hb dX2_remove_142 ?_
    refine w_put2 F hK hG k1 0 rfl 7 (by decide) k2 rfl rfl rfl (Nat.le_of_ble_eq_true rfl) (w_X2 y a q_settings q_letters_7 q_heats_9 q_starts_20 q_families_11 q_generations_13 q_tally (q_stories - (nI 1)) q_nextFamily q_splits q_boilings q_fizzles) rfl dX2_remove_143 (fun H locs hG => ?_)
    have hf := so_e hf
    have e0 : q_letters_7 = q_letters_o := congrArg (fun z => z.1) hf
    have e1 : q_heats_9 = q_heats_o := congrArg (fun z => z.2.1) hf
    have e2 : q_starts_20 = q_starts_o := congrArg (fun z => z.2.2.1) hf
    have e3 : q_families_11 = q_families_o := congrArg (fun z => z.2.2.2.1) hf
    have e4 : q_generations_13 = q_generations_o := congrArg (fun z => z.2.2.2.2.1) hf
    have e5 : (q_stories - (nI 1)) = q_stories_o := congrArg (fun z => z.2.2.2.2.2) hf
    exact hret _ _ _ _ (by rw [← e0, ← e1, ← e2, ← e3, ← e4, ← e5]; exact hG) dX2_remove_146
  have hL101 : ∀ (fu : Nat) (x14 : Int32) (q_starts_15 : Ar) (H : Heap) (locs : List Loc) (ls : Array Slot), f_X2_remove_L101 Fu k_101 q_starts q_stories p1 v3 fu x14 q_starts_15 = some (q_letters_o, q_heats_o, q_starts_o, q_families_o, q_generations_o, q_stories_o) → GG D A s.heap (w_X2 y a q_settings q_letters_7 q_heats_9 q_starts_15 q_families_11 q_generations_13 q_tally q_stories q_nextFamily q_splits q_boilings q_fizzles) H locs → lv_has ls 7 [(0, .ref (a 0)), (2, .int (q_starts (p1).toNatClampNeg)), (3, .int v3), (6, .int x14)] → W p l e (RM 1 40) s m args below meth c H locs 0 0 Q (F0 m 101 ls []) := by
    intro fu
    induction fu with
    | zero => intro x14 q_starts_15 H locs ls hf hG hl; exact no_e hf
    | succ fu ih =>
      intro x14 q_starts_15 H locs ls hf hG hl
      rw [f_X2_remove_L101_s] at hf
      refine lv_iload hx hb dX2_remove_101 (lv_at hl 3 rfl) ?_
      refine lv_aload_n hx hb dX2_remove_103 rfl (lv_at hl 0 rfl) ?_
      refine w_get2 F hK hG k1 0 rfl 7 (by decide) k2 rfl dX2_remove_104 ?_
      refine lv_icmp_ge (tgt := 136) hx hb dX2_remove_107 (by decide) (fun c16 => ?_) (fun c16 => ?_)
      · have hf := it_e c16 hf
        exact hk_101 q_starts_15 _ _ ls hf hG (lv_sub hl [0] rfl)
      · have hf := if_e c16 hf
        refine lv_aload_n hx hb dX2_remove_110 rfl (lv_at hl 0 rfl) ?_
        refine w_get2 F hK hG k1 0 rfl 3 (by decide) k0 rfl dX2_remove_111 ?_
        refine lv_iload hx hb dX2_remove_114 (lv_at hl 3 rfl) ?_
        refine lv_aload_n hx hb dX2_remove_116 rfl (lv_at hl 0 rfl) ?_
        refine w_get2 F hK hG k1 0 rfl 3 (by decide) k0 rfl dX2_remove_117 ?_
        refine lv_iload hx hb dX2_remove_120 (lv_at hl 3 rfl) ?_
        refine lv_iconst (v := nI 1) hx hb dX2_remove_122 rfl ?_
        refine lv_iadd hx hb dX2_remove_123 ?_
        obtain ⟨g17, hf⟩ := gd_e hf
        refine w_iald F hK hG 4 rfl g17 dX2_remove_124 ?_
        refine lv_iload_n hx hb dX2_remove_125 rfl (lv_at hl 2 rfl) ?_
        refine lv_iload_n hx hb dX2_remove_126 rfl (lv_at hl 1 rfl) ?_
        refine lv_isub hx hb dX2_remove_127 ?_
        refine lv_isub hx hb dX2_remove_128 ?_
        obtain ⟨g18, hf⟩ := gd_e hf
        refine w_iast F hK hG 4 rfl g18 (w_X2 y a q_settings q_letters_7 q_heats_9 (upd q_starts_15 (x14).toNatClampNeg ((q_starts_15 (x14 + (nI 1)).toNatClampNeg) - (v3 - (q_starts (p1).toNatClampNeg)))) q_families_11 q_generations_13 q_tally q_stories q_nextFamily q_splits q_boilings q_fizzles) rfl dX2_remove_129 (fun H locs hG => ?_)
        obtain ⟨q_starts_19, eq_starts_19, hf⟩ := nm_o hf
        rw [← eq_starts_19] at hG
        refine lv_iinc (v := x14 + (nI 1)) (lv' := [(6, .int (x14 + (nI 1))), (0, .ref (a 0)), (2, .int (q_starts (p1).toNatClampNeg)), (3, .int v3)]) hx hb dX2_remove_130 hl (k := 3) rfl rfl (by decide) rfl (fun ls hl => ?_)
        refine lv_goto (tgt := 101) hx hb dX2_remove_133 (by decide) ?_
        exact ih (x14 + (nI 1)) q_starts_19 _ _ ls hf hG (lv_sub hl [1, 2, 3, 0] rfl)
  exact hL101 Fu p1 q_starts _ _ ls hf hG (lv_sub hl [5, 4, 3, 0] rfl)
set_option maxHeartbeats 1000000 in
set_option maxRecDepth 100000 in
theorem c_X2_append (l : Launch) (D : va_G) (y : Nat → ClassId) (a b : Nat → Nat) (sz : Nat) (Fu : Nat) (q_settings : Ar) (q_letters : Ar) (q_heats : Ar) (q_starts : Ar) (q_families : Ar) (q_generations : Ar) (q_tally : Ar) (q_stories : Int32) (q_nextFamily : Int32) (q_splits : Int32) (q_boilings : Int32) (q_fizzles : Int32) (o_settings : Ar) (o_letters : Ar) (o_heats : Ar) (o_starts : Ar) (o_families : Ar) (o_generations : Ar) (o_tally : Ar) (o_stories : Int32) (o_nextFamily : Int32) (o_splits : Int32) (o_boilings : Int32) (o_fizzles : Int32) (p1 : Int32) (p3 : Int32) (q_letters_o : Ar) (q_heats_o : Ar) (q_starts_o : Ar) (hf : f_X2_append Fu q_letters q_heats q_starts q_stories o_letters o_heats o_starts p1 p3 = some (q_letters_o, q_heats_o, q_starts_o)) : MV l yX2_append wsX2_append 1 40 [.ref (a 0), .int p1, .ref (b 0), .int p3] D y (w_X2 y a q_settings q_letters q_heats q_starts q_families q_generations q_tally q_stories q_nextFamily q_splits q_boilings q_fizzles ++ w_X2 y b o_settings o_letters o_heats o_starts o_families o_generations o_tally o_stories o_nextFamily o_splits o_boilings o_fizzles) sz (w_X2 y a q_settings q_letters_o q_heats_o q_starts_o q_families q_generations q_tally q_stories q_nextFamily q_splits q_boilings q_fizzles ++ w_X2 y b o_settings o_letters o_heats o_starts o_families o_generations o_tally o_stories o_nextFamily o_splits o_boilings o_fizzles) := by
  refine M_v (cc := cX2_append) (maxL := 9) (own := RX2) (by decide) rfl rfl (Nat.le_of_ble_eq_true rfl) ?_
  intro p e s m args below meth c A Q F hK hA H locs hG hret ls hl
  have hx := F.1
  have hb := F.2.1
  have hl : lv_has ls 9 [(0, .ref (a 0)), (1, .int p1), (2, .ref (b 0)), (3, .int p3)] := hl
  have k0 := F.2.2.2.2 (.fieldLink RX2 21 "HeatedStories$Shelf" "starts" "[I") (List.mem_of_getElem? (i := 1) rfl)
  have k1 : ∀ w ∈ wsX20, w ∈ wsX2_append := (fun w h => List.mem_cons_of_mem _ (List.mem_append_right _ (h)))
  have k2 := F.2.2.2.2 (.fieldLink RX2 15 "HeatedStories$Shelf" "letters" "[I") (List.mem_of_getElem? (i := 2) rfl)
  have k3 := F.2.2.2.2 (.methodLink RX2 37 arraycopyName) (List.mem_of_getElem? (i := 3) rfl)
  have k4 := F.2.2.2.2 (.native arraycopyName) (List.mem_of_getElem? (i := 4) rfl)
  have k5 := F.2.2.2.2 (.static arraycopyName) (List.mem_of_getElem? (i := 5) rfl)
  have k6 := F.2.2.2.2 (.initialized "java/lang/System") (List.mem_of_getElem? (i := 6) rfl)
  have k7 := F.2.2.2.2 (.fieldLink RX2 18 "HeatedStories$Shelf" "heats" "[I") (List.mem_of_getElem? (i := 7) rfl)
  have k8 := F.2.2.2.2 (.fieldLink RX2 43 "HeatedStories$Shelf" "stories" "I") (List.mem_of_getElem? (i := 8) rfl)
  unfold f_X2_append at hf
  refine lv_aload_n hx hb dX2_append_0 rfl (lv_at hl 0 rfl) ?_
  refine w_get2 F hK hG k1 0 rfl 3 (by decide) k0 rfl dX2_append_1 ?_
  refine lv_iload_n hx hb dX2_append_4 rfl (lv_at hl 1 rfl) ?_
  refine lv_iconst (v := nI 1) hx hb dX2_append_5 rfl ?_
  refine lv_iadd hx hb dX2_append_6 ?_
  obtain ⟨g1, hf⟩ := gd_e hf
  refine w_iald F hK hG 4 rfl g1 dX2_append_7 ?_
  obtain ⟨v2, ev2, hf⟩ := nm_o hf
  refine w_nm ev2 ?_
  refine lv_istore (lv' := [(4, .int v2), (0, .ref (a 0)), (1, .int p1), (2, .ref (b 0)), (3, .int p3)]) hx hb dX2_append_8 hl (by decide) rfl (fun ls hl => ?_)
  refine lv_aload_n hx hb dX2_append_10 rfl (lv_at hl 3 rfl) ?_
  refine w_get2 F hK hG k1 8 rfl 3 (by decide) k0 rfl dX2_append_11 ?_
  refine lv_iload_n hx hb dX2_append_14 rfl (lv_at hl 4 rfl) ?_
  obtain ⟨g3, hf⟩ := gd_e hf
  refine w_iald F hK hG 12 rfl g3 dX2_append_15 ?_
  refine lv_istore (lv' := [(5, .int (o_starts (p3).toNatClampNeg)), (4, .int v2), (0, .ref (a 0)), (1, .int p1), (2, .ref (b 0)), (3, .int p3)]) hx hb dX2_append_16 hl (by decide) rfl (fun ls hl => ?_)
  refine lv_aload_n hx hb dX2_append_18 rfl (lv_at hl 4 rfl) ?_
  refine lv_iload_n hx hb dX2_append_19 rfl (lv_at hl 5 rfl) ?_
  obtain ⟨r4, h5, hf⟩ := bd1_e hf
  refine k_Vi F hK hA hG (c_X2_sizeOf l D y b H.size Fu o_settings o_letters o_heats o_starts o_families o_generations o_tally o_stories o_nextFamily o_splits o_boilings o_fizzles p3 r4 h5) (cwV 1 F.2.2.2.2 gX2_append_X2_sizeOf rfl rfl rfl (by decide +kernel) ⟨Nat.le_of_ble_eq_true rfl, Nat.le_of_ble_eq_true rfl⟩) 0 rfl rfl [8, 9, 10, 11, 12, 13, 14, 15] rfl rfl rfl (w_X2 y a q_settings q_letters q_heats q_starts q_families q_generations q_tally q_stories q_nextFamily q_splits q_boilings q_fizzles ++ w_X2 y b o_settings o_letters o_heats o_starts o_families o_generations o_tally o_stories o_nextFamily o_splits o_boilings o_fizzles) rfl rfl rfl hl.1 (Nat.le_of_ble_eq_true rfl) dX2_append_20 ⟨Nat.le_refl 0, Nat.le_refl 0⟩ (fun H locs hG => ?_)
  refine lv_istore (lv' := [(6, .int r4), (5, .int (o_starts (p3).toNatClampNeg)), (4, .int v2), (0, .ref (a 0)), (1, .int p1), (2, .ref (b 0)), (3, .int p3)]) hx hb dX2_append_23 hl (by decide) rfl (fun ls hl => ?_)
  refine lv_aload_n hx hb dX2_append_25 rfl (lv_at hl 3 rfl) ?_
  obtain ⟨r6, h7, hf⟩ := bd1_e hf
  refine k_Vi F hK hA hG (c_X2_words l D y a H.size Fu q_settings q_letters q_heats q_starts q_families q_generations q_tally q_stories q_nextFamily q_splits q_boilings q_fizzles r6 h7) (cwV 0 F.2.2.2.2 gX2_append_X2_words rfl rfl rfl (by decide +kernel) ⟨Nat.le_of_ble_eq_true rfl, Nat.le_of_ble_eq_true rfl⟩) 0 rfl rfl [0, 1, 2, 3, 4, 5, 6, 7] rfl rfl rfl (w_X2 y a q_settings q_letters q_heats q_starts q_families q_generations q_tally q_stories q_nextFamily q_splits q_boilings q_fizzles ++ w_X2 y b o_settings o_letters o_heats o_starts o_families o_generations o_tally o_stories o_nextFamily o_splits o_boilings o_fizzles) rfl rfl rfl hl.1 (Nat.le_of_ble_eq_true rfl) dX2_append_26 ⟨Nat.le_refl 0, Nat.le_refl 0⟩ (fun H locs hG => ?_)
  refine lv_iload hx hb dX2_append_29 (lv_at hl 2 rfl) ?_
  refine lv_isub hx hb dX2_append_31 ?_
  refine lv_istore (lv' := [(7, .int (r6 - v2)), (6, .int r4), (5, .int (o_starts (p3).toNatClampNeg)), (4, .int v2), (0, .ref (a 0)), (1, .int p1), (2, .ref (b 0)), (3, .int p3)]) hx hb dX2_append_32 hl (by decide) rfl (fun ls hl => ?_)
  refine lv_aload_n hx hb dX2_append_34 rfl (lv_at hl 4 rfl) ?_
  refine w_get2 F hK hG k1 0 rfl 1 (by decide) k2 rfl dX2_append_35 ?_
  refine lv_iload hx hb dX2_append_38 (lv_at hl 3 rfl) ?_
  refine lv_aload_n hx hb dX2_append_40 rfl (lv_at hl 4 rfl) ?_
  refine w_get2 F hK hG k1 0 rfl 1 (by decide) k2 rfl dX2_append_41 ?_
  refine lv_iload hx hb dX2_append_44 (lv_at hl 3 rfl) ?_
  refine lv_iload hx hb dX2_append_46 (lv_at hl 1 rfl) ?_
  refine lv_iadd hx hb dX2_append_48 ?_
  refine lv_iload hx hb dX2_append_49 (lv_at hl 0 rfl) ?_
  obtain ⟨g8, hf⟩ := gd_e hf
  refine w_copy F hK hG hl.1 k3 k4 k5 k6 2 2 rfl rfl g8 (w_X2 y a q_settings (cpA q_letters q_letters v2 (v2 + r4) (r6 - v2)) q_heats q_starts q_families q_generations q_tally q_stories q_nextFamily q_splits q_boilings q_fizzles ++ w_X2 y b o_settings o_letters o_heats o_starts o_families o_generations o_tally o_stories o_nextFamily o_splits o_boilings o_fizzles) rfl ⟨Nat.le_of_ble_eq_true rfl, by decide⟩ dX2_append_51 (fun H locs hG => ?_)
  refine lv_aload_n hx hb dX2_append_54 rfl (lv_at hl 4 rfl) ?_
  refine w_get2 F hK hG k1 0 rfl 2 (by decide) k7 rfl dX2_append_55 ?_
  refine lv_iload hx hb dX2_append_58 (lv_at hl 3 rfl) ?_
  refine lv_aload_n hx hb dX2_append_60 rfl (lv_at hl 4 rfl) ?_
  refine w_get2 F hK hG k1 0 rfl 2 (by decide) k7 rfl dX2_append_61 ?_
  refine lv_iload hx hb dX2_append_64 (lv_at hl 3 rfl) ?_
  refine lv_iload hx hb dX2_append_66 (lv_at hl 1 rfl) ?_
  refine lv_iadd hx hb dX2_append_68 ?_
  refine lv_iload hx hb dX2_append_69 (lv_at hl 0 rfl) ?_
  obtain ⟨g9, hf⟩ := gd_e hf
  refine w_copy F hK hG hl.1 k3 k4 k5 k6 3 3 rfl rfl g9 (w_X2 y a q_settings (cpA q_letters q_letters v2 (v2 + r4) (r6 - v2)) (cpA q_heats q_heats v2 (v2 + r4) (r6 - v2)) q_starts q_families q_generations q_tally q_stories q_nextFamily q_splits q_boilings q_fizzles ++ w_X2 y b o_settings o_letters o_heats o_starts o_families o_generations o_tally o_stories o_nextFamily o_splits o_boilings o_fizzles) rfl ⟨Nat.le_of_ble_eq_true rfl, by decide⟩ dX2_append_71 (fun H locs hG => ?_)
  refine lv_aload_n hx hb dX2_append_74 rfl (lv_at hl 6 rfl) ?_
  refine w_get2 F hK hG k1 8 rfl 1 (by decide) k2 rfl dX2_append_75 ?_
  refine lv_iload hx hb dX2_append_78 (lv_at hl 2 rfl) ?_
  refine lv_aload_n hx hb dX2_append_80 rfl (lv_at hl 4 rfl) ?_
  refine w_get2 F hK hG k1 0 rfl 1 (by decide) k2 rfl dX2_append_81 ?_
  refine lv_iload hx hb dX2_append_84 (lv_at hl 3 rfl) ?_
  refine lv_iload hx hb dX2_append_86 (lv_at hl 1 rfl) ?_
  obtain ⟨g10, hf⟩ := gd_e hf
  refine w_copy F hK hG hl.1 k3 k4 k5 k6 10 2 rfl rfl g10 (w_X2 y a q_settings (cpA o_letters (cpA q_letters q_letters v2 (v2 + r4) (r6 - v2)) (o_starts (p3).toNatClampNeg) v2 r4) (cpA q_heats q_heats v2 (v2 + r4) (r6 - v2)) q_starts q_families q_generations q_tally q_stories q_nextFamily q_splits q_boilings q_fizzles ++ w_X2 y b o_settings o_letters o_heats o_starts o_families o_generations o_tally o_stories o_nextFamily o_splits o_boilings o_fizzles) rfl ⟨Nat.le_of_ble_eq_true rfl, by decide⟩ dX2_append_88 (fun H locs hG => ?_)
  obtain ⟨q_letters_11, eq_letters_11, hf⟩ := nm_o hf
  rw [← eq_letters_11] at hG
  refine lv_aload_n hx hb dX2_append_91 rfl (lv_at hl 6 rfl) ?_
  refine w_get2 F hK hG k1 8 rfl 2 (by decide) k7 rfl dX2_append_92 ?_
  refine lv_iload hx hb dX2_append_95 (lv_at hl 2 rfl) ?_
  refine lv_aload_n hx hb dX2_append_97 rfl (lv_at hl 4 rfl) ?_
  refine w_get2 F hK hG k1 0 rfl 2 (by decide) k7 rfl dX2_append_98 ?_
  refine lv_iload hx hb dX2_append_101 (lv_at hl 3 rfl) ?_
  refine lv_iload hx hb dX2_append_103 (lv_at hl 1 rfl) ?_
  obtain ⟨g12, hf⟩ := gd_e hf
  refine w_copy F hK hG hl.1 k3 k4 k5 k6 11 3 rfl rfl g12 (w_X2 y a q_settings q_letters_11 (cpA o_heats (cpA q_heats q_heats v2 (v2 + r4) (r6 - v2)) (o_starts (p3).toNatClampNeg) v2 r4) q_starts q_families q_generations q_tally q_stories q_nextFamily q_splits q_boilings q_fizzles ++ w_X2 y b o_settings o_letters o_heats o_starts o_families o_generations o_tally o_stories o_nextFamily o_splits o_boilings o_fizzles) rfl ⟨Nat.le_of_ble_eq_true rfl, by decide⟩ dX2_append_105 (fun H locs hG => ?_)
  obtain ⟨q_heats_13, eq_heats_13, hf⟩ := nm_o hf
  rw [← eq_heats_13] at hG
  refine lv_iload_n hx hb dX2_append_108 rfl (lv_at hl 5 rfl) ?_
  refine lv_iconst (v := nI 1) hx hb dX2_append_109 rfl ?_
  refine lv_iadd hx hb dX2_append_110 ?_
  refine lv_istore (lv' := [(8, .int (p1 + (nI 1))), (7, .int (r6 - v2)), (6, .int r4), (5, .int (o_starts (p3).toNatClampNeg)), (4, .int v2), (0, .ref (a 0)), (1, .int p1), (2, .ref (b 0)), (3, .int p3)]) hx hb dX2_append_111 hl (by decide) rfl (fun ls hl => ?_)
  obtain ⟨k_113, ek_113, hf⟩ := jn_e hf
  have hk_113 : ∀ (q_starts_20 : Ar) (H : Heap) (locs : List Loc) (ls : Array Slot), k_113 q_starts_20 = some (q_letters_o, q_heats_o, q_starts_o) → GG D A s.heap (w_X2 y a q_settings q_letters_11 q_heats_13 q_starts_20 q_families q_generations q_tally q_stories q_nextFamily q_splits q_boilings q_fizzles ++ w_X2 y b o_settings o_letters o_heats o_starts o_families o_generations o_tally o_stories o_nextFamily o_splits o_boilings o_fizzles) H locs → lv_has ls 9 [] → W p l e (RM 1 40) s m args below meth c H locs 0 0 Q (F0 m 140 ls []) := by
    intro q_starts_20 H locs ls hf hG hl
    rw [ek_113] at hf
    have hf := so_e hf
    have e0 : q_letters_11 = q_letters_o := congrArg (fun z => z.1) hf
    have e1 : q_heats_13 = q_heats_o := congrArg (fun z => z.2.1) hf
    have e2 : q_starts_20 = q_starts_o := congrArg (fun z => z.2.2) hf
    exact hret _ _ _ _ (by rw [← e0, ← e1, ← e2]; exact hG) dX2_append_140
  have hL113 : ∀ (fu : Nat) (x14 : Int32) (q_starts_15 : Ar) (H : Heap) (locs : List Loc) (ls : Array Slot), f_X2_append_L113 Fu k_113 q_stories r4 fu x14 q_starts_15 = some (q_letters_o, q_heats_o, q_starts_o) → GG D A s.heap (w_X2 y a q_settings q_letters_11 q_heats_13 q_starts_15 q_families q_generations q_tally q_stories q_nextFamily q_splits q_boilings q_fizzles ++ w_X2 y b o_settings o_letters o_heats o_starts o_families o_generations o_tally o_stories o_nextFamily o_splits o_boilings o_fizzles) H locs → lv_has ls 9 [(0, .ref (a 0)), (6, .int r4), (8, .int x14)] → W p l e (RM 1 40) s m args below meth c H locs 0 0 Q (F0 m 113 ls []) := by
    intro fu
    induction fu with
    | zero => intro x14 q_starts_15 H locs ls hf hG hl; exact no_e hf
    | succ fu ih =>
      intro x14 q_starts_15 H locs ls hf hG hl
      rw [f_X2_append_L113_s] at hf
      refine lv_iload hx hb dX2_append_113 (lv_at hl 2 rfl) ?_
      refine lv_aload_n hx hb dX2_append_115 rfl (lv_at hl 0 rfl) ?_
      refine w_get2 F hK hG k1 0 rfl 7 (by decide) k8 rfl dX2_append_116 ?_
      refine lv_icmp_gt (tgt := 140) hx hb dX2_append_119 (by decide) (fun c16 => ?_) (fun c16 => ?_)
      · have hf := it_e c16 hf
        exact hk_113 q_starts_15 _ _ ls hf hG (lv_sub hl [] rfl)
      · have hf := if_e c16 hf
        refine lv_aload_n hx hb dX2_append_122 rfl (lv_at hl 0 rfl) ?_
        refine w_get2 F hK hG k1 0 rfl 3 (by decide) k0 rfl dX2_append_123 ?_
        refine lv_iload hx hb dX2_append_126 (lv_at hl 2 rfl) ?_
        refine lv_dup2_11 hx hb dX2_append_128 rfl rfl ?_
        obtain ⟨g17, hf⟩ := gd_e hf
        refine w_iald F hK hG 4 rfl g17 dX2_append_129 ?_
        refine lv_iload hx hb dX2_append_130 (lv_at hl 1 rfl) ?_
        refine lv_iadd hx hb dX2_append_132 ?_
        obtain ⟨g18, hf⟩ := gd_e hf
        refine w_iast F hK hG 4 rfl g18 (w_X2 y a q_settings q_letters_11 q_heats_13 (upd q_starts_15 (x14).toNatClampNeg ((q_starts_15 (x14).toNatClampNeg) + r4)) q_families q_generations q_tally q_stories q_nextFamily q_splits q_boilings q_fizzles ++ w_X2 y b o_settings o_letters o_heats o_starts o_families o_generations o_tally o_stories o_nextFamily o_splits o_boilings o_fizzles) rfl dX2_append_133 (fun H locs hG => ?_)
        obtain ⟨q_starts_19, eq_starts_19, hf⟩ := nm_o hf
        rw [← eq_starts_19] at hG
        refine lv_iinc (v := x14 + (nI 1)) (lv' := [(8, .int (x14 + (nI 1))), (0, .ref (a 0)), (6, .int r4)]) hx hb dX2_append_134 hl (k := 2) rfl rfl (by decide) rfl (fun ls hl => ?_)
        refine lv_goto (tgt := 113) hx hb dX2_append_137 (by decide) ?_
        exact ih (x14 + (nI 1)) q_starts_19 _ _ ls hf hG (lv_sub hl [1, 2, 0] rfl)
  exact hL113 Fu (p1 + (nI 1)) q_starts _ _ ls hf hG (lv_sub hl [5, 2, 0] rfl)
set_option maxHeartbeats 1000000 in
set_option maxRecDepth 100000 in
theorem c_X2_isCalm (l : Launch) (D : va_G) (y : Nat → ClassId) (a : Nat → Nat) (sz : Nat) (Fu : Nat) (q_settings : Ar) (q_letters : Ar) (q_heats : Ar) (q_starts : Ar) (q_families : Ar) (q_generations : Ar) (q_tally : Ar) (q_stories : Int32) (q_nextFamily : Int32) (q_splits : Int32) (q_boilings : Int32) (q_fizzles : Int32) (ro : Int32) (hf : f_X2_isCalm Fu q_settings q_heats q_starts q_stories = some (ro)) : MI l yX2_isCalm wsX2_isCalm 1 20 [.ref (a 0)] D y (w_X2 y a q_settings q_letters q_heats q_starts q_families q_generations q_tally q_stories q_nextFamily q_splits q_boilings q_fizzles) sz ro (w_X2 y a q_settings q_letters q_heats q_starts q_families q_generations q_tally q_stories q_nextFamily q_splits q_boilings q_fizzles) := by
  refine M_z (cc := cX2_isCalm) (maxL := 2) (own := RX2) (by decide) rfl rfl (Nat.le_of_ble_eq_true rfl) ?_
  intro p e s m args below meth c A Q F hK hA H locs hG hret ls hl
  have hx := F.1
  have hb := F.2.1
  have hl : lv_has ls 2 [(0, .ref (a 0))] := hl
  have k0 := F.2.2.2.2 (.fieldLink RX2 18 "HeatedStories$Shelf" "heats" "[I") (List.mem_of_getElem? (i := 1) rfl)
  have k1 : ∀ w ∈ wsX20, w ∈ wsX2_isCalm := (fun w h => List.mem_cons_of_mem _ (List.mem_append_right _ (h)))
  have k2 := F.2.2.2.2 (.fieldLink RX2 9 "HeatedStories$Shelf" "settings" "[I") (List.mem_of_getElem? (i := 2) rfl)
  unfold f_X2_isCalm at hf
  refine lv_iconst (v := nI 0) hx hb dX2_isCalm_0 rfl ?_
  refine lv_istore_n (lv' := [(1, .int (nI 0)), (0, .ref (a 0))]) hx hb dX2_isCalm_1 rfl hl (by decide) rfl (fun ls hl => ?_)
  have hL2 : ∀ (fu : Nat) (x1 : Int32) (H : Heap) (locs : List Loc) (ls : Array Slot), f_X2_isCalm_L2 Fu q_settings q_heats q_starts q_stories fu x1 = some (ro) → GG D A s.heap (w_X2 y a q_settings q_letters q_heats q_starts q_families q_generations q_tally q_stories q_nextFamily q_splits q_boilings q_fizzles) H locs → lv_has ls 2 [(0, .ref (a 0)), (1, .int x1)] → W p l e (RM 1 20) s m args below meth c H locs 0 0 Q (F0 m 2 ls []) := by
    intro fu
    induction fu with
    | zero => intro x1 H locs ls hf hG hl; exact no_e hf
    | succ fu ih =>
      intro x1 H locs ls hf hG hl
      rw [f_X2_isCalm_L2_s] at hf
      refine lv_iload_n hx hb dX2_isCalm_2 rfl (lv_at hl 1 rfl) ?_
      refine lv_aload_n hx hb dX2_isCalm_3 rfl (lv_at hl 0 rfl) ?_
      obtain ⟨r2, h3, hf⟩ := bd1_e hf
      refine k_Wi F hK hA hG (c_X2_words l D y a H.size Fu q_settings q_letters q_heats q_starts q_families q_generations q_tally q_stories q_nextFamily q_splits q_boilings q_fizzles r2 h3) (cwV 0 F.2.2.2.2 gX2_isCalm_X2_words rfl rfl rfl (by decide +kernel) ⟨Nat.le_of_ble_eq_true rfl, Nat.le_of_ble_eq_true rfl⟩) 0 rfl rfl rfl rfl rfl hl.1 (Nat.le_of_ble_eq_true rfl) dX2_isCalm_4 ⟨Nat.le_refl 0, Nat.le_refl 0⟩ (fun H locs hG => ?_)
      refine lv_icmp_ge (tgt := 33) hx hb dX2_isCalm_7 (by decide) (fun c4 => ?_) (fun c4 => ?_)
      · have hf := it_e c4 hf
        refine lv_iconst (v := nI 1) hx hb dX2_isCalm_33 rfl ?_
        have hf := so_e hf
        have e0 : (nI 1) = ro := hf
        exact hret _ _ _ _ _ rfl e0 hG dX2_isCalm_34
      · have hf := if_e c4 hf
        refine lv_aload_n hx hb dX2_isCalm_10 rfl (lv_at hl 0 rfl) ?_
        refine w_get2 F hK hG k1 0 rfl 2 (by decide) k0 rfl dX2_isCalm_11 ?_
        refine lv_iload_n hx hb dX2_isCalm_14 rfl (lv_at hl 1 rfl) ?_
        obtain ⟨g5, hf⟩ := gd_e hf
        refine w_iald F hK hG 3 rfl g5 dX2_isCalm_15 ?_
        refine lv_aload_n hx hb dX2_isCalm_16 rfl (lv_at hl 0 rfl) ?_
        refine w_get2 F hK hG k1 0 rfl 0 (by decide) k2 rfl dX2_isCalm_17 ?_
        refine lv_iconst (v := nI 0) hx hb dX2_isCalm_20 rfl ?_
        refine w_ialdk F hK hG 1 rfl (Nat.le_of_ble_eq_true rfl) (Nat.le_of_ble_eq_true rfl) dX2_isCalm_21 ?_
        refine lv_icmp_lt (tgt := 27) hx hb dX2_isCalm_22 (by decide) (fun c6 => ?_) (fun c6 => ?_)
        · have hf := it_e c6 hf
          refine lv_iinc (v := x1 + (nI 1)) (lv' := [(1, .int (x1 + (nI 1))), (0, .ref (a 0))]) hx hb dX2_isCalm_27 hl (k := 1) rfl rfl (by decide) rfl (fun ls hl => ?_)
          refine lv_goto (tgt := 2) hx hb dX2_isCalm_30 (by decide) ?_
          exact ih (x1 + (nI 1)) _ _ ls hf hG (lv_sub hl [1, 0] rfl)
        · have hf := if_e c6 hf
          refine lv_iconst (v := nI 0) hx hb dX2_isCalm_25 rfl ?_
          have hf := so_e hf
          have e0 : (nI 0) = ro := hf
          exact hret _ _ _ _ _ rfl e0 hG dX2_isCalm_26
  exact hL2 Fu (nI 0) _ _ ls hf hG (lv_sub hl [1, 0] rfl)
