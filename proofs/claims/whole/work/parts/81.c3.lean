set_option maxHeartbeats 4000000 in
set_option maxRecDepth 100000 in
theorem lc_wipe {p : Program} {l : Launch} {e : Env} {s : State} {m : MethodId} {below : List Frame} {meth : Method} {c : Code} {Q : State → Prop} {D : va_G} {y : Nat → ClassId} {b L : Nat} {xs : Nat → Int32} {cells slots : Nat} (hc : cells ≤ room_1.cells ∧ slots ≤ room_1.slots) (C0 : LC p s m c b L xs D y) {Fu M : Nat} (hF : 100000000 ≤ Fu) (hM : M ≤ 900000) {i : Nat} (hi : i + 5 ≤ L) {u : UX3} {v : Nat → Nat} {H : Heap} {locs : List Loc} {ls : Array Slot} (hl : lv_has ls 4 [(0, .ref b), (1, .ref (u.1 0)), (2, .ref (v 0)), (3, .int (nI i))]) (inv : LInv D y s u v M H locs)
    (next : ∀ (H : Heap) (locs : List Loc), LInv D y s u v (M + 12) H locs → W p l e room_1 s m #[Value.ref b] below meth c H locs cells slots Q (F0 m 829 ls [])) : W p l e room_1 s m #[Value.ref b] below meth c H locs cells slots Q (F0 m 744 ls []) := by
  obtain ⟨F, hK, hZ, hX, hbl, hL⟩ := C0
  have hx := F.1
  have hb := F.2.1
  have hA : ∀ q, s.heap.size ≤ q → lA s q := fun _ h => h
  have hbA : ¬ lA s b := Nat.not_le.mpr hbl
  obtain ⟨a, pa, na, ta, ha, hsb, sl, ssb⟩ := u
  have hl : lv_has ls 4 [(0, .ref b), (1, .ref (a 0)), (2, .ref (v 0)), (3, .int (nI i))] := hl
  obtain ⟨q_saved, q_runs, q_themes, q_storyHeats, p_characters, p_length, n_settings, n_letters, n_heats, n_starts, n_families, n_generations, n_tally, n_stories, n_nextFamily, n_splits, n_boilings, n_fizzles, t_settings, t_letters, t_heats, t_starts, t_families, t_generations, t_tally, t_stories, t_nextFamily, t_splits, t_boilings, t_fizzles, h_v, h_oldest, h_size, s_v, r_s, r_aside, r_before, r_known, r_slots, r_isSaved, r_pad, r_length, r_letters, r_heats, r_reactions, r_newSplits, r_storiesThen, r_heatThen, r_place, r_isWrong, r_toldLetter, r_toldHeat, r_toldStory, r_toldWords, r_toldStories, hR, hG⟩ := inv
  obtain ⟨ro, p_length_o, r_length_o, e1, e2, hR⟩ := st_wipe hF hM q_saved p_characters p_length n_settings n_letters n_heats n_starts n_families n_generations n_stories n_nextFamily n_splits n_boilings n_fizzles h_v h_oldest h_size s_v r_s r_before r_known r_slots r_isSaved r_pad r_length   hR
  refine lv_aload_n hx hb dL_law_744 rfl (lv_at hl 1 rfl) ?_
  refine k_Pi F hK hA hG (c_X3_wipe l D y a pa na ta ha hsb sl ssb H.size Fu q_saved q_runs q_themes q_storyHeats p_characters p_length n_settings n_letters n_heats n_starts n_families n_generations n_tally n_stories n_nextFamily n_splits n_boilings n_fizzles t_settings t_letters t_heats t_starts t_families t_generations t_tally t_stories t_nextFamily t_splits t_boilings t_fizzles h_v h_oldest h_size s_v  ro p_length_o e1) (cwV 0 F.2.2.2.2 gL_law_X3_wipe rfl rfl rfl (by decide +kernel) ⟨Nat.le_of_ble_eq_true rfl, Nat.le_of_ble_eq_true rfl⟩) 0 rfl rfl (adr_app rfl (adr_app rfl (adr_app rfl (adr_app rfl (adr_app (adr_X0 ..) (adr_SL ..)))))) rfl rfl hl.1 (Nat.le_of_ble_eq_true rfl) dL_law_745 hc (fun H locs hG => ?_)
  have hG := hG.perm List.perm_append_comm
  refine lv_aload_n hx hb dL_law_748 rfl (lv_at hl 2 rfl) ?_
  refine k_Pi F hK hA hG (c_X4_wipe l D y v H.size Fu r_s r_aside r_before r_known r_slots r_isSaved r_pad r_length r_letters r_heats r_reactions r_newSplits r_storiesThen r_heatThen r_place r_isWrong r_toldLetter r_toldHeat r_toldStory r_toldWords r_toldStories  ro r_length_o e2) (cwV 0 F.2.2.2.2 gL_law_X4_wipe rfl rfl rfl (by decide +kernel) ⟨Nat.le_of_ble_eq_true rfl, Nat.le_of_ble_eq_true rfl⟩) 0 rfl rfl rfl rfl rfl hl.1 (Nat.le_of_ble_eq_true rfl) dL_law_749 hc (fun H locs hG => ?_)
  refine lv_icmp_eq (tgt := 829) hx hb dL_law_752 (by decide) (fun _ => ?_) (fun h => absurd rfl h)
  exact next H locs ⟨q_saved, q_runs, q_themes, q_storyHeats, p_characters, p_length_o, n_settings, n_letters, n_heats, n_starts, n_families, n_generations, n_tally, n_stories, n_nextFamily, n_splits, n_boilings, n_fizzles, t_settings, t_letters, t_heats, t_starts, t_families, t_generations, t_tally, t_stories, t_nextFamily, t_splits, t_boilings, t_fizzles, h_v, h_oldest, h_size, s_v, r_s, r_aside, r_before, r_known, r_slots, r_isSaved, r_pad, r_length_o, r_letters, r_heats, r_reactions, r_newSplits, r_storiesThen, r_heatThen, r_place, r_isWrong, r_toldLetter, r_toldHeat, r_toldStory, r_toldWords, r_toldStories, hR, hG.perm List.perm_append_comm⟩
set_option maxHeartbeats 4000000 in
set_option maxRecDepth 100000 in
theorem lc_fault {p : Program} {l : Launch} {e : Env} {s : State} {m : MethodId} {below : List Frame} {meth : Method} {c : Code} {Q : State → Prop} {D : va_G} {y : Nat → ClassId} {b L : Nat} {xs : Nat → Int32} {cells slots : Nat} (hc : cells ≤ room_1.cells ∧ slots ≤ room_1.slots) (C0 : LC p s m c b L xs D y) {Fu M : Nat} (hF : 100000000 ≤ Fu) (hM : M ≤ 900000) {i : Nat} (hi : i + 5 ≤ L) {u : UX3} {v : Nat → Nat} {H : Heap} {locs : List Loc} {ls : Array Slot} (hl : lv_has ls 4 [(0, .ref b), (1, .ref (u.1 0)), (2, .ref (v 0)), (3, .int (nI i))]) (inv : LInv D y s u v M H locs)
    (next : ∀ (H : Heap) (locs : List Loc), LInv D y s u v (M + 12) H locs → W p l e room_1 s m #[Value.ref b] below meth c H locs cells slots Q (F0 m 829 ls [])) : W p l e room_1 s m #[Value.ref b] below meth c H locs cells slots Q (F0 m 757 ls []) := by
  obtain ⟨F, hK, hZ, hX, hbl, hL⟩ := C0
  have hx := F.1
  have hb := F.2.1
  have hA : ∀ q, s.heap.size ≤ q → lA s q := fun _ h => h
  have hbA : ¬ lA s b := Nat.not_le.mpr hbl
  obtain ⟨a, pa, na, ta, ha, hsb, sl, ssb⟩ := u
  have hl : lv_has ls 4 [(0, .ref b), (1, .ref (a 0)), (2, .ref (v 0)), (3, .int (nI i))] := hl
  obtain ⟨q_saved, q_runs, q_themes, q_storyHeats, p_characters, p_length, n_settings, n_letters, n_heats, n_starts, n_families, n_generations, n_tally, n_stories, n_nextFamily, n_splits, n_boilings, n_fizzles, t_settings, t_letters, t_heats, t_starts, t_families, t_generations, t_tally, t_stories, t_nextFamily, t_splits, t_boilings, t_fizzles, h_v, h_oldest, h_size, s_v, r_s, r_aside, r_before, r_known, r_slots, r_isSaved, r_pad, r_length, r_letters, r_heats, r_reactions, r_newSplits, r_storiesThen, r_heatThen, r_place, r_isWrong, r_toldLetter, r_toldHeat, r_toldStory, r_toldWords, r_toldStories, hR, hG⟩ := inv
  obtain ⟨ro, r_place_o, r_isWrong_o, r_toldLetter_o, r_toldHeat_o, r_toldStory_o, r_toldWords_o, r_toldStories_o, e1, e2, hR⟩ := st_fault hF hM q_saved p_characters p_length n_settings n_letters n_heats n_starts n_families n_generations n_stories n_nextFamily n_splits n_boilings n_fizzles h_v h_oldest h_size s_v r_s r_before r_known r_slots r_isSaved r_pad r_length r_place r_isWrong r_toldLetter r_toldHeat r_toldStory r_toldWords r_toldStories  hR
  refine lv_aload_n hx hb dL_law_757 rfl (lv_at hl 1 rfl) ?_
  refine k_Pi F hK hA hG (c_X3_fault l D y a pa na ta ha hsb sl ssb H.size Fu q_saved q_runs q_themes q_storyHeats p_characters p_length n_settings n_letters n_heats n_starts n_families n_generations n_tally n_stories n_nextFamily n_splits n_boilings n_fizzles t_settings t_letters t_heats t_starts t_families t_generations t_tally t_stories t_nextFamily t_splits t_boilings t_fizzles h_v h_oldest h_size s_v  ro  e1) (cwV 0 F.2.2.2.2 gL_law_X3_fault rfl rfl rfl (by decide +kernel) ⟨Nat.le_of_ble_eq_true rfl, Nat.le_of_ble_eq_true rfl⟩) 0 rfl rfl (adr_app rfl (adr_app rfl (adr_app rfl (adr_app rfl (adr_app (adr_X0 ..) (adr_SL ..)))))) rfl rfl hl.1 (Nat.le_of_ble_eq_true rfl) dL_law_758 hc (fun H locs hG => ?_)
  have hG := hG.perm List.perm_append_comm
  refine lv_aload_n hx hb dL_law_761 rfl (lv_at hl 2 rfl) ?_
  refine k_Pi F hK hA hG (c_X4_fault l D y v H.size Fu r_s r_aside r_before r_known r_slots r_isSaved r_pad r_length r_letters r_heats r_reactions r_newSplits r_storiesThen r_heatThen r_place r_isWrong r_toldLetter r_toldHeat r_toldStory r_toldWords r_toldStories  ro r_place_o r_isWrong_o r_toldLetter_o r_toldHeat_o r_toldStory_o r_toldWords_o r_toldStories_o e2) (cwV 0 F.2.2.2.2 gL_law_X4_fault rfl rfl rfl (by decide +kernel) ⟨Nat.le_of_ble_eq_true rfl, Nat.le_of_ble_eq_true rfl⟩) 0 rfl rfl rfl rfl rfl hl.1 (Nat.le_of_ble_eq_true rfl) dL_law_762 hc (fun H locs hG => ?_)
  refine lv_icmp_eq (tgt := 829) hx hb dL_law_765 (by decide) (fun _ => ?_) (fun h => absurd rfl h)
  exact next H locs ⟨q_saved, q_runs, q_themes, q_storyHeats, p_characters, p_length, n_settings, n_letters, n_heats, n_starts, n_families, n_generations, n_tally, n_stories, n_nextFamily, n_splits, n_boilings, n_fizzles, t_settings, t_letters, t_heats, t_starts, t_families, t_generations, t_tally, t_stories, t_nextFamily, t_splits, t_boilings, t_fizzles, h_v, h_oldest, h_size, s_v, r_s, r_aside, r_before, r_known, r_slots, r_isSaved, r_pad, r_length, r_letters, r_heats, r_reactions, r_newSplits, r_storiesThen, r_heatThen, r_place_o, r_isWrong_o, r_toldLetter_o, r_toldHeat_o, r_toldStory_o, r_toldWords_o, r_toldStories_o, hR, hG.perm List.perm_append_comm⟩
set_option maxHeartbeats 4000000 in
set_option maxRecDepth 100000 in
theorem lc_undo {p : Program} {l : Launch} {e : Env} {s : State} {m : MethodId} {below : List Frame} {meth : Method} {c : Code} {Q : State → Prop} {D : va_G} {y : Nat → ClassId} {b L : Nat} {xs : Nat → Int32} {cells slots : Nat} (hc : cells ≤ room_1.cells ∧ slots ≤ room_1.slots) (C0 : LC p s m c b L xs D y) {Fu M : Nat} (hF : 100000000 ≤ Fu) (hM : M ≤ 900000) {i : Nat} (hi : i + 5 ≤ L) {u : UX3} {v : Nat → Nat} {H : Heap} {locs : List Loc} {ls : Array Slot} (hl : lv_has ls 4 [(0, .ref b), (1, .ref (u.1 0)), (2, .ref (v 0)), (3, .int (nI i))]) (inv : LInv D y s u v M H locs)
    (next : ∀ (H : Heap) (locs : List Loc), LInv D y s u v (M + 12) H locs → W p l e room_1 s m #[Value.ref b] below meth c H locs cells slots Q (F0 m 829 ls [])) : W p l e room_1 s m #[Value.ref b] below meth c H locs cells slots Q (F0 m 770 ls []) := by
  obtain ⟨F, hK, hZ, hX, hbl, hL⟩ := C0
  have hx := F.1
  have hb := F.2.1
  have hA : ∀ q, s.heap.size ≤ q → lA s q := fun _ h => h
  have hbA : ¬ lA s b := Nat.not_le.mpr hbl
  obtain ⟨a, pa, na, ta, ha, hsb, sl, ssb⟩ := u
  have hl : lv_has ls 4 [(0, .ref b), (1, .ref (a 0)), (2, .ref (v 0)), (3, .int (nI i))] := hl
  obtain ⟨q_saved, q_runs, q_themes, q_storyHeats, p_characters, p_length, n_settings, n_letters, n_heats, n_starts, n_families, n_generations, n_tally, n_stories, n_nextFamily, n_splits, n_boilings, n_fizzles, t_settings, t_letters, t_heats, t_starts, t_families, t_generations, t_tally, t_stories, t_nextFamily, t_splits, t_boilings, t_fizzles, h_v, h_oldest, h_size, s_v, r_s, r_aside, r_before, r_known, r_slots, r_isSaved, r_pad, r_length, r_letters, r_heats, r_reactions, r_newSplits, r_storiesThen, r_heatThen, r_place, r_isWrong, r_toldLetter, r_toldHeat, r_toldStory, r_toldWords, r_toldStories, hR, hG⟩ := inv
  obtain ⟨ro, n_settings_o, n_letters_o, n_heats_o, n_starts_o, n_families_o, n_generations_o, n_stories_o, n_nextFamily_o, n_splits_o, n_boilings_o, n_fizzles_o, h_size_o, r_s_o, r_known_o, e1, e2, hR⟩ := st_undo hF hM q_saved p_characters p_length n_settings n_letters n_heats n_starts n_families n_generations n_stories n_nextFamily n_splits n_boilings n_fizzles h_v h_oldest h_size s_v r_s r_before r_known r_slots r_isSaved r_pad r_length   hR
  refine lv_aload_n hx hb dL_law_770 rfl (lv_at hl 1 rfl) ?_
  refine k_Pi F hK hA hG (c_X3_undo l D y a pa na ta ha hsb sl ssb H.size Fu q_saved q_runs q_themes q_storyHeats p_characters p_length n_settings n_letters n_heats n_starts n_families n_generations n_tally n_stories n_nextFamily n_splits n_boilings n_fizzles t_settings t_letters t_heats t_starts t_families t_generations t_tally t_stories t_nextFamily t_splits t_boilings t_fizzles h_v h_oldest h_size s_v  ro n_settings_o n_letters_o n_heats_o n_starts_o n_families_o n_generations_o n_stories_o n_nextFamily_o n_splits_o n_boilings_o n_fizzles_o h_size_o e1) (cwV 0 F.2.2.2.2 gL_law_X3_undo rfl rfl rfl (by decide +kernel) ⟨Nat.le_of_ble_eq_true rfl, Nat.le_of_ble_eq_true rfl⟩) 0 rfl rfl (adr_app rfl (adr_app rfl (adr_app rfl (adr_app rfl (adr_app (adr_X0 ..) (adr_SL ..)))))) rfl rfl hl.1 (Nat.le_of_ble_eq_true rfl) dL_law_771 hc (fun H locs hG => ?_)
  have hG := hG.perm List.perm_append_comm
  refine lv_aload_n hx hb dL_law_774 rfl (lv_at hl 2 rfl) ?_
  refine k_Pi F hK hA hG (c_X4_undo l D y v H.size Fu r_s r_aside r_before r_known r_slots r_isSaved r_pad r_length r_letters r_heats r_reactions r_newSplits r_storiesThen r_heatThen r_place r_isWrong r_toldLetter r_toldHeat r_toldStory r_toldWords r_toldStories  ro r_s_o r_known_o e2) (cwV 0 F.2.2.2.2 gL_law_X4_undo rfl rfl rfl (by decide +kernel) ⟨Nat.le_of_ble_eq_true rfl, Nat.le_of_ble_eq_true rfl⟩) 0 rfl rfl rfl rfl rfl hl.1 (Nat.le_of_ble_eq_true rfl) dL_law_775 hc (fun H locs hG => ?_)
  refine lv_icmp_eq (tgt := 829) hx hb dL_law_778 (by decide) (fun _ => ?_) (fun h => absurd rfl h)
  exact next H locs ⟨q_saved, q_runs, q_themes, q_storyHeats, p_characters, p_length, n_settings_o, n_letters_o, n_heats_o, n_starts_o, n_families_o, n_generations_o, n_tally, n_stories_o, n_nextFamily_o, n_splits_o, n_boilings_o, n_fizzles_o, t_settings, t_letters, t_heats, t_starts, t_families, t_generations, t_tally, t_stories, t_nextFamily, t_splits, t_boilings, t_fizzles, h_v, h_oldest, h_size_o, s_v, r_s_o, r_aside, r_before, r_known_o, r_slots, r_isSaved, r_pad, r_length, r_letters, r_heats, r_reactions, r_newSplits, r_storiesThen, r_heatThen, r_place, r_isWrong, r_toldLetter, r_toldHeat, r_toldStory, r_toldWords, r_toldStories, hR, hG.perm List.perm_append_comm⟩
set_option maxHeartbeats 4000000 in
set_option maxRecDepth 100000 in
theorem lc_save {p : Program} {l : Launch} {e : Env} {s : State} {m : MethodId} {below : List Frame} {meth : Method} {c : Code} {Q : State → Prop} {D : va_G} {y : Nat → ClassId} {b L : Nat} {xs : Nat → Int32} {cells slots : Nat} (hc : cells ≤ room_1.cells ∧ slots ≤ room_1.slots) (C0 : LC p s m c b L xs D y) {Fu M : Nat} (hF : 100000000 ≤ Fu) (hM : M ≤ 900000) {i : Nat} (hi : i + 5 ≤ L) {u : UX3} {v : Nat → Nat} {H : Heap} {locs : List Loc} {ls : Array Slot} (hl : lv_has ls 4 [(0, .ref b), (1, .ref (u.1 0)), (2, .ref (v 0)), (3, .int (nI i))]) (inv : LInv D y s u v M H locs)
    (next : ∀ (H : Heap) (locs : List Loc), LInv D y s u v (M + 12) H locs → W p l e room_1 s m #[Value.ref b] below meth c H locs cells slots Q (F0 m 829 ls [])) : W p l e room_1 s m #[Value.ref b] below meth c H locs cells slots Q (F0 m 783 ls []) := by
  obtain ⟨F, hK, hZ, hX, hbl, hL⟩ := C0
  have hx := F.1
  have hb := F.2.1
  have hA : ∀ q, s.heap.size ≤ q → lA s q := fun _ h => h
  have hbA : ¬ lA s b := Nat.not_le.mpr hbl
  obtain ⟨a, pa, na, ta, ha, hsb, sl, ssb⟩ := u
  have hl : lv_has ls 4 [(0, .ref b), (1, .ref (a 0)), (2, .ref (v 0)), (3, .int (nI i))] := hl
  obtain ⟨q_saved, q_runs, q_themes, q_storyHeats, p_characters, p_length, n_settings, n_letters, n_heats, n_starts, n_families, n_generations, n_tally, n_stories, n_nextFamily, n_splits, n_boilings, n_fizzles, t_settings, t_letters, t_heats, t_starts, t_families, t_generations, t_tally, t_stories, t_nextFamily, t_splits, t_boilings, t_fizzles, h_v, h_oldest, h_size, s_v, r_s, r_aside, r_before, r_known, r_slots, r_isSaved, r_pad, r_length, r_letters, r_heats, r_reactions, r_newSplits, r_storiesThen, r_heatThen, r_place, r_isWrong, r_toldLetter, r_toldHeat, r_toldStory, r_toldWords, r_toldStories, hR, hG⟩ := inv
  obtain ⟨ro, q_saved_o, s_v_o, r_slots_o, r_isSaved_o, e1, e2, hR⟩ := st_save hF hM q_saved p_characters p_length n_settings n_letters n_heats n_starts n_families n_generations n_stories n_nextFamily n_splits n_boilings n_fizzles h_v h_oldest h_size s_v r_s r_before r_known r_slots r_isSaved r_pad r_length  ((xs (i + 1))) hR
  refine lv_aload_n hx hb dL_law_783 rfl (lv_at hl 1 rfl) ?_
  refine lv_aload_n hx hb dL_law_784 rfl (lv_at hl 0 rfl) ?_
  refine lv_iload_n hx hb dL_law_785 rfl (lv_at hl 3 rfl) ?_
  refine lv_iconst (v := nI 1) hx hb dL_law_786 rfl ?_
  refine lv_iadd hx hb dL_law_787 ?_
  refine w_nm (v := nI (i + 1)) (nI_add i 1).symm ?_
  refine w_sldn hx hb hX hbl hbA hG.2.2 (show i + 1 < L by omega) (by omega) dL_law_788 ?_
  refine k_Pi F hK hA hG (c_X3_save l D y a pa na ta ha hsb sl ssb H.size Fu q_saved q_runs q_themes q_storyHeats p_characters p_length n_settings n_letters n_heats n_starts n_families n_generations n_tally n_stories n_nextFamily n_splits n_boilings n_fizzles t_settings t_letters t_heats t_starts t_families t_generations t_tally t_stories t_nextFamily t_splits t_boilings t_fizzles h_v h_oldest h_size s_v ((xs (i + 1))) ro q_saved_o s_v_o e1) (cwV 1 F.2.2.2.2 gL_law_X3_save rfl rfl rfl (by decide +kernel) ⟨Nat.le_of_ble_eq_true rfl, Nat.le_of_ble_eq_true rfl⟩) 0 rfl rfl (adr_app rfl (adr_app rfl (adr_app rfl (adr_app rfl (adr_app (adr_X0 ..) (adr_SL ..)))))) rfl rfl hl.1 (Nat.le_of_ble_eq_true rfl) dL_law_789 hc (fun H locs hG => ?_)
  have hG := hG.perm List.perm_append_comm
  refine lv_aload_n hx hb dL_law_792 rfl (lv_at hl 2 rfl) ?_
  refine lv_aload_n hx hb dL_law_793 rfl (lv_at hl 0 rfl) ?_
  refine lv_iload_n hx hb dL_law_794 rfl (lv_at hl 3 rfl) ?_
  refine lv_iconst (v := nI 1) hx hb dL_law_795 rfl ?_
  refine lv_iadd hx hb dL_law_796 ?_
  refine w_nm (v := nI (i + 1)) (nI_add i 1).symm ?_
  refine w_sldn hx hb hX hbl hbA hG.2.2 (show i + 1 < L by omega) (by omega) dL_law_797 ?_
  refine k_Pi F hK hA hG (c_X4_save l D y v H.size Fu r_s r_aside r_before r_known r_slots r_isSaved r_pad r_length r_letters r_heats r_reactions r_newSplits r_storiesThen r_heatThen r_place r_isWrong r_toldLetter r_toldHeat r_toldStory r_toldWords r_toldStories ((xs (i + 1))) ro r_slots_o r_isSaved_o e2) (cwV 1 F.2.2.2.2 gL_law_X4_save rfl rfl rfl (by decide +kernel) ⟨Nat.le_of_ble_eq_true rfl, Nat.le_of_ble_eq_true rfl⟩) 0 rfl rfl rfl rfl rfl hl.1 (Nat.le_of_ble_eq_true rfl) dL_law_798 hc (fun H locs hG => ?_)
  refine lv_icmp_eq (tgt := 829) hx hb dL_law_801 (by decide) (fun _ => ?_) (fun h => absurd rfl h)
  exact next H locs ⟨q_saved_o, q_runs, q_themes, q_storyHeats, p_characters, p_length, n_settings, n_letters, n_heats, n_starts, n_families, n_generations, n_tally, n_stories, n_nextFamily, n_splits, n_boilings, n_fizzles, t_settings, t_letters, t_heats, t_starts, t_families, t_generations, t_tally, t_stories, t_nextFamily, t_splits, t_boilings, t_fizzles, h_v, h_oldest, h_size, s_v_o, r_s, r_aside, r_before, r_known, r_slots_o, r_isSaved_o, r_pad, r_length, r_letters, r_heats, r_reactions, r_newSplits, r_storiesThen, r_heatThen, r_place, r_isWrong, r_toldLetter, r_toldHeat, r_toldStory, r_toldWords, r_toldStories, hR, hG.perm List.perm_append_comm⟩
set_option maxHeartbeats 4000000 in
set_option maxRecDepth 100000 in
theorem lc_restore {p : Program} {l : Launch} {e : Env} {s : State} {m : MethodId} {below : List Frame} {meth : Method} {c : Code} {Q : State → Prop} {D : va_G} {y : Nat → ClassId} {b L : Nat} {xs : Nat → Int32} {cells slots : Nat} (hc : cells ≤ room_1.cells ∧ slots ≤ room_1.slots) (C0 : LC p s m c b L xs D y) {Fu M : Nat} (hF : 100000000 ≤ Fu) (hM : M ≤ 900000) {i : Nat} (hi : i + 5 ≤ L) {u : UX3} {v : Nat → Nat} {H : Heap} {locs : List Loc} {ls : Array Slot} (hl : lv_has ls 4 [(0, .ref b), (1, .ref (u.1 0)), (2, .ref (v 0)), (3, .int (nI i))]) (inv : LInv D y s u v M H locs)
    (next : ∀ (H : Heap) (locs : List Loc), LInv D y s u v (M + 12) H locs → W p l e room_1 s m #[Value.ref b] below meth c H locs cells slots Q (F0 m 829 ls [])) : W p l e room_1 s m #[Value.ref b] below meth c H locs cells slots Q (F0 m 806 ls []) := by
  obtain ⟨F, hK, hZ, hX, hbl, hL⟩ := C0
  have hx := F.1
  have hb := F.2.1
  have hA : ∀ q, s.heap.size ≤ q → lA s q := fun _ h => h
  have hbA : ¬ lA s b := Nat.not_le.mpr hbl
  obtain ⟨a, pa, na, ta, ha, hsb, sl, ssb⟩ := u
  have hl : lv_has ls 4 [(0, .ref b), (1, .ref (a 0)), (2, .ref (v 0)), (3, .int (nI i))] := hl
  obtain ⟨q_saved, q_runs, q_themes, q_storyHeats, p_characters, p_length, n_settings, n_letters, n_heats, n_starts, n_families, n_generations, n_tally, n_stories, n_nextFamily, n_splits, n_boilings, n_fizzles, t_settings, t_letters, t_heats, t_starts, t_families, t_generations, t_tally, t_stories, t_nextFamily, t_splits, t_boilings, t_fizzles, h_v, h_oldest, h_size, s_v, r_s, r_aside, r_before, r_known, r_slots, r_isSaved, r_pad, r_length, r_letters, r_heats, r_reactions, r_newSplits, r_storiesThen, r_heatThen, r_place, r_isWrong, r_toldLetter, r_toldHeat, r_toldStory, r_toldWords, r_toldStories, hR, hG⟩ := inv
  obtain ⟨ro, n_settings_o, n_letters_o, n_heats_o, n_starts_o, n_families_o, n_generations_o, n_stories_o, n_nextFamily_o, n_splits_o, n_boilings_o, n_fizzles_o, h_v_o, h_oldest_o, h_size_o, r_s_o, r_before_o, r_known_o, e1, e2, hR⟩ := st_restore hF hM q_saved p_characters p_length n_settings n_letters n_heats n_starts n_families n_generations n_stories n_nextFamily n_splits n_boilings n_fizzles h_v h_oldest h_size s_v r_s r_before r_known r_slots r_isSaved r_pad r_length  ((xs (i + 1))) hR
  refine lv_aload_n hx hb dL_law_806 rfl (lv_at hl 1 rfl) ?_
  refine lv_aload_n hx hb dL_law_807 rfl (lv_at hl 0 rfl) ?_
  refine lv_iload_n hx hb dL_law_808 rfl (lv_at hl 3 rfl) ?_
  refine lv_iconst (v := nI 1) hx hb dL_law_809 rfl ?_
  refine lv_iadd hx hb dL_law_810 ?_
  refine w_nm (v := nI (i + 1)) (nI_add i 1).symm ?_
  refine w_sldn hx hb hX hbl hbA hG.2.2 (show i + 1 < L by omega) (by omega) dL_law_811 ?_
  refine k_Pi F hK hA hG (c_X3_restore l D y a pa na ta ha hsb sl ssb H.size Fu q_saved q_runs q_themes q_storyHeats p_characters p_length n_settings n_letters n_heats n_starts n_families n_generations n_tally n_stories n_nextFamily n_splits n_boilings n_fizzles t_settings t_letters t_heats t_starts t_families t_generations t_tally t_stories t_nextFamily t_splits t_boilings t_fizzles h_v h_oldest h_size s_v ((xs (i + 1))) ro n_settings_o n_letters_o n_heats_o n_starts_o n_families_o n_generations_o n_stories_o n_nextFamily_o n_splits_o n_boilings_o n_fizzles_o h_v_o h_oldest_o h_size_o e1) (cwV 1 F.2.2.2.2 gL_law_X3_restore rfl rfl rfl (by decide +kernel) ⟨Nat.le_of_ble_eq_true rfl, Nat.le_of_ble_eq_true rfl⟩) 0 rfl rfl (adr_app rfl (adr_app rfl (adr_app rfl (adr_app rfl (adr_app (adr_X0 ..) (adr_SL ..)))))) rfl rfl hl.1 (Nat.le_of_ble_eq_true rfl) dL_law_812 hc (fun H locs hG => ?_)
  have hG := hG.perm List.perm_append_comm
  refine lv_aload_n hx hb dL_law_815 rfl (lv_at hl 2 rfl) ?_
  refine lv_aload_n hx hb dL_law_816 rfl (lv_at hl 0 rfl) ?_
  refine lv_iload_n hx hb dL_law_817 rfl (lv_at hl 3 rfl) ?_
  refine lv_iconst (v := nI 1) hx hb dL_law_818 rfl ?_
  refine lv_iadd hx hb dL_law_819 ?_
  refine w_nm (v := nI (i + 1)) (nI_add i 1).symm ?_
  refine w_sldn hx hb hX hbl hbA hG.2.2 (show i + 1 < L by omega) (by omega) dL_law_820 ?_
  refine k_Pi F hK hA hG (c_X4_restore l D y v H.size Fu r_s r_aside r_before r_known r_slots r_isSaved r_pad r_length r_letters r_heats r_reactions r_newSplits r_storiesThen r_heatThen r_place r_isWrong r_toldLetter r_toldHeat r_toldStory r_toldWords r_toldStories ((xs (i + 1))) ro r_s_o r_before_o r_known_o e2) (cwV 1 F.2.2.2.2 gL_law_X4_restore rfl rfl rfl (by decide +kernel) ⟨Nat.le_of_ble_eq_true rfl, Nat.le_of_ble_eq_true rfl⟩) 0 rfl rfl rfl rfl rfl hl.1 (Nat.le_of_ble_eq_true rfl) dL_law_821 hc (fun H locs hG => ?_)
  refine lv_icmp_eq (tgt := 829) hx hb dL_law_824 (by decide) (fun _ => ?_) (fun h => absurd rfl h)
  exact next H locs ⟨q_saved, q_runs, q_themes, q_storyHeats, p_characters, p_length, n_settings_o, n_letters_o, n_heats_o, n_starts_o, n_families_o, n_generations_o, n_tally, n_stories_o, n_nextFamily_o, n_splits_o, n_boilings_o, n_fizzles_o, t_settings, t_letters, t_heats, t_starts, t_families, t_generations, t_tally, t_stories, t_nextFamily, t_splits, t_boilings, t_fizzles, h_v_o, h_oldest_o, h_size_o, s_v, r_s_o, r_aside, r_before_o, r_known_o, r_slots, r_isSaved, r_pad, r_length, r_letters, r_heats, r_reactions, r_newSplits, r_storiesThen, r_heatThen, r_place, r_isWrong, r_toldLetter, r_toldHeat, r_toldStory, r_toldWords, r_toldStories, hR, hG.perm List.perm_append_comm⟩
