set_option maxHeartbeats 4000000 in
set_option maxRecDepth 100000 in
theorem lc_burn {p : Program} {l : Launch} {e : Env} {s : State} {m : MethodId} {below : List Frame} {meth : Method} {c : Code} {Q : State → Prop} {D : va_G} {y : Nat → ClassId} {b L : Nat} {xs : Nat → Int32} {cells slots : Nat} (hc : cells ≤ room_1.cells ∧ slots ≤ room_1.slots) (C0 : LC p s m c b L xs D y) {Fu M : Nat} (hF : 100000000 ≤ Fu) (hM : M ≤ 900000) {i : Nat} (hi : i + 5 ≤ L) {u : UX3} {v : Nat → Nat} {H : Heap} {locs : List Loc} {ls : Array Slot} (hl : lv_has ls 4 [(0, .ref b), (1, .ref (u.1 0)), (2, .ref (v 0)), (3, .int (nI i))]) (inv : LInv D y s u v M H locs)
    (next : ∀ (H : Heap) (locs : List Loc), LInv D y s u v (M + 12) H locs → W p l e room_1 s m #[Value.ref b] below meth c H locs cells slots Q (F0 m 829 ls [])) : W p l e room_1 s m #[Value.ref b] below meth c H locs cells slots Q (F0 m 318 ls []) := by
  obtain ⟨F, hK, hZ, hX, hbl, hL⟩ := C0
  have hx := F.1
  have hb := F.2.1
  have hA : ∀ q, s.heap.size ≤ q → lA s q := fun _ h => h
  have hbA : ¬ lA s b := Nat.not_le.mpr hbl
  obtain ⟨a, pa, na, ta, ha, hsb, sl, ssb⟩ := u
  have hl : lv_has ls 4 [(0, .ref b), (1, .ref (a 0)), (2, .ref (v 0)), (3, .int (nI i))] := hl
  obtain ⟨q_saved, q_runs, q_themes, q_storyHeats, p_characters, p_length, n_settings, n_letters, n_heats, n_starts, n_families, n_generations, n_tally, n_stories, n_nextFamily, n_splits, n_boilings, n_fizzles, t_settings, t_letters, t_heats, t_starts, t_families, t_generations, t_tally, t_stories, t_nextFamily, t_splits, t_boilings, t_fizzles, h_v, h_oldest, h_size, s_v, r_s, r_aside, r_before, r_known, r_slots, r_isSaved, r_pad, r_length, r_letters, r_heats, r_reactions, r_newSplits, r_storiesThen, r_heatThen, r_place, r_isWrong, r_toldLetter, r_toldHeat, r_toldStory, r_toldWords, r_toldStories, hR, hG⟩ := inv
  obtain ⟨ro, n_letters_o, n_heats_o, n_starts_o, n_families_o, n_generations_o, n_stories_o, h_v_o, h_oldest_o, h_size_o, r_s_o, r_before_o, r_known_o, e1, e2, hR⟩ := st_burn hF hM q_saved p_characters p_length n_settings n_letters n_heats n_starts n_families n_generations n_stories n_nextFamily n_splits n_boilings n_fizzles h_v h_oldest h_size s_v r_s r_before r_known r_slots r_isSaved r_pad r_length  ((xs (i + 1))) hR
  refine lv_aload_n hx hb dL_law_318 rfl (lv_at hl 1 rfl) ?_
  refine lv_aload_n hx hb dL_law_319 rfl (lv_at hl 0 rfl) ?_
  refine lv_iload_n hx hb dL_law_320 rfl (lv_at hl 3 rfl) ?_
  refine lv_iconst (v := nI 1) hx hb dL_law_321 rfl ?_
  refine lv_iadd hx hb dL_law_322 ?_
  refine w_nm (v := nI (i + 1)) (nI_add i 1).symm ?_
  refine w_sldn hx hb hX hbl hbA hG.2.2 (show i + 1 < L by omega) (by omega) dL_law_323 ?_
  refine k_Pi F hK hA hG (c_X3_burn l D y a pa na ta ha hsb sl ssb H.size Fu q_saved q_runs q_themes q_storyHeats p_characters p_length n_settings n_letters n_heats n_starts n_families n_generations n_tally n_stories n_nextFamily n_splits n_boilings n_fizzles t_settings t_letters t_heats t_starts t_families t_generations t_tally t_stories t_nextFamily t_splits t_boilings t_fizzles h_v h_oldest h_size s_v ((xs (i + 1))) ro n_letters_o n_heats_o n_starts_o n_families_o n_generations_o n_stories_o h_v_o h_oldest_o h_size_o e1) (cwV 1 F.2.2.2.2 gL_law_X3_burn rfl rfl rfl (by decide +kernel) ⟨Nat.le_of_ble_eq_true rfl, Nat.le_of_ble_eq_true rfl⟩) 0 rfl rfl (adr_app rfl (adr_app rfl (adr_app rfl (adr_app rfl (adr_app (adr_X0 ..) (adr_SL ..)))))) rfl rfl hl.1 (Nat.le_of_ble_eq_true rfl) dL_law_324 hc (fun H locs hG => ?_)
  have hG := hG.perm List.perm_append_comm
  refine lv_aload_n hx hb dL_law_327 rfl (lv_at hl 2 rfl) ?_
  refine lv_aload_n hx hb dL_law_328 rfl (lv_at hl 0 rfl) ?_
  refine lv_iload_n hx hb dL_law_329 rfl (lv_at hl 3 rfl) ?_
  refine lv_iconst (v := nI 1) hx hb dL_law_330 rfl ?_
  refine lv_iadd hx hb dL_law_331 ?_
  refine w_nm (v := nI (i + 1)) (nI_add i 1).symm ?_
  refine w_sldn hx hb hX hbl hbA hG.2.2 (show i + 1 < L by omega) (by omega) dL_law_332 ?_
  refine k_Pi F hK hA hG (c_X4_burn l D y v H.size Fu r_s r_aside r_before r_known r_slots r_isSaved r_pad r_length r_letters r_heats r_reactions r_newSplits r_storiesThen r_heatThen r_place r_isWrong r_toldLetter r_toldHeat r_toldStory r_toldWords r_toldStories ((xs (i + 1))) ro r_s_o r_before_o r_known_o e2) (cwV 1 F.2.2.2.2 gL_law_X4_burn rfl rfl rfl (by decide +kernel) ⟨Nat.le_of_ble_eq_true rfl, Nat.le_of_ble_eq_true rfl⟩) 0 rfl rfl rfl rfl rfl hl.1 (Nat.le_of_ble_eq_true rfl) dL_law_333 hc (fun H locs hG => ?_)
  refine lv_icmp_eq (tgt := 829) hx hb dL_law_336 (by decide) (fun _ => ?_) (fun h => absurd rfl h)
  exact next H locs ⟨q_saved, q_runs, q_themes, q_storyHeats, p_characters, p_length, n_settings, n_letters_o, n_heats_o, n_starts_o, n_families_o, n_generations_o, n_tally, n_stories_o, n_nextFamily, n_splits, n_boilings, n_fizzles, t_settings, t_letters, t_heats, t_starts, t_families, t_generations, t_tally, t_stories, t_nextFamily, t_splits, t_boilings, t_fizzles, h_v_o, h_oldest_o, h_size_o, s_v, r_s_o, r_aside, r_before_o, r_known_o, r_slots, r_isSaved, r_pad, r_length, r_letters, r_heats, r_reactions, r_newSplits, r_storiesThen, r_heatThen, r_place, r_isWrong, r_toldLetter, r_toldHeat, r_toldStory, r_toldWords, r_toldStories, hR, hG.perm List.perm_append_comm⟩
set_option maxHeartbeats 4000000 in
set_option maxRecDepth 100000 in
theorem lc_word {p : Program} {l : Launch} {e : Env} {s : State} {m : MethodId} {below : List Frame} {meth : Method} {c : Code} {Q : State → Prop} {D : va_G} {y : Nat → ClassId} {b L : Nat} {xs : Nat → Int32} {cells slots : Nat} (hc : cells ≤ room_1.cells ∧ slots ≤ room_1.slots) (C0 : LC p s m c b L xs D y) {Fu M : Nat} (hF : 100000000 ≤ Fu) (hM : M ≤ 900000) {i : Nat} (hi : i + 5 ≤ L) {u : UX3} {v : Nat → Nat} {H : Heap} {locs : List Loc} {ls : Array Slot} (hl : lv_has ls 4 [(0, .ref b), (1, .ref (u.1 0)), (2, .ref (v 0)), (3, .int (nI i))]) (inv : LInv D y s u v M H locs)
    (next : ∀ (H : Heap) (locs : List Loc), LInv D y s u v (M + 12) H locs → W p l e room_1 s m #[Value.ref b] below meth c H locs cells slots Q (F0 m 829 ls [])) : W p l e room_1 s m #[Value.ref b] below meth c H locs cells slots Q (F0 m 341 ls []) := by
  obtain ⟨F, hK, hZ, hX, hbl, hL⟩ := C0
  have hx := F.1
  have hb := F.2.1
  have hA : ∀ q, s.heap.size ≤ q → lA s q := fun _ h => h
  have hbA : ¬ lA s b := Nat.not_le.mpr hbl
  obtain ⟨a, pa, na, ta, ha, hsb, sl, ssb⟩ := u
  have hl : lv_has ls 4 [(0, .ref b), (1, .ref (a 0)), (2, .ref (v 0)), (3, .int (nI i))] := hl
  obtain ⟨q_saved, q_runs, q_themes, q_storyHeats, p_characters, p_length, n_settings, n_letters, n_heats, n_starts, n_families, n_generations, n_tally, n_stories, n_nextFamily, n_splits, n_boilings, n_fizzles, t_settings, t_letters, t_heats, t_starts, t_families, t_generations, t_tally, t_stories, t_nextFamily, t_splits, t_boilings, t_fizzles, h_v, h_oldest, h_size, s_v, r_s, r_aside, r_before, r_known, r_slots, r_isSaved, r_pad, r_length, r_letters, r_heats, r_reactions, r_newSplits, r_storiesThen, r_heatThen, r_place, r_isWrong, r_toldLetter, r_toldHeat, r_toldStory, r_toldWords, r_toldStories, hR, hG⟩ := inv
  obtain ⟨ro, e1, e2, hR⟩ := st_word hF hM q_saved p_characters p_length n_settings n_letters n_heats n_starts n_families n_generations n_stories n_nextFamily n_splits n_boilings n_fizzles h_v h_oldest h_size s_v r_s r_before r_known r_slots r_isSaved r_pad r_length  ((xs (i + 1))) ((xs (i + 2))) ((xs (i + 3))) hR
  refine lv_aload_n hx hb dL_law_341 rfl (lv_at hl 1 rfl) ?_
  refine lv_aload_n hx hb dL_law_342 rfl (lv_at hl 0 rfl) ?_
  refine lv_iload_n hx hb dL_law_343 rfl (lv_at hl 3 rfl) ?_
  refine lv_iconst (v := nI 1) hx hb dL_law_344 rfl ?_
  refine lv_iadd hx hb dL_law_345 ?_
  refine w_nm (v := nI (i + 1)) (nI_add i 1).symm ?_
  refine w_sldn hx hb hX hbl hbA hG.2.2 (show i + 1 < L by omega) (by omega) dL_law_346 ?_
  refine lv_aload_n hx hb dL_law_347 rfl (lv_at hl 0 rfl) ?_
  refine lv_iload_n hx hb dL_law_348 rfl (lv_at hl 3 rfl) ?_
  refine lv_iconst (v := nI 2) hx hb dL_law_349 rfl ?_
  refine lv_iadd hx hb dL_law_350 ?_
  refine w_nm (v := nI (i + 2)) (nI_add i 2).symm ?_
  refine w_sldn hx hb hX hbl hbA hG.2.2 (show i + 2 < L by omega) (by omega) dL_law_351 ?_
  refine lv_aload_n hx hb dL_law_352 rfl (lv_at hl 0 rfl) ?_
  refine lv_iload_n hx hb dL_law_353 rfl (lv_at hl 3 rfl) ?_
  refine lv_iconst (v := nI 3) hx hb dL_law_354 rfl ?_
  refine lv_iadd hx hb dL_law_355 ?_
  refine w_nm (v := nI (i + 3)) (nI_add i 3).symm ?_
  refine w_sldn hx hb hX hbl hbA hG.2.2 (show i + 3 < L by omega) (by omega) dL_law_356 ?_
  refine k_Pi F hK hA hG (c_X3_word l D y a pa na ta ha hsb sl ssb H.size Fu q_saved q_runs q_themes q_storyHeats p_characters p_length n_settings n_letters n_heats n_starts n_families n_generations n_tally n_stories n_nextFamily n_splits n_boilings n_fizzles t_settings t_letters t_heats t_starts t_families t_generations t_tally t_stories t_nextFamily t_splits t_boilings t_fizzles h_v h_oldest h_size s_v ((xs (i + 1))) ((xs (i + 2))) ((xs (i + 3))) ro  e1) (cwV 3 F.2.2.2.2 gL_law_X3_word rfl rfl rfl (by decide +kernel) ⟨Nat.le_of_ble_eq_true rfl, Nat.le_of_ble_eq_true rfl⟩) 0 rfl rfl (adr_app rfl (adr_app rfl (adr_app rfl (adr_app rfl (adr_app (adr_X0 ..) (adr_SL ..)))))) rfl rfl hl.1 (Nat.le_of_ble_eq_true rfl) dL_law_357 hc (fun H locs hG => ?_)
  have hG := hG.perm List.perm_append_comm
  refine lv_aload_n hx hb dL_law_360 rfl (lv_at hl 2 rfl) ?_
  refine lv_aload_n hx hb dL_law_361 rfl (lv_at hl 0 rfl) ?_
  refine lv_iload_n hx hb dL_law_362 rfl (lv_at hl 3 rfl) ?_
  refine lv_iconst (v := nI 1) hx hb dL_law_363 rfl ?_
  refine lv_iadd hx hb dL_law_364 ?_
  refine w_nm (v := nI (i + 1)) (nI_add i 1).symm ?_
  refine w_sldn hx hb hX hbl hbA hG.2.2 (show i + 1 < L by omega) (by omega) dL_law_365 ?_
  refine lv_aload_n hx hb dL_law_366 rfl (lv_at hl 0 rfl) ?_
  refine lv_iload_n hx hb dL_law_367 rfl (lv_at hl 3 rfl) ?_
  refine lv_iconst (v := nI 2) hx hb dL_law_368 rfl ?_
  refine lv_iadd hx hb dL_law_369 ?_
  refine w_nm (v := nI (i + 2)) (nI_add i 2).symm ?_
  refine w_sldn hx hb hX hbl hbA hG.2.2 (show i + 2 < L by omega) (by omega) dL_law_370 ?_
  refine lv_aload_n hx hb dL_law_371 rfl (lv_at hl 0 rfl) ?_
  refine lv_iload_n hx hb dL_law_372 rfl (lv_at hl 3 rfl) ?_
  refine lv_iconst (v := nI 3) hx hb dL_law_373 rfl ?_
  refine lv_iadd hx hb dL_law_374 ?_
  refine w_nm (v := nI (i + 3)) (nI_add i 3).symm ?_
  refine w_sldn hx hb hX hbl hbA hG.2.2 (show i + 3 < L by omega) (by omega) dL_law_375 ?_
  refine k_Pi F hK hA hG (c_X4_word l D y v H.size Fu r_s r_aside r_before r_known r_slots r_isSaved r_pad r_length r_letters r_heats r_reactions r_newSplits r_storiesThen r_heatThen r_place r_isWrong r_toldLetter r_toldHeat r_toldStory r_toldWords r_toldStories ((xs (i + 1))) ((xs (i + 2))) ((xs (i + 3))) ro  e2) (cwV 3 F.2.2.2.2 gL_law_X4_word rfl rfl rfl (by decide +kernel) ⟨Nat.le_of_ble_eq_true rfl, Nat.le_of_ble_eq_true rfl⟩) 0 rfl rfl rfl rfl rfl hl.1 (Nat.le_of_ble_eq_true rfl) dL_law_376 hc (fun H locs hG => ?_)
  refine lv_icmp_eq (tgt := 829) hx hb dL_law_379 (by decide) (fun _ => ?_) (fun h => absurd rfl h)
  exact next H locs ⟨q_saved, q_runs, q_themes, q_storyHeats, p_characters, p_length, n_settings, n_letters, n_heats, n_starts, n_families, n_generations, n_tally, n_stories, n_nextFamily, n_splits, n_boilings, n_fizzles, t_settings, t_letters, t_heats, t_starts, t_families, t_generations, t_tally, t_stories, t_nextFamily, t_splits, t_boilings, t_fizzles, h_v, h_oldest, h_size, s_v, r_s, r_aside, r_before, r_known, r_slots, r_isSaved, r_pad, r_length, r_letters, r_heats, r_reactions, r_newSplits, r_storiesThen, r_heatThen, r_place, r_isWrong, r_toldLetter, r_toldHeat, r_toldStory, r_toldWords, r_toldStories, hR, hG.perm List.perm_append_comm⟩
set_option maxHeartbeats 4000000 in
set_option maxRecDepth 100000 in
theorem lc_story {p : Program} {l : Launch} {e : Env} {s : State} {m : MethodId} {below : List Frame} {meth : Method} {c : Code} {Q : State → Prop} {D : va_G} {y : Nat → ClassId} {b L : Nat} {xs : Nat → Int32} {cells slots : Nat} (hc : cells ≤ room_1.cells ∧ slots ≤ room_1.slots) (C0 : LC p s m c b L xs D y) {Fu M : Nat} (hF : 100000000 ≤ Fu) (hM : M ≤ 900000) {i : Nat} (hi : i + 5 ≤ L) {u : UX3} {v : Nat → Nat} {H : Heap} {locs : List Loc} {ls : Array Slot} (hl : lv_has ls 4 [(0, .ref b), (1, .ref (u.1 0)), (2, .ref (v 0)), (3, .int (nI i))]) (inv : LInv D y s u v M H locs)
    (next : ∀ (H : Heap) (locs : List Loc), LInv D y s u v (M + 12) H locs → W p l e room_1 s m #[Value.ref b] below meth c H locs cells slots Q (F0 m 829 ls [])) : W p l e room_1 s m #[Value.ref b] below meth c H locs cells slots Q (F0 m 384 ls []) := by
  obtain ⟨F, hK, hZ, hX, hbl, hL⟩ := C0
  have hx := F.1
  have hb := F.2.1
  have hA : ∀ q, s.heap.size ≤ q → lA s q := fun _ h => h
  have hbA : ¬ lA s b := Nat.not_le.mpr hbl
  obtain ⟨a, pa, na, ta, ha, hsb, sl, ssb⟩ := u
  have hl : lv_has ls 4 [(0, .ref b), (1, .ref (a 0)), (2, .ref (v 0)), (3, .int (nI i))] := hl
  obtain ⟨q_saved, q_runs, q_themes, q_storyHeats, p_characters, p_length, n_settings, n_letters, n_heats, n_starts, n_families, n_generations, n_tally, n_stories, n_nextFamily, n_splits, n_boilings, n_fizzles, t_settings, t_letters, t_heats, t_starts, t_families, t_generations, t_tally, t_stories, t_nextFamily, t_splits, t_boilings, t_fizzles, h_v, h_oldest, h_size, s_v, r_s, r_aside, r_before, r_known, r_slots, r_isSaved, r_pad, r_length, r_letters, r_heats, r_reactions, r_newSplits, r_storiesThen, r_heatThen, r_place, r_isWrong, r_toldLetter, r_toldHeat, r_toldStory, r_toldWords, r_toldStories, hR, hG⟩ := inv
  obtain ⟨ro, n_tally_o, e1, e2, hR⟩ := st_story hF hM q_saved p_characters p_length n_settings n_letters n_heats n_starts n_families n_generations n_stories n_nextFamily n_splits n_boilings n_fizzles h_v h_oldest h_size s_v r_s r_before r_known r_slots r_isSaved r_pad r_length n_tally ((xs (i + 1))) ((xs (i + 2))) hR
  refine lv_aload_n hx hb dL_law_384 rfl (lv_at hl 1 rfl) ?_
  refine lv_aload_n hx hb dL_law_385 rfl (lv_at hl 0 rfl) ?_
  refine lv_iload_n hx hb dL_law_386 rfl (lv_at hl 3 rfl) ?_
  refine lv_iconst (v := nI 1) hx hb dL_law_387 rfl ?_
  refine lv_iadd hx hb dL_law_388 ?_
  refine w_nm (v := nI (i + 1)) (nI_add i 1).symm ?_
  refine w_sldn hx hb hX hbl hbA hG.2.2 (show i + 1 < L by omega) (by omega) dL_law_389 ?_
  refine lv_aload_n hx hb dL_law_390 rfl (lv_at hl 0 rfl) ?_
  refine lv_iload_n hx hb dL_law_391 rfl (lv_at hl 3 rfl) ?_
  refine lv_iconst (v := nI 2) hx hb dL_law_392 rfl ?_
  refine lv_iadd hx hb dL_law_393 ?_
  refine w_nm (v := nI (i + 2)) (nI_add i 2).symm ?_
  refine w_sldn hx hb hX hbl hbA hG.2.2 (show i + 2 < L by omega) (by omega) dL_law_394 ?_
  refine k_Pi F hK hA hG (c_X3_story l D y a pa na ta ha hsb sl ssb H.size Fu q_saved q_runs q_themes q_storyHeats p_characters p_length n_settings n_letters n_heats n_starts n_families n_generations n_tally n_stories n_nextFamily n_splits n_boilings n_fizzles t_settings t_letters t_heats t_starts t_families t_generations t_tally t_stories t_nextFamily t_splits t_boilings t_fizzles h_v h_oldest h_size s_v ((xs (i + 1))) ((xs (i + 2))) ro n_tally_o e1) (cwV 2 F.2.2.2.2 gL_law_X3_story rfl rfl rfl (by decide +kernel) ⟨Nat.le_of_ble_eq_true rfl, Nat.le_of_ble_eq_true rfl⟩) 0 rfl rfl (adr_app rfl (adr_app rfl (adr_app rfl (adr_app rfl (adr_app (adr_X0 ..) (adr_SL ..)))))) rfl rfl hl.1 (Nat.le_of_ble_eq_true rfl) dL_law_395 hc (fun H locs hG => ?_)
  have hG := hG.perm List.perm_append_comm
  refine lv_aload_n hx hb dL_law_398 rfl (lv_at hl 2 rfl) ?_
  refine lv_aload_n hx hb dL_law_399 rfl (lv_at hl 0 rfl) ?_
  refine lv_iload_n hx hb dL_law_400 rfl (lv_at hl 3 rfl) ?_
  refine lv_iconst (v := nI 1) hx hb dL_law_401 rfl ?_
  refine lv_iadd hx hb dL_law_402 ?_
  refine w_nm (v := nI (i + 1)) (nI_add i 1).symm ?_
  refine w_sldn hx hb hX hbl hbA hG.2.2 (show i + 1 < L by omega) (by omega) dL_law_403 ?_
  refine lv_aload_n hx hb dL_law_404 rfl (lv_at hl 0 rfl) ?_
  refine lv_iload_n hx hb dL_law_405 rfl (lv_at hl 3 rfl) ?_
  refine lv_iconst (v := nI 2) hx hb dL_law_406 rfl ?_
  refine lv_iadd hx hb dL_law_407 ?_
  refine w_nm (v := nI (i + 2)) (nI_add i 2).symm ?_
  refine w_sldn hx hb hX hbl hbA hG.2.2 (show i + 2 < L by omega) (by omega) dL_law_408 ?_
  refine k_Pi F hK hA hG (c_X4_story l D y v H.size Fu r_s r_aside r_before r_known r_slots r_isSaved r_pad r_length r_letters r_heats r_reactions r_newSplits r_storiesThen r_heatThen r_place r_isWrong r_toldLetter r_toldHeat r_toldStory r_toldWords r_toldStories ((xs (i + 1))) ((xs (i + 2))) ro  e2) (cwV 2 F.2.2.2.2 gL_law_X4_story rfl rfl rfl (by decide +kernel) ⟨Nat.le_of_ble_eq_true rfl, Nat.le_of_ble_eq_true rfl⟩) 0 rfl rfl rfl rfl rfl hl.1 (Nat.le_of_ble_eq_true rfl) dL_law_409 hc (fun H locs hG => ?_)
  refine lv_icmp_eq (tgt := 829) hx hb dL_law_412 (by decide) (fun _ => ?_) (fun h => absurd rfl h)
  exact next H locs ⟨q_saved, q_runs, q_themes, q_storyHeats, p_characters, p_length, n_settings, n_letters, n_heats, n_starts, n_families, n_generations, n_tally_o, n_stories, n_nextFamily, n_splits, n_boilings, n_fizzles, t_settings, t_letters, t_heats, t_starts, t_families, t_generations, t_tally, t_stories, t_nextFamily, t_splits, t_boilings, t_fizzles, h_v, h_oldest, h_size, s_v, r_s, r_aside, r_before, r_known, r_slots, r_isSaved, r_pad, r_length, r_letters, r_heats, r_reactions, r_newSplits, r_storiesThen, r_heatThen, r_place, r_isWrong, r_toldLetter, r_toldHeat, r_toldStory, r_toldWords, r_toldStories, hR, hG.perm List.perm_append_comm⟩
set_option maxHeartbeats 4000000 in
set_option maxRecDepth 100000 in
theorem lc_count {p : Program} {l : Launch} {e : Env} {s : State} {m : MethodId} {below : List Frame} {meth : Method} {c : Code} {Q : State → Prop} {D : va_G} {y : Nat → ClassId} {b L : Nat} {xs : Nat → Int32} {cells slots : Nat} (hc : cells ≤ room_1.cells ∧ slots ≤ room_1.slots) (C0 : LC p s m c b L xs D y) {Fu M : Nat} (hF : 100000000 ≤ Fu) (hM : M ≤ 900000) {i : Nat} (hi : i + 5 ≤ L) {u : UX3} {v : Nat → Nat} {H : Heap} {locs : List Loc} {ls : Array Slot} (hl : lv_has ls 4 [(0, .ref b), (1, .ref (u.1 0)), (2, .ref (v 0)), (3, .int (nI i))]) (inv : LInv D y s u v M H locs)
    (next : ∀ (H : Heap) (locs : List Loc), LInv D y s u v (M + 12) H locs → W p l e room_1 s m #[Value.ref b] below meth c H locs cells slots Q (F0 m 829 ls [])) : W p l e room_1 s m #[Value.ref b] below meth c H locs cells slots Q (F0 m 417 ls []) := by
  obtain ⟨F, hK, hZ, hX, hbl, hL⟩ := C0
  have hx := F.1
  have hb := F.2.1
  have hA : ∀ q, s.heap.size ≤ q → lA s q := fun _ h => h
  have hbA : ¬ lA s b := Nat.not_le.mpr hbl
  obtain ⟨a, pa, na, ta, ha, hsb, sl, ssb⟩ := u
  have hl : lv_has ls 4 [(0, .ref b), (1, .ref (a 0)), (2, .ref (v 0)), (3, .int (nI i))] := hl
  obtain ⟨q_saved, q_runs, q_themes, q_storyHeats, p_characters, p_length, n_settings, n_letters, n_heats, n_starts, n_families, n_generations, n_tally, n_stories, n_nextFamily, n_splits, n_boilings, n_fizzles, t_settings, t_letters, t_heats, t_starts, t_families, t_generations, t_tally, t_stories, t_nextFamily, t_splits, t_boilings, t_fizzles, h_v, h_oldest, h_size, s_v, r_s, r_aside, r_before, r_known, r_slots, r_isSaved, r_pad, r_length, r_letters, r_heats, r_reactions, r_newSplits, r_storiesThen, r_heatThen, r_place, r_isWrong, r_toldLetter, r_toldHeat, r_toldStory, r_toldWords, r_toldStories, hR, hG⟩ := inv
  obtain ⟨ro, e1, e2, hR⟩ := st_count hF hM q_saved p_characters p_length n_settings n_letters n_heats n_starts n_families n_generations n_stories n_nextFamily n_splits n_boilings n_fizzles h_v h_oldest h_size s_v r_s r_before r_known r_slots r_isSaved r_pad r_length  ((xs (i + 1))) hR
  refine lv_aload_n hx hb dL_law_417 rfl (lv_at hl 1 rfl) ?_
  refine lv_aload_n hx hb dL_law_418 rfl (lv_at hl 0 rfl) ?_
  refine lv_iload_n hx hb dL_law_419 rfl (lv_at hl 3 rfl) ?_
  refine lv_iconst (v := nI 1) hx hb dL_law_420 rfl ?_
  refine lv_iadd hx hb dL_law_421 ?_
  refine w_nm (v := nI (i + 1)) (nI_add i 1).symm ?_
  refine w_sldn hx hb hX hbl hbA hG.2.2 (show i + 1 < L by omega) (by omega) dL_law_422 ?_
  refine k_Pi F hK hA hG (c_X3_count l D y a pa na ta ha hsb sl ssb H.size Fu q_saved q_runs q_themes q_storyHeats p_characters p_length n_settings n_letters n_heats n_starts n_families n_generations n_tally n_stories n_nextFamily n_splits n_boilings n_fizzles t_settings t_letters t_heats t_starts t_families t_generations t_tally t_stories t_nextFamily t_splits t_boilings t_fizzles h_v h_oldest h_size s_v ((xs (i + 1))) ro  e1) (cwV 1 F.2.2.2.2 gL_law_X3_count rfl rfl rfl (by decide +kernel) ⟨Nat.le_of_ble_eq_true rfl, Nat.le_of_ble_eq_true rfl⟩) 0 rfl rfl (adr_app rfl (adr_app rfl (adr_app rfl (adr_app rfl (adr_app (adr_X0 ..) (adr_SL ..)))))) rfl rfl hl.1 (Nat.le_of_ble_eq_true rfl) dL_law_423 hc (fun H locs hG => ?_)
  have hG := hG.perm List.perm_append_comm
  refine lv_aload_n hx hb dL_law_426 rfl (lv_at hl 2 rfl) ?_
  refine lv_aload_n hx hb dL_law_427 rfl (lv_at hl 0 rfl) ?_
  refine lv_iload_n hx hb dL_law_428 rfl (lv_at hl 3 rfl) ?_
  refine lv_iconst (v := nI 1) hx hb dL_law_429 rfl ?_
  refine lv_iadd hx hb dL_law_430 ?_
  refine w_nm (v := nI (i + 1)) (nI_add i 1).symm ?_
  refine w_sldn hx hb hX hbl hbA hG.2.2 (show i + 1 < L by omega) (by omega) dL_law_431 ?_
  refine k_Pi F hK hA hG (c_X4_count l D y v H.size Fu r_s r_aside r_before r_known r_slots r_isSaved r_pad r_length r_letters r_heats r_reactions r_newSplits r_storiesThen r_heatThen r_place r_isWrong r_toldLetter r_toldHeat r_toldStory r_toldWords r_toldStories ((xs (i + 1))) ro  e2) (cwV 1 F.2.2.2.2 gL_law_X4_count rfl rfl rfl (by decide +kernel) ⟨Nat.le_of_ble_eq_true rfl, Nat.le_of_ble_eq_true rfl⟩) 0 rfl rfl rfl rfl rfl hl.1 (Nat.le_of_ble_eq_true rfl) dL_law_432 hc (fun H locs hG => ?_)
  refine lv_icmp_eq (tgt := 829) hx hb dL_law_435 (by decide) (fun _ => ?_) (fun h => absurd rfl h)
  exact next H locs ⟨q_saved, q_runs, q_themes, q_storyHeats, p_characters, p_length, n_settings, n_letters, n_heats, n_starts, n_families, n_generations, n_tally, n_stories, n_nextFamily, n_splits, n_boilings, n_fizzles, t_settings, t_letters, t_heats, t_starts, t_families, t_generations, t_tally, t_stories, t_nextFamily, t_splits, t_boilings, t_fizzles, h_v, h_oldest, h_size, s_v, r_s, r_aside, r_before, r_known, r_slots, r_isSaved, r_pad, r_length, r_letters, r_heats, r_reactions, r_newSplits, r_storiesThen, r_heatThen, r_place, r_isWrong, r_toldLetter, r_toldHeat, r_toldStory, r_toldWords, r_toldStories, hR, hG.perm List.perm_append_comm⟩
set_option maxHeartbeats 4000000 in
set_option maxRecDepth 100000 in
theorem lc_letter {p : Program} {l : Launch} {e : Env} {s : State} {m : MethodId} {below : List Frame} {meth : Method} {c : Code} {Q : State → Prop} {D : va_G} {y : Nat → ClassId} {b L : Nat} {xs : Nat → Int32} {cells slots : Nat} (hc : cells ≤ room_1.cells ∧ slots ≤ room_1.slots) (C0 : LC p s m c b L xs D y) {Fu M : Nat} (hF : 100000000 ≤ Fu) (hM : M ≤ 900000) {i : Nat} (hi : i + 5 ≤ L) {u : UX3} {v : Nat → Nat} {H : Heap} {locs : List Loc} {ls : Array Slot} (hl : lv_has ls 4 [(0, .ref b), (1, .ref (u.1 0)), (2, .ref (v 0)), (3, .int (nI i))]) (inv : LInv D y s u v M H locs)
    (next : ∀ (H : Heap) (locs : List Loc), LInv D y s u v (M + 12) H locs → W p l e room_1 s m #[Value.ref b] below meth c H locs cells slots Q (F0 m 829 ls [])) : W p l e room_1 s m #[Value.ref b] below meth c H locs cells slots Q (F0 m 440 ls []) := by
  obtain ⟨F, hK, hZ, hX, hbl, hL⟩ := C0
  have hx := F.1
  have hb := F.2.1
  have hA : ∀ q, s.heap.size ≤ q → lA s q := fun _ h => h
  have hbA : ¬ lA s b := Nat.not_le.mpr hbl
  obtain ⟨a, pa, na, ta, ha, hsb, sl, ssb⟩ := u
  have hl : lv_has ls 4 [(0, .ref b), (1, .ref (a 0)), (2, .ref (v 0)), (3, .int (nI i))] := hl
  obtain ⟨q_saved, q_runs, q_themes, q_storyHeats, p_characters, p_length, n_settings, n_letters, n_heats, n_starts, n_families, n_generations, n_tally, n_stories, n_nextFamily, n_splits, n_boilings, n_fizzles, t_settings, t_letters, t_heats, t_starts, t_families, t_generations, t_tally, t_stories, t_nextFamily, t_splits, t_boilings, t_fizzles, h_v, h_oldest, h_size, s_v, r_s, r_aside, r_before, r_known, r_slots, r_isSaved, r_pad, r_length, r_letters, r_heats, r_reactions, r_newSplits, r_storiesThen, r_heatThen, r_place, r_isWrong, r_toldLetter, r_toldHeat, r_toldStory, r_toldWords, r_toldStories, hR, hG⟩ := inv
  obtain ⟨ro, n_tally_o, e1, e2, hR⟩ := st_letter hF hM q_saved p_characters p_length n_settings n_letters n_heats n_starts n_families n_generations n_stories n_nextFamily n_splits n_boilings n_fizzles h_v h_oldest h_size s_v r_s r_before r_known r_slots r_isSaved r_pad r_length n_tally ((xs (i + 1))) ((xs (i + 2))) hR
  refine lv_aload_n hx hb dL_law_440 rfl (lv_at hl 1 rfl) ?_
  refine lv_aload_n hx hb dL_law_441 rfl (lv_at hl 0 rfl) ?_
  refine lv_iload_n hx hb dL_law_442 rfl (lv_at hl 3 rfl) ?_
  refine lv_iconst (v := nI 1) hx hb dL_law_443 rfl ?_
  refine lv_iadd hx hb dL_law_444 ?_
  refine w_nm (v := nI (i + 1)) (nI_add i 1).symm ?_
  refine w_sldn hx hb hX hbl hbA hG.2.2 (show i + 1 < L by omega) (by omega) dL_law_445 ?_
  refine lv_aload_n hx hb dL_law_446 rfl (lv_at hl 0 rfl) ?_
  refine lv_iload_n hx hb dL_law_447 rfl (lv_at hl 3 rfl) ?_
  refine lv_iconst (v := nI 2) hx hb dL_law_448 rfl ?_
  refine lv_iadd hx hb dL_law_449 ?_
  refine w_nm (v := nI (i + 2)) (nI_add i 2).symm ?_
  refine w_sldn hx hb hX hbl hbA hG.2.2 (show i + 2 < L by omega) (by omega) dL_law_450 ?_
  refine k_Pi F hK hA hG (c_X3_letter l D y a pa na ta ha hsb sl ssb H.size Fu q_saved q_runs q_themes q_storyHeats p_characters p_length n_settings n_letters n_heats n_starts n_families n_generations n_tally n_stories n_nextFamily n_splits n_boilings n_fizzles t_settings t_letters t_heats t_starts t_families t_generations t_tally t_stories t_nextFamily t_splits t_boilings t_fizzles h_v h_oldest h_size s_v ((xs (i + 1))) ((xs (i + 2))) ro n_tally_o e1) (cwV 2 F.2.2.2.2 gL_law_X3_letter rfl rfl rfl (by decide +kernel) ⟨Nat.le_of_ble_eq_true rfl, Nat.le_of_ble_eq_true rfl⟩) 0 rfl rfl (adr_app rfl (adr_app rfl (adr_app rfl (adr_app rfl (adr_app (adr_X0 ..) (adr_SL ..)))))) rfl rfl hl.1 (Nat.le_of_ble_eq_true rfl) dL_law_451 hc (fun H locs hG => ?_)
  have hG := hG.perm List.perm_append_comm
  refine lv_aload_n hx hb dL_law_454 rfl (lv_at hl 2 rfl) ?_
  refine lv_aload_n hx hb dL_law_455 rfl (lv_at hl 0 rfl) ?_
  refine lv_iload_n hx hb dL_law_456 rfl (lv_at hl 3 rfl) ?_
  refine lv_iconst (v := nI 1) hx hb dL_law_457 rfl ?_
  refine lv_iadd hx hb dL_law_458 ?_
  refine w_nm (v := nI (i + 1)) (nI_add i 1).symm ?_
  refine w_sldn hx hb hX hbl hbA hG.2.2 (show i + 1 < L by omega) (by omega) dL_law_459 ?_
  refine lv_aload_n hx hb dL_law_460 rfl (lv_at hl 0 rfl) ?_
  refine lv_iload_n hx hb dL_law_461 rfl (lv_at hl 3 rfl) ?_
  refine lv_iconst (v := nI 2) hx hb dL_law_462 rfl ?_
  refine lv_iadd hx hb dL_law_463 ?_
  refine w_nm (v := nI (i + 2)) (nI_add i 2).symm ?_
  refine w_sldn hx hb hX hbl hbA hG.2.2 (show i + 2 < L by omega) (by omega) dL_law_464 ?_
  refine k_Pi F hK hA hG (c_X4_letter l D y v H.size Fu r_s r_aside r_before r_known r_slots r_isSaved r_pad r_length r_letters r_heats r_reactions r_newSplits r_storiesThen r_heatThen r_place r_isWrong r_toldLetter r_toldHeat r_toldStory r_toldWords r_toldStories ((xs (i + 1))) ((xs (i + 2))) ro  e2) (cwV 2 F.2.2.2.2 gL_law_X4_letter rfl rfl rfl (by decide +kernel) ⟨Nat.le_of_ble_eq_true rfl, Nat.le_of_ble_eq_true rfl⟩) 0 rfl rfl rfl rfl rfl hl.1 (Nat.le_of_ble_eq_true rfl) dL_law_465 hc (fun H locs hG => ?_)
  refine lv_icmp_eq (tgt := 829) hx hb dL_law_468 (by decide) (fun _ => ?_) (fun h => absurd rfl h)
  exact next H locs ⟨q_saved, q_runs, q_themes, q_storyHeats, p_characters, p_length, n_settings, n_letters, n_heats, n_starts, n_families, n_generations, n_tally_o, n_stories, n_nextFamily, n_splits, n_boilings, n_fizzles, t_settings, t_letters, t_heats, t_starts, t_families, t_generations, t_tally, t_stories, t_nextFamily, t_splits, t_boilings, t_fizzles, h_v, h_oldest, h_size, s_v, r_s, r_aside, r_before, r_known, r_slots, r_isSaved, r_pad, r_length, r_letters, r_heats, r_reactions, r_newSplits, r_storiesThen, r_heatThen, r_place, r_isWrong, r_toldLetter, r_toldHeat, r_toldStory, r_toldWords, r_toldStories, hR, hG.perm List.perm_append_comm⟩
set_option maxHeartbeats 4000000 in
set_option maxRecDepth 100000 in
theorem lc_sideBySide {p : Program} {l : Launch} {e : Env} {s : State} {m : MethodId} {below : List Frame} {meth : Method} {c : Code} {Q : State → Prop} {D : va_G} {y : Nat → ClassId} {b L : Nat} {xs : Nat → Int32} {cells slots : Nat} (hc : cells ≤ room_1.cells ∧ slots ≤ room_1.slots) (C0 : LC p s m c b L xs D y) {Fu M : Nat} (hF : 100000000 ≤ Fu) (hM : M ≤ 900000) {i : Nat} (hi : i + 5 ≤ L) {u : UX3} {v : Nat → Nat} {H : Heap} {locs : List Loc} {ls : Array Slot} (hl : lv_has ls 4 [(0, .ref b), (1, .ref (u.1 0)), (2, .ref (v 0)), (3, .int (nI i))]) (inv : LInv D y s u v M H locs)
    (next : ∀ (H : Heap) (locs : List Loc), LInv D y s u v (M + 12) H locs → W p l e room_1 s m #[Value.ref b] below meth c H locs cells slots Q (F0 m 829 ls [])) : W p l e room_1 s m #[Value.ref b] below meth c H locs cells slots Q (F0 m 473 ls []) := by
  obtain ⟨F, hK, hZ, hX, hbl, hL⟩ := C0
  have hx := F.1
  have hb := F.2.1
  have hA : ∀ q, s.heap.size ≤ q → lA s q := fun _ h => h
  have hbA : ¬ lA s b := Nat.not_le.mpr hbl
  obtain ⟨a, pa, na, ta, ha, hsb, sl, ssb⟩ := u
  have hl : lv_has ls 4 [(0, .ref b), (1, .ref (a 0)), (2, .ref (v 0)), (3, .int (nI i))] := hl
  obtain ⟨q_saved, q_runs, q_themes, q_storyHeats, p_characters, p_length, n_settings, n_letters, n_heats, n_starts, n_families, n_generations, n_tally, n_stories, n_nextFamily, n_splits, n_boilings, n_fizzles, t_settings, t_letters, t_heats, t_starts, t_families, t_generations, t_tally, t_stories, t_nextFamily, t_splits, t_boilings, t_fizzles, h_v, h_oldest, h_size, s_v, r_s, r_aside, r_before, r_known, r_slots, r_isSaved, r_pad, r_length, r_letters, r_heats, r_reactions, r_newSplits, r_storiesThen, r_heatThen, r_place, r_isWrong, r_toldLetter, r_toldHeat, r_toldStory, r_toldWords, r_toldStories, hR, hG⟩ := inv
  obtain ⟨ro, e1, e2, hR⟩ := st_sideBySide hF hM q_saved p_characters p_length n_settings n_letters n_heats n_starts n_families n_generations n_stories n_nextFamily n_splits n_boilings n_fizzles h_v h_oldest h_size s_v r_s r_before r_known r_slots r_isSaved r_pad r_length  ((xs (i + 1))) ((xs (i + 2))) ((xs (i + 3))) hR
  refine lv_aload_n hx hb dL_law_473 rfl (lv_at hl 1 rfl) ?_
  refine lv_aload_n hx hb dL_law_474 rfl (lv_at hl 0 rfl) ?_
  refine lv_iload_n hx hb dL_law_475 rfl (lv_at hl 3 rfl) ?_
  refine lv_iconst (v := nI 1) hx hb dL_law_476 rfl ?_
  refine lv_iadd hx hb dL_law_477 ?_
  refine w_nm (v := nI (i + 1)) (nI_add i 1).symm ?_
  refine w_sldn hx hb hX hbl hbA hG.2.2 (show i + 1 < L by omega) (by omega) dL_law_478 ?_
  refine lv_aload_n hx hb dL_law_479 rfl (lv_at hl 0 rfl) ?_
  refine lv_iload_n hx hb dL_law_480 rfl (lv_at hl 3 rfl) ?_
  refine lv_iconst (v := nI 2) hx hb dL_law_481 rfl ?_
  refine lv_iadd hx hb dL_law_482 ?_
  refine w_nm (v := nI (i + 2)) (nI_add i 2).symm ?_
  refine w_sldn hx hb hX hbl hbA hG.2.2 (show i + 2 < L by omega) (by omega) dL_law_483 ?_
  refine lv_aload_n hx hb dL_law_484 rfl (lv_at hl 0 rfl) ?_
  refine lv_iload_n hx hb dL_law_485 rfl (lv_at hl 3 rfl) ?_
  refine lv_iconst (v := nI 3) hx hb dL_law_486 rfl ?_
  refine lv_iadd hx hb dL_law_487 ?_
  refine w_nm (v := nI (i + 3)) (nI_add i 3).symm ?_
  refine w_sldn hx hb hX hbl hbA hG.2.2 (show i + 3 < L by omega) (by omega) dL_law_488 ?_
  refine k_Pi F hK hA hG (c_X3_sideBySide l D y a pa na ta ha hsb sl ssb H.size Fu q_saved q_runs q_themes q_storyHeats p_characters p_length n_settings n_letters n_heats n_starts n_families n_generations n_tally n_stories n_nextFamily n_splits n_boilings n_fizzles t_settings t_letters t_heats t_starts t_families t_generations t_tally t_stories t_nextFamily t_splits t_boilings t_fizzles h_v h_oldest h_size s_v ((xs (i + 1))) ((xs (i + 2))) ((xs (i + 3))) ro  e1) (cwV 3 F.2.2.2.2 gL_law_X3_sideBySide rfl rfl rfl (by decide +kernel) ⟨Nat.le_of_ble_eq_true rfl, Nat.le_of_ble_eq_true rfl⟩) 0 rfl rfl (adr_app rfl (adr_app rfl (adr_app rfl (adr_app rfl (adr_app (adr_X0 ..) (adr_SL ..)))))) rfl rfl hl.1 (Nat.le_of_ble_eq_true rfl) dL_law_489 hc (fun H locs hG => ?_)
  have hG := hG.perm List.perm_append_comm
  refine lv_aload_n hx hb dL_law_492 rfl (lv_at hl 2 rfl) ?_
  refine lv_aload_n hx hb dL_law_493 rfl (lv_at hl 0 rfl) ?_
  refine lv_iload_n hx hb dL_law_494 rfl (lv_at hl 3 rfl) ?_
  refine lv_iconst (v := nI 1) hx hb dL_law_495 rfl ?_
  refine lv_iadd hx hb dL_law_496 ?_
  refine w_nm (v := nI (i + 1)) (nI_add i 1).symm ?_
  refine w_sldn hx hb hX hbl hbA hG.2.2 (show i + 1 < L by omega) (by omega) dL_law_497 ?_
  refine lv_aload_n hx hb dL_law_498 rfl (lv_at hl 0 rfl) ?_
  refine lv_iload_n hx hb dL_law_499 rfl (lv_at hl 3 rfl) ?_
  refine lv_iconst (v := nI 2) hx hb dL_law_500 rfl ?_
  refine lv_iadd hx hb dL_law_501 ?_
  refine w_nm (v := nI (i + 2)) (nI_add i 2).symm ?_
  refine w_sldn hx hb hX hbl hbA hG.2.2 (show i + 2 < L by omega) (by omega) dL_law_502 ?_
  refine lv_aload_n hx hb dL_law_503 rfl (lv_at hl 0 rfl) ?_
  refine lv_iload_n hx hb dL_law_504 rfl (lv_at hl 3 rfl) ?_
  refine lv_iconst (v := nI 3) hx hb dL_law_505 rfl ?_
  refine lv_iadd hx hb dL_law_506 ?_
  refine w_nm (v := nI (i + 3)) (nI_add i 3).symm ?_
  refine w_sldn hx hb hX hbl hbA hG.2.2 (show i + 3 < L by omega) (by omega) dL_law_507 ?_
  refine k_Pi F hK hA hG (c_X4_sideBySide l D y v H.size Fu r_s r_aside r_before r_known r_slots r_isSaved r_pad r_length r_letters r_heats r_reactions r_newSplits r_storiesThen r_heatThen r_place r_isWrong r_toldLetter r_toldHeat r_toldStory r_toldWords r_toldStories ((xs (i + 1))) ((xs (i + 2))) ((xs (i + 3))) ro  e2) (cwV 3 F.2.2.2.2 gL_law_X4_sideBySide rfl rfl rfl (by decide +kernel) ⟨Nat.le_of_ble_eq_true rfl, Nat.le_of_ble_eq_true rfl⟩) 0 rfl rfl rfl rfl rfl hl.1 (Nat.le_of_ble_eq_true rfl) dL_law_508 hc (fun H locs hG => ?_)
  refine lv_icmp_eq (tgt := 829) hx hb dL_law_511 (by decide) (fun _ => ?_) (fun h => absurd rfl h)
  exact next H locs ⟨q_saved, q_runs, q_themes, q_storyHeats, p_characters, p_length, n_settings, n_letters, n_heats, n_starts, n_families, n_generations, n_tally, n_stories, n_nextFamily, n_splits, n_boilings, n_fizzles, t_settings, t_letters, t_heats, t_starts, t_families, t_generations, t_tally, t_stories, t_nextFamily, t_splits, t_boilings, t_fizzles, h_v, h_oldest, h_size, s_v, r_s, r_aside, r_before, r_known, r_slots, r_isSaved, r_pad, r_length, r_letters, r_heats, r_reactions, r_newSplits, r_storiesThen, r_heatThen, r_place, r_isWrong, r_toldLetter, r_toldHeat, r_toldStory, r_toldWords, r_toldStories, hR, hG.perm List.perm_append_comm⟩
