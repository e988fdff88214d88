set_option maxHeartbeats 4000000 in
set_option maxRecDepth 100000 in
theorem lc_common {p : Program} {l : Launch} {e : Env} {s : State} {m : MethodId} {below : List Frame} {meth : Method} {c : Code} {Q : State → Prop} {D : va_G} {y : Nat → ClassId} {b L : Nat} {xs : Nat → Int32} {cells slots : Nat} (hc : cells ≤ room_1.cells ∧ slots ≤ room_1.slots) (C0 : LC p s m c b L xs D y) {Fu M : Nat} (hF : 100000000 ≤ Fu) (hM : M ≤ 900000) {i : Nat} (hi : i + 5 ≤ L) {u : UX3} {v : Nat → Nat} {H : Heap} {locs : List Loc} {ls : Array Slot} (hl : lv_has ls 4 [(0, .ref b), (1, .ref (u.1 0)), (2, .ref (v 0)), (3, .int (nI i))]) (inv : LInv D y s u v M H locs)
    (next : ∀ (H : Heap) (locs : List Loc), LInv D y s u v (M + 12) H locs → W p l e room_1 s m #[Value.ref b] below meth c H locs cells slots Q (F0 m 829 ls [])) : W p l e room_1 s m #[Value.ref b] below meth c H locs cells slots Q (F0 m 516 ls []) := by
  obtain ⟨F, hK, hZ, hX, hbl, hL⟩ := C0
  have hx := F.1
  have hb := F.2.1
  have hA : ∀ q, s.heap.size ≤ q → lA s q := fun _ h => h
  have hbA : ¬ lA s b := Nat.not_le.mpr hbl
  obtain ⟨a, pa, na, ta, ha, hsb, sl, ssb⟩ := u
  have hl : lv_has ls 4 [(0, .ref b), (1, .ref (a 0)), (2, .ref (v 0)), (3, .int (nI i))] := hl
  obtain ⟨q_saved, q_runs, q_themes, q_storyHeats, p_characters, p_length, n_settings, n_letters, n_heats, n_starts, n_families, n_generations, n_tally, n_stories, n_nextFamily, n_splits, n_boilings, n_fizzles, t_settings, t_letters, t_heats, t_starts, t_families, t_generations, t_tally, t_stories, t_nextFamily, t_splits, t_boilings, t_fizzles, h_v, h_oldest, h_size, s_v, r_s, r_aside, r_before, r_known, r_slots, r_isSaved, r_pad, r_length, r_letters, r_heats, r_reactions, r_newSplits, r_storiesThen, r_heatThen, r_place, r_isWrong, r_toldLetter, r_toldHeat, r_toldStory, r_toldWords, r_toldStories, hR, hG⟩ := inv
  obtain ⟨ro, q_runs_o, e1, e2, hR⟩ := st_common hF hM q_saved p_characters p_length n_settings n_letters n_heats n_starts n_families n_generations n_stories n_nextFamily n_splits n_boilings n_fizzles h_v h_oldest h_size s_v r_s r_before r_known r_slots r_isSaved r_pad r_length q_runs ((xs (i + 1))) ((xs (i + 2))) hR
  refine lv_aload_n hx hb dL_law_516 rfl (lv_at hl 1 rfl) ?_
  refine lv_aload_n hx hb dL_law_517 rfl (lv_at hl 0 rfl) ?_
  refine lv_iload_n hx hb dL_law_518 rfl (lv_at hl 3 rfl) ?_
  refine lv_iconst (v := nI 1) hx hb dL_law_519 rfl ?_
  refine lv_iadd hx hb dL_law_520 ?_
  refine w_nm (v := nI (i + 1)) (nI_add i 1).symm ?_
  refine w_sldn hx hb hX hbl hbA hG.2.2 (show i + 1 < L by omega) (by omega) dL_law_521 ?_
  refine lv_aload_n hx hb dL_law_522 rfl (lv_at hl 0 rfl) ?_
  refine lv_iload_n hx hb dL_law_523 rfl (lv_at hl 3 rfl) ?_
  refine lv_iconst (v := nI 2) hx hb dL_law_524 rfl ?_
  refine lv_iadd hx hb dL_law_525 ?_
  refine w_nm (v := nI (i + 2)) (nI_add i 2).symm ?_
  refine w_sldn hx hb hX hbl hbA hG.2.2 (show i + 2 < L by omega) (by omega) dL_law_526 ?_
  refine k_Pi F hK hA hG (c_X3_common l D y a pa na ta ha hsb sl ssb H.size Fu q_saved q_runs q_themes q_storyHeats p_characters p_length n_settings n_letters n_heats n_starts n_families n_generations n_tally n_stories n_nextFamily n_splits n_boilings n_fizzles t_settings t_letters t_heats t_starts t_families t_generations t_tally t_stories t_nextFamily t_splits t_boilings t_fizzles h_v h_oldest h_size s_v ((xs (i + 1))) ((xs (i + 2))) ro q_runs_o e1) (cwV 2 F.2.2.2.2 gL_law_X3_common rfl rfl rfl (by decide +kernel) ⟨Nat.le_of_ble_eq_true rfl, Nat.le_of_ble_eq_true rfl⟩) 0 rfl rfl (adr_app rfl (adr_app rfl (adr_app rfl (adr_app rfl (adr_app (adr_X0 ..) (adr_SL ..)))))) rfl rfl hl.1 (Nat.le_of_ble_eq_true rfl) dL_law_527 hc (fun H locs hG => ?_)
  have hG := hG.perm List.perm_append_comm
  refine lv_aload_n hx hb dL_law_530 rfl (lv_at hl 2 rfl) ?_
  refine lv_aload_n hx hb dL_law_531 rfl (lv_at hl 0 rfl) ?_
  refine lv_iload_n hx hb dL_law_532 rfl (lv_at hl 3 rfl) ?_
  refine lv_iconst (v := nI 1) hx hb dL_law_533 rfl ?_
  refine lv_iadd hx hb dL_law_534 ?_
  refine w_nm (v := nI (i + 1)) (nI_add i 1).symm ?_
  refine w_sldn hx hb hX hbl hbA hG.2.2 (show i + 1 < L by omega) (by omega) dL_law_535 ?_
  refine lv_aload_n hx hb dL_law_536 rfl (lv_at hl 0 rfl) ?_
  refine lv_iload_n hx hb dL_law_537 rfl (lv_at hl 3 rfl) ?_
  refine lv_iconst (v := nI 2) hx hb dL_law_538 rfl ?_
  refine lv_iadd hx hb dL_law_539 ?_
  refine w_nm (v := nI (i + 2)) (nI_add i 2).symm ?_
  refine w_sldn hx hb hX hbl hbA hG.2.2 (show i + 2 < L by omega) (by omega) dL_law_540 ?_
  refine k_Pi F hK hA hG (c_X4_common l D y v H.size Fu r_s r_aside r_before r_known r_slots r_isSaved r_pad r_length r_letters r_heats r_reactions r_newSplits r_storiesThen r_heatThen r_place r_isWrong r_toldLetter r_toldHeat r_toldStory r_toldWords r_toldStories ((xs (i + 1))) ((xs (i + 2))) ro  e2) (cwV 2 F.2.2.2.2 gL_law_X4_common rfl rfl rfl (by decide +kernel) ⟨Nat.le_of_ble_eq_true rfl, Nat.le_of_ble_eq_true rfl⟩) 0 rfl rfl rfl rfl rfl hl.1 (Nat.le_of_ble_eq_true rfl) dL_law_541 hc (fun H locs hG => ?_)
  refine lv_icmp_eq (tgt := 829) hx hb dL_law_544 (by decide) (fun _ => ?_) (fun h => absurd rfl h)
  exact next H locs ⟨q_saved, q_runs_o, q_themes, q_storyHeats, p_characters, p_length, n_settings, n_letters, n_heats, n_starts, n_families, n_generations, n_tally, n_stories, n_nextFamily, n_splits, n_boilings, n_fizzles, t_settings, t_letters, t_heats, t_starts, t_families, t_generations, t_tally, t_stories, t_nextFamily, t_splits, t_boilings, t_fizzles, h_v, h_oldest, h_size, s_v, r_s, r_aside, r_before, r_known, r_slots, r_isSaved, r_pad, r_length, r_letters, r_heats, r_reactions, r_newSplits, r_storiesThen, r_heatThen, r_place, r_isWrong, r_toldLetter, r_toldHeat, r_toldStory, r_toldWords, r_toldStories, hR, hG.perm List.perm_append_comm⟩
set_option maxHeartbeats 4000000 in
set_option maxRecDepth 100000 in
theorem lc_ifHeated {p : Program} {l : Launch} {e : Env} {s : State} {m : MethodId} {below : List Frame} {meth : Method} {c : Code} {Q : State → Prop} {D : va_G} {y : Nat → ClassId} {b L : Nat} {xs : Nat → Int32} {cells slots : Nat} (hc : cells ≤ room_1.cells ∧ slots ≤ room_1.slots) (C0 : LC p s m c b L xs D y) {Fu M : Nat} (hF : 100000000 ≤ Fu) (hM : M ≤ 900000) {i : Nat} (hi : i + 5 ≤ L) {u : UX3} {v : Nat → Nat} {H : Heap} {locs : List Loc} {ls : Array Slot} (hl : lv_has ls 4 [(0, .ref b), (1, .ref (u.1 0)), (2, .ref (v 0)), (3, .int (nI i))]) (inv : LInv D y s u v M H locs)
    (next : ∀ (H : Heap) (locs : List Loc), LInv D y s u v (M + 12) H locs → W p l e room_1 s m #[Value.ref b] below meth c H locs cells slots Q (F0 m 829 ls [])) : W p l e room_1 s m #[Value.ref b] below meth c H locs cells slots Q (F0 m 549 ls []) := by
  obtain ⟨F, hK, hZ, hX, hbl, hL⟩ := C0
  have hx := F.1
  have hb := F.2.1
  have hA : ∀ q, s.heap.size ≤ q → lA s q := fun _ h => h
  have hbA : ¬ lA s b := Nat.not_le.mpr hbl
  obtain ⟨a, pa, na, ta, ha, hsb, sl, ssb⟩ := u
  have hl : lv_has ls 4 [(0, .ref b), (1, .ref (a 0)), (2, .ref (v 0)), (3, .int (nI i))] := hl
  obtain ⟨q_saved, q_runs, q_themes, q_storyHeats, p_characters, p_length, n_settings, n_letters, n_heats, n_starts, n_families, n_generations, n_tally, n_stories, n_nextFamily, n_splits, n_boilings, n_fizzles, t_settings, t_letters, t_heats, t_starts, t_families, t_generations, t_tally, t_stories, t_nextFamily, t_splits, t_boilings, t_fizzles, h_v, h_oldest, h_size, s_v, r_s, r_aside, r_before, r_known, r_slots, r_isSaved, r_pad, r_length, r_letters, r_heats, r_reactions, r_newSplits, r_storiesThen, r_heatThen, r_place, r_isWrong, r_toldLetter, r_toldHeat, r_toldStory, r_toldWords, r_toldStories, hR, hG⟩ := inv
  obtain ⟨ro, t_settings_o, t_letters_o, t_heats_o, t_starts_o, t_families_o, t_generations_o, t_stories_o, t_nextFamily_o, t_splits_o, t_boilings_o, t_fizzles_o, r_s_o, r_aside_o, r_reactions_o, r_newSplits_o, r_storiesThen_o, r_heatThen_o, e1, e2, hR⟩ := st_ifHeated hF hM q_saved p_characters p_length n_settings n_letters n_heats n_starts n_families n_generations n_stories n_nextFamily n_splits n_boilings n_fizzles h_v h_oldest h_size s_v r_s r_before r_known r_slots r_isSaved r_pad r_length t_settings t_letters t_heats t_starts t_families t_generations t_stories t_nextFamily t_splits t_boilings t_fizzles r_aside r_reactions r_newSplits r_storiesThen r_heatThen ((xs (i + 1))) ((xs (i + 2))) ((xs (i + 3))) ((xs (i + 4))) hR
  refine lv_aload_n hx hb dL_law_549 rfl (lv_at hl 1 rfl) ?_
  refine lv_aload_n hx hb dL_law_550 rfl (lv_at hl 0 rfl) ?_
  refine lv_iload_n hx hb dL_law_551 rfl (lv_at hl 3 rfl) ?_
  refine lv_iconst (v := nI 1) hx hb dL_law_552 rfl ?_
  refine lv_iadd hx hb dL_law_553 ?_
  refine w_nm (v := nI (i + 1)) (nI_add i 1).symm ?_
  refine w_sldn hx hb hX hbl hbA hG.2.2 (show i + 1 < L by omega) (by omega) dL_law_554 ?_
  refine lv_aload_n hx hb dL_law_555 rfl (lv_at hl 0 rfl) ?_
  refine lv_iload_n hx hb dL_law_556 rfl (lv_at hl 3 rfl) ?_
  refine lv_iconst (v := nI 2) hx hb dL_law_557 rfl ?_
  refine lv_iadd hx hb dL_law_558 ?_
  refine w_nm (v := nI (i + 2)) (nI_add i 2).symm ?_
  refine w_sldn hx hb hX hbl hbA hG.2.2 (show i + 2 < L by omega) (by omega) dL_law_559 ?_
  refine lv_aload_n hx hb dL_law_560 rfl (lv_at hl 0 rfl) ?_
  refine lv_iload_n hx hb dL_law_561 rfl (lv_at hl 3 rfl) ?_
  refine lv_iconst (v := nI 3) hx hb dL_law_562 rfl ?_
  refine lv_iadd hx hb dL_law_563 ?_
  refine w_nm (v := nI (i + 3)) (nI_add i 3).symm ?_
  refine w_sldn hx hb hX hbl hbA hG.2.2 (show i + 3 < L by omega) (by omega) dL_law_564 ?_
  refine lv_aload_n hx hb dL_law_565 rfl (lv_at hl 0 rfl) ?_
  refine lv_iload_n hx hb dL_law_566 rfl (lv_at hl 3 rfl) ?_
  refine lv_iconst (v := nI 4) hx hb dL_law_567 rfl ?_
  refine lv_iadd hx hb dL_law_568 ?_
  refine w_nm (v := nI (i + 4)) (nI_add i 4).symm ?_
  refine w_sldn hx hb hX hbl hbA hG.2.2 (show i + 4 < L by omega) (by omega) dL_law_569 ?_
  refine k_Pi F hK hA hG (c_X3_ifHeated l D y a pa na ta ha hsb sl ssb H.size Fu q_saved q_runs q_themes q_storyHeats p_characters p_length n_settings n_letters n_heats n_starts n_families n_generations n_tally n_stories n_nextFamily n_splits n_boilings n_fizzles t_settings t_letters t_heats t_starts t_families t_generations t_tally t_stories t_nextFamily t_splits t_boilings t_fizzles h_v h_oldest h_size s_v ((xs (i + 1))) ((xs (i + 2))) ((xs (i + 3))) ((xs (i + 4))) ro t_settings_o t_letters_o t_heats_o t_starts_o t_families_o t_generations_o t_stories_o t_nextFamily_o t_splits_o t_boilings_o t_fizzles_o e1) (cwV 4 F.2.2.2.2 gL_law_X3_ifHeated rfl rfl rfl (by decide +kernel) ⟨Nat.le_of_ble_eq_true rfl, Nat.le_of_ble_eq_true rfl⟩) 0 rfl rfl (adr_app rfl (adr_app rfl (adr_app rfl (adr_app rfl (adr_app (adr_X0 ..) (adr_SL ..)))))) rfl rfl hl.1 (Nat.le_of_ble_eq_true rfl) dL_law_570 hc (fun H locs hG => ?_)
  have hG := hG.perm List.perm_append_comm
  refine lv_aload_n hx hb dL_law_573 rfl (lv_at hl 2 rfl) ?_
  refine lv_aload_n hx hb dL_law_574 rfl (lv_at hl 0 rfl) ?_
  refine lv_iload_n hx hb dL_law_575 rfl (lv_at hl 3 rfl) ?_
  refine lv_iconst (v := nI 1) hx hb dL_law_576 rfl ?_
  refine lv_iadd hx hb dL_law_577 ?_
  refine w_nm (v := nI (i + 1)) (nI_add i 1).symm ?_
  refine w_sldn hx hb hX hbl hbA hG.2.2 (show i + 1 < L by omega) (by omega) dL_law_578 ?_
  refine lv_aload_n hx hb dL_law_579 rfl (lv_at hl 0 rfl) ?_
  refine lv_iload_n hx hb dL_law_580 rfl (lv_at hl 3 rfl) ?_
  refine lv_iconst (v := nI 2) hx hb dL_law_581 rfl ?_
  refine lv_iadd hx hb dL_law_582 ?_
  refine w_nm (v := nI (i + 2)) (nI_add i 2).symm ?_
  refine w_sldn hx hb hX hbl hbA hG.2.2 (show i + 2 < L by omega) (by omega) dL_law_583 ?_
  refine lv_aload_n hx hb dL_law_584 rfl (lv_at hl 0 rfl) ?_
  refine lv_iload_n hx hb dL_law_585 rfl (lv_at hl 3 rfl) ?_
  refine lv_iconst (v := nI 3) hx hb dL_law_586 rfl ?_
  refine lv_iadd hx hb dL_law_587 ?_
  refine w_nm (v := nI (i + 3)) (nI_add i 3).symm ?_
  refine w_sldn hx hb hX hbl hbA hG.2.2 (show i + 3 < L by omega) (by omega) dL_law_588 ?_
  refine lv_aload_n hx hb dL_law_589 rfl (lv_at hl 0 rfl) ?_
  refine lv_iload_n hx hb dL_law_590 rfl (lv_at hl 3 rfl) ?_
  refine lv_iconst (v := nI 4) hx hb dL_law_591 rfl ?_
  refine lv_iadd hx hb dL_law_592 ?_
  refine w_nm (v := nI (i + 4)) (nI_add i 4).symm ?_
  refine w_sldn hx hb hX hbl hbA hG.2.2 (show i + 4 < L by omega) (by omega) dL_law_593 ?_
  refine k_Pi F hK hA hG (c_X4_ifHeated l D y v H.size Fu r_s r_aside r_before r_known r_slots r_isSaved r_pad r_length r_letters r_heats r_reactions r_newSplits r_storiesThen r_heatThen r_place r_isWrong r_toldLetter r_toldHeat r_toldStory r_toldWords r_toldStories ((xs (i + 1))) ((xs (i + 2))) ((xs (i + 3))) ((xs (i + 4))) ro r_s_o r_aside_o r_reactions_o r_newSplits_o r_storiesThen_o r_heatThen_o e2) (cwV 4 F.2.2.2.2 gL_law_X4_ifHeated rfl rfl rfl (by decide +kernel) ⟨Nat.le_of_ble_eq_true rfl, Nat.le_of_ble_eq_true rfl⟩) 0 rfl rfl rfl rfl rfl hl.1 (Nat.le_of_ble_eq_true rfl) dL_law_594 hc (fun H locs hG => ?_)
  refine lv_icmp_eq (tgt := 829) hx hb dL_law_597 (by decide) (fun _ => ?_) (fun h => absurd rfl h)
  exact next H locs ⟨q_saved, q_runs, q_themes, q_storyHeats, p_characters, p_length, n_settings, n_letters, n_heats, n_starts, n_families, n_generations, n_tally, n_stories, n_nextFamily, n_splits, n_boilings, n_fizzles, t_settings_o, t_letters_o, t_heats_o, t_starts_o, t_families_o, t_generations_o, t_tally, t_stories_o, t_nextFamily_o, t_splits_o, t_boilings_o, t_fizzles_o, h_v, h_oldest, h_size, s_v, r_s_o, r_aside_o, r_before, r_known, r_slots, r_isSaved, r_pad, r_length, r_letters, r_heats, r_reactions_o, r_newSplits_o, r_storiesThen_o, r_heatThen_o, r_place, r_isWrong, r_toldLetter, r_toldHeat, r_toldStory, r_toldWords, r_toldStories, hR, hG.perm List.perm_append_comm⟩
set_option maxHeartbeats 4000000 in
set_option maxRecDepth 100000 in
theorem lc_critical {p : Program} {l : Launch} {e : Env} {s : State} {m : MethodId} {below : List Frame} {meth : Method} {c : Code} {Q : State → Prop} {D : va_G} {y : Nat → ClassId} {b L : Nat} {xs : Nat → Int32} {cells slots : Nat} (hc : cells ≤ room_1.cells ∧ slots ≤ room_1.slots) (C0 : LC p s m c b L xs D y) {Fu M : Nat} (hF : 100000000 ≤ Fu) (hM : M ≤ 900000) {i : Nat} (hi : i + 5 ≤ L) {u : UX3} {v : Nat → Nat} {H : Heap} {locs : List Loc} {ls : Array Slot} (hl : lv_has ls 4 [(0, .ref b), (1, .ref (u.1 0)), (2, .ref (v 0)), (3, .int (nI i))]) (inv : LInv D y s u v M H locs)
    (next : ∀ (H : Heap) (locs : List Loc), LInv D y s u v (M + 12) H locs → W p l e room_1 s m #[Value.ref b] below meth c H locs cells slots Q (F0 m 829 ls [])) : W p l e room_1 s m #[Value.ref b] below meth c H locs cells slots Q (F0 m 602 ls []) := by
  obtain ⟨F, hK, hZ, hX, hbl, hL⟩ := C0
  have hx := F.1
  have hb := F.2.1
  have hA : ∀ q, s.heap.size ≤ q → lA s q := fun _ h => h
  have hbA : ¬ lA s b := Nat.not_le.mpr hbl
  obtain ⟨a, pa, na, ta, ha, hsb, sl, ssb⟩ := u
  have hl : lv_has ls 4 [(0, .ref b), (1, .ref (a 0)), (2, .ref (v 0)), (3, .int (nI i))] := hl
  obtain ⟨q_saved, q_runs, q_themes, q_storyHeats, p_characters, p_length, n_settings, n_letters, n_heats, n_starts, n_families, n_generations, n_tally, n_stories, n_nextFamily, n_splits, n_boilings, n_fizzles, t_settings, t_letters, t_heats, t_starts, t_families, t_generations, t_tally, t_stories, t_nextFamily, t_splits, t_boilings, t_fizzles, h_v, h_oldest, h_size, s_v, r_s, r_aside, r_before, r_known, r_slots, r_isSaved, r_pad, r_length, r_letters, r_heats, r_reactions, r_newSplits, r_storiesThen, r_heatThen, r_place, r_isWrong, r_toldLetter, r_toldHeat, r_toldStory, r_toldWords, r_toldStories, hR, hG⟩ := inv
  obtain ⟨ro, t_settings_o, t_letters_o, t_heats_o, t_starts_o, t_families_o, t_generations_o, t_stories_o, t_nextFamily_o, t_splits_o, t_boilings_o, t_fizzles_o, r_s_o, r_aside_o, r_reactions_o, r_newSplits_o, r_storiesThen_o, r_heatThen_o, e1, e2, hR⟩ := st_critical hF hM q_saved p_characters p_length n_settings n_letters n_heats n_starts n_families n_generations n_stories n_nextFamily n_splits n_boilings n_fizzles h_v h_oldest h_size s_v r_s r_before r_known r_slots r_isSaved r_pad r_length t_settings t_letters t_heats t_starts t_families t_generations t_stories t_nextFamily t_splits t_boilings t_fizzles r_aside r_reactions r_newSplits r_storiesThen r_heatThen ((xs (i + 1))) ((xs (i + 2))) hR
  refine lv_aload_n hx hb dL_law_602 rfl (lv_at hl 1 rfl) ?_
  refine lv_aload_n hx hb dL_law_603 rfl (lv_at hl 0 rfl) ?_
  refine lv_iload_n hx hb dL_law_604 rfl (lv_at hl 3 rfl) ?_
  refine lv_iconst (v := nI 1) hx hb dL_law_605 rfl ?_
  refine lv_iadd hx hb dL_law_606 ?_
  refine w_nm (v := nI (i + 1)) (nI_add i 1).symm ?_
  refine w_sldn hx hb hX hbl hbA hG.2.2 (show i + 1 < L by omega) (by omega) dL_law_607 ?_
  refine lv_aload_n hx hb dL_law_608 rfl (lv_at hl 0 rfl) ?_
  refine lv_iload_n hx hb dL_law_609 rfl (lv_at hl 3 rfl) ?_
  refine lv_iconst (v := nI 2) hx hb dL_law_610 rfl ?_
  refine lv_iadd hx hb dL_law_611 ?_
  refine w_nm (v := nI (i + 2)) (nI_add i 2).symm ?_
  refine w_sldn hx hb hX hbl hbA hG.2.2 (show i + 2 < L by omega) (by omega) dL_law_612 ?_
  refine k_Pi F hK hA hG (c_X3_critical l D y a pa na ta ha hsb sl ssb H.size Fu q_saved q_runs q_themes q_storyHeats p_characters p_length n_settings n_letters n_heats n_starts n_families n_generations n_tally n_stories n_nextFamily n_splits n_boilings n_fizzles t_settings t_letters t_heats t_starts t_families t_generations t_tally t_stories t_nextFamily t_splits t_boilings t_fizzles h_v h_oldest h_size s_v ((xs (i + 1))) ((xs (i + 2))) ro t_settings_o t_letters_o t_heats_o t_starts_o t_families_o t_generations_o t_stories_o t_nextFamily_o t_splits_o t_boilings_o t_fizzles_o e1) (cwV 2 F.2.2.2.2 gL_law_X3_critical rfl rfl rfl (by decide +kernel) ⟨Nat.le_of_ble_eq_true rfl, Nat.le_of_ble_eq_true rfl⟩) 0 rfl rfl (adr_app rfl (adr_app rfl (adr_app rfl (adr_app rfl (adr_app (adr_X0 ..) (adr_SL ..)))))) rfl rfl hl.1 (Nat.le_of_ble_eq_true rfl) dL_law_613 hc (fun H locs hG => ?_)
  have hG := hG.perm List.perm_append_comm
  refine lv_aload_n hx hb dL_law_616 rfl (lv_at hl 2 rfl) ?_
  refine lv_aload_n hx hb dL_law_617 rfl (lv_at hl 0 rfl) ?_
  refine lv_iload_n hx hb dL_law_618 rfl (lv_at hl 3 rfl) ?_
  refine lv_iconst (v := nI 1) hx hb dL_law_619 rfl ?_
  refine lv_iadd hx hb dL_law_620 ?_
  refine w_nm (v := nI (i + 1)) (nI_add i 1).symm ?_
  refine w_sldn hx hb hX hbl hbA hG.2.2 (show i + 1 < L by omega) (by omega) dL_law_621 ?_
  refine lv_aload_n hx hb dL_law_622 rfl (lv_at hl 0 rfl) ?_
  refine lv_iload_n hx hb dL_law_623 rfl (lv_at hl 3 rfl) ?_
  refine lv_iconst (v := nI 2) hx hb dL_law_624 rfl ?_
  refine lv_iadd hx hb dL_law_625 ?_
  refine w_nm (v := nI (i + 2)) (nI_add i 2).symm ?_
  refine w_sldn hx hb hX hbl hbA hG.2.2 (show i + 2 < L by omega) (by omega) dL_law_626 ?_
  refine k_Pi F hK hA hG (c_X4_critical l D y v H.size Fu r_s r_aside r_before r_known r_slots r_isSaved r_pad r_length r_letters r_heats r_reactions r_newSplits r_storiesThen r_heatThen r_place r_isWrong r_toldLetter r_toldHeat r_toldStory r_toldWords r_toldStories ((xs (i + 1))) ((xs (i + 2))) ro r_s_o r_aside_o r_reactions_o r_newSplits_o r_storiesThen_o r_heatThen_o e2) (cwV 2 F.2.2.2.2 gL_law_X4_critical rfl rfl rfl (by decide +kernel) ⟨Nat.le_of_ble_eq_true rfl, Nat.le_of_ble_eq_true rfl⟩) 0 rfl rfl rfl rfl rfl hl.1 (Nat.le_of_ble_eq_true rfl) dL_law_627 hc (fun H locs hG => ?_)
  refine lv_icmp_eq (tgt := 829) hx hb dL_law_630 (by decide) (fun _ => ?_) (fun h => absurd rfl h)
  exact next H locs ⟨q_saved, q_runs, q_themes, q_storyHeats, p_characters, p_length, n_settings, n_letters, n_heats, n_starts, n_families, n_generations, n_tally, n_stories, n_nextFamily, n_splits, n_boilings, n_fizzles, t_settings_o, t_letters_o, t_heats_o, t_starts_o, t_families_o, t_generations_o, t_tally, t_stories_o, t_nextFamily_o, t_splits_o, t_boilings_o, t_fizzles_o, h_v, h_oldest, h_size, s_v, r_s_o, r_aside_o, r_before, r_known, r_slots, r_isSaved, r_pad, r_length, r_letters, r_heats, r_reactions_o, r_newSplits_o, r_storiesThen_o, r_heatThen_o, r_place, r_isWrong, r_toldLetter, r_toldHeat, r_toldStory, r_toldWords, r_toldStories, hR, hG.perm List.perm_append_comm⟩
set_option maxHeartbeats 4000000 in
set_option maxRecDepth 100000 in
theorem lc_touchiest {p : Program} {l : Launch} {e : Env} {s : State} {m : MethodId} {below : List Frame} {meth : Method} {c : Code} {Q : State → Prop} {D : va_G} {y : Nat → ClassId} {b L : Nat} {xs : Nat → Int32} {cells slots : Nat} (hc : cells ≤ room_1.cells ∧ slots ≤ room_1.slots) (C0 : LC p s m c b L xs D y) {Fu M : Nat} (hF : 100000000 ≤ Fu) (hM : M ≤ 900000) {i : Nat} (hi : i + 5 ≤ L) {u : UX3} {v : Nat → Nat} {H : Heap} {locs : List Loc} {ls : Array Slot} (hl : lv_has ls 4 [(0, .ref b), (1, .ref (u.1 0)), (2, .ref (v 0)), (3, .int (nI i))]) (inv : LInv D y s u v M H locs)
    (next : ∀ (H : Heap) (locs : List Loc), LInv D y s u v (M + 12) H locs → W p l e room_1 s m #[Value.ref b] below meth c H locs cells slots Q (F0 m 829 ls [])) : W p l e room_1 s m #[Value.ref b] below meth c H locs cells slots Q (F0 m 635 ls []) := by
  obtain ⟨F, hK, hZ, hX, hbl, hL⟩ := C0
  have hx := F.1
  have hb := F.2.1
  have hA : ∀ q, s.heap.size ≤ q → lA s q := fun _ h => h
  have hbA : ¬ lA s b := Nat.not_le.mpr hbl
  obtain ⟨a, pa, na, ta, ha, hsb, sl, ssb⟩ := u
  have hl : lv_has ls 4 [(0, .ref b), (1, .ref (a 0)), (2, .ref (v 0)), (3, .int (nI i))] := hl
  obtain ⟨q_saved, q_runs, q_themes, q_storyHeats, p_characters, p_length, n_settings, n_letters, n_heats, n_starts, n_families, n_generations, n_tally, n_stories, n_nextFamily, n_splits, n_boilings, n_fizzles, t_settings, t_letters, t_heats, t_starts, t_families, t_generations, t_tally, t_stories, t_nextFamily, t_splits, t_boilings, t_fizzles, h_v, h_oldest, h_size, s_v, r_s, r_aside, r_before, r_known, r_slots, r_isSaved, r_pad, r_length, r_letters, r_heats, r_reactions, r_newSplits, r_storiesThen, r_heatThen, r_place, r_isWrong, r_toldLetter, r_toldHeat, r_toldStory, r_toldWords, r_toldStories, hR, hG⟩ := inv
  obtain ⟨ro, t_settings_o, t_letters_o, t_heats_o, t_starts_o, t_families_o, t_generations_o, t_stories_o, t_nextFamily_o, t_splits_o, t_boilings_o, t_fizzles_o, r_s_o, r_aside_o, r_reactions_o, r_newSplits_o, r_storiesThen_o, r_heatThen_o, e1, e2, hR⟩ := st_touchiest hF hM q_saved p_characters p_length n_settings n_letters n_heats n_starts n_families n_generations n_stories n_nextFamily n_splits n_boilings n_fizzles h_v h_oldest h_size s_v r_s r_before r_known r_slots r_isSaved r_pad r_length t_settings t_letters t_heats t_starts t_families t_generations t_stories t_nextFamily t_splits t_boilings t_fizzles r_aside r_reactions r_newSplits r_storiesThen r_heatThen ((xs (i + 1))) ((xs (i + 2))) hR
  refine lv_aload_n hx hb dL_law_635 rfl (lv_at hl 1 rfl) ?_
  refine lv_aload_n hx hb dL_law_636 rfl (lv_at hl 0 rfl) ?_
  refine lv_iload_n hx hb dL_law_637 rfl (lv_at hl 3 rfl) ?_
  refine lv_iconst (v := nI 1) hx hb dL_law_638 rfl ?_
  refine lv_iadd hx hb dL_law_639 ?_
  refine w_nm (v := nI (i + 1)) (nI_add i 1).symm ?_
  refine w_sldn hx hb hX hbl hbA hG.2.2 (show i + 1 < L by omega) (by omega) dL_law_640 ?_
  refine lv_aload_n hx hb dL_law_641 rfl (lv_at hl 0 rfl) ?_
  refine lv_iload_n hx hb dL_law_642 rfl (lv_at hl 3 rfl) ?_
  refine lv_iconst (v := nI 2) hx hb dL_law_643 rfl ?_
  refine lv_iadd hx hb dL_law_644 ?_
  refine w_nm (v := nI (i + 2)) (nI_add i 2).symm ?_
  refine w_sldn hx hb hX hbl hbA hG.2.2 (show i + 2 < L by omega) (by omega) dL_law_645 ?_
  refine k_Pi F hK hA hG (c_X3_touchiest l D y a pa na ta ha hsb sl ssb H.size Fu q_saved q_runs q_themes q_storyHeats p_characters p_length n_settings n_letters n_heats n_starts n_families n_generations n_tally n_stories n_nextFamily n_splits n_boilings n_fizzles t_settings t_letters t_heats t_starts t_families t_generations t_tally t_stories t_nextFamily t_splits t_boilings t_fizzles h_v h_oldest h_size s_v ((xs (i + 1))) ((xs (i + 2))) ro t_settings_o t_letters_o t_heats_o t_starts_o t_families_o t_generations_o t_stories_o t_nextFamily_o t_splits_o t_boilings_o t_fizzles_o e1) (cwV 2 F.2.2.2.2 gL_law_X3_touchiest rfl rfl rfl (by decide +kernel) ⟨Nat.le_of_ble_eq_true rfl, Nat.le_of_ble_eq_true rfl⟩) 0 rfl rfl (adr_app rfl (adr_app rfl (adr_app rfl (adr_app rfl (adr_app (adr_X0 ..) (adr_SL ..)))))) rfl rfl hl.1 (Nat.le_of_ble_eq_true rfl) dL_law_646 hc (fun H locs hG => ?_)
  have hG := hG.perm List.perm_append_comm
  refine lv_aload_n hx hb dL_law_649 rfl (lv_at hl 2 rfl) ?_
  refine lv_aload_n hx hb dL_law_650 rfl (lv_at hl 0 rfl) ?_
  refine lv_iload_n hx hb dL_law_651 rfl (lv_at hl 3 rfl) ?_
  refine lv_iconst (v := nI 1) hx hb dL_law_652 rfl ?_
  refine lv_iadd hx hb dL_law_653 ?_
  refine w_nm (v := nI (i + 1)) (nI_add i 1).symm ?_
  refine w_sldn hx hb hX hbl hbA hG.2.2 (show i + 1 < L by omega) (by omega) dL_law_654 ?_
  refine lv_aload_n hx hb dL_law_655 rfl (lv_at hl 0 rfl) ?_
  refine lv_iload_n hx hb dL_law_656 rfl (lv_at hl 3 rfl) ?_
  refine lv_iconst (v := nI 2) hx hb dL_law_657 rfl ?_
  refine lv_iadd hx hb dL_law_658 ?_
  refine w_nm (v := nI (i + 2)) (nI_add i 2).symm ?_
  refine w_sldn hx hb hX hbl hbA hG.2.2 (show i + 2 < L by omega) (by omega) dL_law_659 ?_
  refine k_Pi F hK hA hG (c_X4_touchiest l D y v H.size Fu r_s r_aside r_before r_known r_slots r_isSaved r_pad r_length r_letters r_heats r_reactions r_newSplits r_storiesThen r_heatThen r_place r_isWrong r_toldLetter r_toldHeat r_toldStory r_toldWords r_toldStories ((xs (i + 1))) ((xs (i + 2))) ro r_s_o r_aside_o r_reactions_o r_newSplits_o r_storiesThen_o r_heatThen_o e2) (cwV 2 F.2.2.2.2 gL_law_X4_touchiest rfl rfl rfl (by decide +kernel) ⟨Nat.le_of_ble_eq_true rfl, Nat.le_of_ble_eq_true rfl⟩) 0 rfl rfl rfl rfl rfl hl.1 (Nat.le_of_ble_eq_true rfl) dL_law_660 hc (fun H locs hG => ?_)
  refine lv_icmp_eq (tgt := 829) hx hb dL_law_663 (by decide) (fun _ => ?_) (fun h => absurd rfl h)
  exact next H locs ⟨q_saved, q_runs, q_themes, q_storyHeats, p_characters, p_length, n_settings, n_letters, n_heats, n_starts, n_families, n_generations, n_tally, n_stories, n_nextFamily, n_splits, n_boilings, n_fizzles, t_settings_o, t_letters_o, t_heats_o, t_starts_o, t_families_o, t_generations_o, t_tally, t_stories_o, t_nextFamily_o, t_splits_o, t_boilings_o, t_fizzles_o, h_v, h_oldest, h_size, s_v, r_s_o, r_aside_o, r_before, r_known, r_slots, r_isSaved, r_pad, r_length, r_letters, r_heats, r_reactions_o, r_newSplits_o, r_storiesThen_o, r_heatThen_o, r_place, r_isWrong, r_toldLetter, r_toldHeat, r_toldStory, r_toldWords, r_toldStories, hR, hG.perm List.perm_append_comm⟩
set_option maxHeartbeats 4000000 in
set_option maxRecDepth 100000 in
theorem lc_coolestPair {p : Program} {l : Launch} {e : Env} {s : State} {m : MethodId} {below : List Frame} {meth : Method} {c : Code} {Q : State → Prop} {D : va_G} {y : Nat → ClassId} {b L : Nat} {xs : Nat → Int32} {cells slots : Nat} (hc : cells ≤ room_1.cells ∧ slots ≤ room_1.slots) (C0 : LC p s m c b L xs D y) {Fu M : Nat} (hF : 100000000 ≤ Fu) (hM : M ≤ 900000) {i : Nat} (hi : i + 5 ≤ L) {u : UX3} {v : Nat → Nat} {H : Heap} {locs : List Loc} {ls : Array Slot} (hl : lv_has ls 4 [(0, .ref b), (1, .ref (u.1 0)), (2, .ref (v 0)), (3, .int (nI i))]) (inv : LInv D y s u v M H locs)
    (next : ∀ (H : Heap) (locs : List Loc), LInv D y s u v (M + 12) H locs → W p l e room_1 s m #[Value.ref b] below meth c H locs cells slots Q (F0 m 829 ls [])) : W p l e room_1 s m #[Value.ref b] below meth c H locs cells slots Q (F0 m 668 ls []) := by
  obtain ⟨F, hK, hZ, hX, hbl, hL⟩ := C0
  have hx := F.1
  have hb := F.2.1
  have hA : ∀ q, s.heap.size ≤ q → lA s q := fun _ h => h
  have hbA : ¬ lA s b := Nat.not_le.mpr hbl
  obtain ⟨a, pa, na, ta, ha, hsb, sl, ssb⟩ := u
  have hl : lv_has ls 4 [(0, .ref b), (1, .ref (a 0)), (2, .ref (v 0)), (3, .int (nI i))] := hl
  obtain ⟨q_saved, q_runs, q_themes, q_storyHeats, p_characters, p_length, n_settings, n_letters, n_heats, n_starts, n_families, n_generations, n_tally, n_stories, n_nextFamily, n_splits, n_boilings, n_fizzles, t_settings, t_letters, t_heats, t_starts, t_families, t_generations, t_tally, t_stories, t_nextFamily, t_splits, t_boilings, t_fizzles, h_v, h_oldest, h_size, s_v, r_s, r_aside, r_before, r_known, r_slots, r_isSaved, r_pad, r_length, r_letters, r_heats, r_reactions, r_newSplits, r_storiesThen, r_heatThen, r_place, r_isWrong, r_toldLetter, r_toldHeat, r_toldStory, r_toldWords, r_toldStories, hR, hG⟩ := inv
  obtain ⟨ro, q_themes_o, q_storyHeats_o, n_tally_o, e1, e2, hR⟩ := st_coolestPair hF hM q_saved p_characters p_length n_settings n_letters n_heats n_starts n_families n_generations n_stories n_nextFamily n_splits n_boilings n_fizzles h_v h_oldest h_size s_v r_s r_before r_known r_slots r_isSaved r_pad r_length q_themes q_storyHeats n_tally ((xs (i + 1))) hR
  refine lv_aload_n hx hb dL_law_668 rfl (lv_at hl 1 rfl) ?_
  refine lv_aload_n hx hb dL_law_669 rfl (lv_at hl 0 rfl) ?_
  refine lv_iload_n hx hb dL_law_670 rfl (lv_at hl 3 rfl) ?_
  refine lv_iconst (v := nI 1) hx hb dL_law_671 rfl ?_
  refine lv_iadd hx hb dL_law_672 ?_
  refine w_nm (v := nI (i + 1)) (nI_add i 1).symm ?_
  refine w_sldn hx hb hX hbl hbA hG.2.2 (show i + 1 < L by omega) (by omega) dL_law_673 ?_
  refine k_Pi F hK hA hG (c_X3_coolestPair l D y a pa na ta ha hsb sl ssb H.size Fu q_saved q_runs q_themes q_storyHeats p_characters p_length n_settings n_letters n_heats n_starts n_families n_generations n_tally n_stories n_nextFamily n_splits n_boilings n_fizzles t_settings t_letters t_heats t_starts t_families t_generations t_tally t_stories t_nextFamily t_splits t_boilings t_fizzles h_v h_oldest h_size s_v ((xs (i + 1))) ro q_themes_o q_storyHeats_o n_tally_o e1) (cwV 1 F.2.2.2.2 gL_law_X3_coolestPair rfl rfl rfl (by decide +kernel) ⟨Nat.le_of_ble_eq_true rfl, Nat.le_of_ble_eq_true rfl⟩) 0 rfl rfl (adr_app rfl (adr_app rfl (adr_app rfl (adr_app rfl (adr_app (adr_X0 ..) (adr_SL ..)))))) rfl rfl hl.1 (Nat.le_of_ble_eq_true rfl) dL_law_674 hc (fun H locs hG => ?_)
  have hG := hG.perm List.perm_append_comm
  refine lv_aload_n hx hb dL_law_677 rfl (lv_at hl 2 rfl) ?_
  refine lv_aload_n hx hb dL_law_678 rfl (lv_at hl 0 rfl) ?_
  refine lv_iload_n hx hb dL_law_679 rfl (lv_at hl 3 rfl) ?_
  refine lv_iconst (v := nI 1) hx hb dL_law_680 rfl ?_
  refine lv_iadd hx hb dL_law_681 ?_
  refine w_nm (v := nI (i + 1)) (nI_add i 1).symm ?_
  refine w_sldn hx hb hX hbl hbA hG.2.2 (show i + 1 < L by omega) (by omega) dL_law_682 ?_
  refine k_Pi F hK hA hG (c_X4_coolestPair l D y v H.size Fu r_s r_aside r_before r_known r_slots r_isSaved r_pad r_length r_letters r_heats r_reactions r_newSplits r_storiesThen r_heatThen r_place r_isWrong r_toldLetter r_toldHeat r_toldStory r_toldWords r_toldStories ((xs (i + 1))) ro  e2) (cwV 1 F.2.2.2.2 gL_law_X4_coolestPair rfl rfl rfl (by decide +kernel) ⟨Nat.le_of_ble_eq_true rfl, Nat.le_of_ble_eq_true rfl⟩) 0 rfl rfl rfl rfl rfl hl.1 (Nat.le_of_ble_eq_true rfl) dL_law_683 hc (fun H locs hG => ?_)
  refine lv_icmp_eq (tgt := 829) hx hb dL_law_686 (by decide) (fun _ => ?_) (fun h => absurd rfl h)
  exact next H locs ⟨q_saved, q_runs, q_themes_o, q_storyHeats_o, p_characters, p_length, n_settings, n_letters, n_heats, n_starts, n_families, n_generations, n_tally_o, n_stories, n_nextFamily, n_splits, n_boilings, n_fizzles, t_settings, t_letters, t_heats, t_starts, t_families, t_generations, t_tally, t_stories, t_nextFamily, t_splits, t_boilings, t_fizzles, h_v, h_oldest, h_size, s_v, r_s, r_aside, r_before, r_known, r_slots, r_isSaved, r_pad, r_length, r_letters, r_heats, r_reactions, r_newSplits, r_storiesThen, r_heatThen, r_place, r_isWrong, r_toldLetter, r_toldHeat, r_toldStory, r_toldWords, r_toldStories, hR, hG.perm List.perm_append_comm⟩
set_option maxHeartbeats 4000000 in
set_option maxRecDepth 100000 in
theorem lc_put {p : Program} {l : Launch} {e : Env} {s : State} {m : MethodId} {below : List Frame} {meth : Method} {c : Code} {Q : State → Prop} {D : va_G} {y : Nat → ClassId} {b L : Nat} {xs : Nat → Int32} {cells slots : Nat} (hc : cells ≤ room_1.cells ∧ slots ≤ room_1.slots) (C0 : LC p s m c b L xs D y) {Fu M : Nat} (hF : 100000000 ≤ Fu) (hM : M ≤ 900000) {i : Nat} (hi : i + 5 ≤ L) {u : UX3} {v : Nat → Nat} {H : Heap} {locs : List Loc} {ls : Array Slot} (hl : lv_has ls 4 [(0, .ref b), (1, .ref (u.1 0)), (2, .ref (v 0)), (3, .int (nI i))]) (inv : LInv D y s u v M H locs)
    (next : ∀ (H : Heap) (locs : List Loc), LInv D y s u v (M + 12) H locs → W p l e room_1 s m #[Value.ref b] below meth c H locs cells slots Q (F0 m 829 ls [])) : W p l e room_1 s m #[Value.ref b] below meth c H locs cells slots Q (F0 m 691 ls []) := by
  obtain ⟨F, hK, hZ, hX, hbl, hL⟩ := C0
  have hx := F.1
  have hb := F.2.1
  have hA : ∀ q, s.heap.size ≤ q → lA s q := fun _ h => h
  have hbA : ¬ lA s b := Nat.not_le.mpr hbl
  obtain ⟨a, pa, na, ta, ha, hsb, sl, ssb⟩ := u
  have hl : lv_has ls 4 [(0, .ref b), (1, .ref (a 0)), (2, .ref (v 0)), (3, .int (nI i))] := hl
  obtain ⟨q_saved, q_runs, q_themes, q_storyHeats, p_characters, p_length, n_settings, n_letters, n_heats, n_starts, n_families, n_generations, n_tally, n_stories, n_nextFamily, n_splits, n_boilings, n_fizzles, t_settings, t_letters, t_heats, t_starts, t_families, t_generations, t_tally, t_stories, t_nextFamily, t_splits, t_boilings, t_fizzles, h_v, h_oldest, h_size, s_v, r_s, r_aside, r_before, r_known, r_slots, r_isSaved, r_pad, r_length, r_letters, r_heats, r_reactions, r_newSplits, r_storiesThen, r_heatThen, r_place, r_isWrong, r_toldLetter, r_toldHeat, r_toldStory, r_toldWords, r_toldStories, hR, hG⟩ := inv
  obtain ⟨ro, p_characters_o, p_length_o, r_pad_o, r_length_o, e1, e2, hR⟩ := st_put hF hM q_saved p_characters p_length n_settings n_letters n_heats n_starts n_families n_generations n_stories n_nextFamily n_splits n_boilings n_fizzles h_v h_oldest h_size s_v r_s r_before r_known r_slots r_isSaved r_pad r_length  ((((xs (i + 1)).toInt64 <<< ((nI 32).toInt64 &&& 63)) ||| ((xs (i + 2)).toInt64 &&& 4294967295))) hR
  refine lv_aload_n hx hb dL_law_691 rfl (lv_at hl 1 rfl) ?_
  refine lv_aload_n hx hb dL_law_692 rfl (lv_at hl 0 rfl) ?_
  refine lv_iload_n hx hb dL_law_693 rfl (lv_at hl 3 rfl) ?_
  refine lv_iconst (v := nI 1) hx hb dL_law_694 rfl ?_
  refine lv_iadd hx hb dL_law_695 ?_
  refine w_nm (v := nI (i + 1)) (nI_add i 1).symm ?_
  refine w_sldn hx hb hX hbl hbA hG.2.2 (show i + 1 < L by omega) (by omega) dL_law_696 ?_
  refine lv_i2l (v := (xs (i + 1)).toInt64) hx hb dL_law_697 rfl ?_
  refine lv_bipush (v := nI 32) hx hb dL_law_698 rfl ?_
  refine lv_lshl (v := (xs (i + 1)).toInt64 <<< ((nI 32).toInt64 &&& 63)) hx hb dL_law_700 rfl ?_
  refine lv_aload_n hx hb dL_law_701 rfl (lv_at hl 0 rfl) ?_
  refine lv_iload_n hx hb dL_law_702 rfl (lv_at hl 3 rfl) ?_
  refine lv_iconst (v := nI 2) hx hb dL_law_703 rfl ?_
  refine lv_iadd hx hb dL_law_704 ?_
  refine w_nm (v := nI (i + 2)) (nI_add i 2).symm ?_
  refine w_sldn hx hb hX hbl hbA hG.2.2 (show i + 2 < L by omega) (by omega) dL_law_705 ?_
  refine lv_i2l (v := (xs (i + 2)).toInt64) hx hb dL_law_706 rfl ?_
  refine lv_ldc2 (v := 4294967295) hx hb F.2.2.2.1 (F.2.2.2.2 (.constantLong RL 86 (4294967295)) (List.mem_of_getElem? (i := 6) rfl)) dL_law_707 ?_
  refine lv_land hx hb dL_law_710 ?_
  refine lv_lor hx hb dL_law_711 ?_
  refine k_Pi F hK hA hG (c_X3_put l D y a pa na ta ha hsb sl ssb H.size Fu q_saved q_runs q_themes q_storyHeats p_characters p_length n_settings n_letters n_heats n_starts n_families n_generations n_tally n_stories n_nextFamily n_splits n_boilings n_fizzles t_settings t_letters t_heats t_starts t_families t_generations t_tally t_stories t_nextFamily t_splits t_boilings t_fizzles h_v h_oldest h_size s_v ((((xs (i + 1)).toInt64 <<< ((nI 32).toInt64 &&& 63)) ||| ((xs (i + 2)).toInt64 &&& 4294967295))) ro p_characters_o p_length_o e1) (cwV 1 F.2.2.2.2 gL_law_X3_put rfl rfl rfl (by decide +kernel) ⟨Nat.le_of_ble_eq_true rfl, Nat.le_of_ble_eq_true rfl⟩) 0 rfl rfl (adr_app rfl (adr_app rfl (adr_app rfl (adr_app rfl (adr_app (adr_X0 ..) (adr_SL ..)))))) rfl rfl hl.1 (Nat.le_of_ble_eq_true rfl) dL_law_712 hc (fun H locs hG => ?_)
  have hG := hG.perm List.perm_append_comm
  refine lv_aload_n hx hb dL_law_715 rfl (lv_at hl 2 rfl) ?_
  refine lv_aload_n hx hb dL_law_716 rfl (lv_at hl 0 rfl) ?_
  refine lv_iload_n hx hb dL_law_717 rfl (lv_at hl 3 rfl) ?_
  refine lv_iconst (v := nI 1) hx hb dL_law_718 rfl ?_
  refine lv_iadd hx hb dL_law_719 ?_
  refine w_nm (v := nI (i + 1)) (nI_add i 1).symm ?_
  refine w_sldn hx hb hX hbl hbA hG.2.2 (show i + 1 < L by omega) (by omega) dL_law_720 ?_
  refine lv_i2l (v := (xs (i + 1)).toInt64) hx hb dL_law_721 rfl ?_
  refine lv_bipush (v := nI 32) hx hb dL_law_722 rfl ?_
  refine lv_lshl (v := (xs (i + 1)).toInt64 <<< ((nI 32).toInt64 &&& 63)) hx hb dL_law_724 rfl ?_
  refine lv_aload_n hx hb dL_law_725 rfl (lv_at hl 0 rfl) ?_
  refine lv_iload_n hx hb dL_law_726 rfl (lv_at hl 3 rfl) ?_
  refine lv_iconst (v := nI 2) hx hb dL_law_727 rfl ?_
  refine lv_iadd hx hb dL_law_728 ?_
  refine w_nm (v := nI (i + 2)) (nI_add i 2).symm ?_
  refine w_sldn hx hb hX hbl hbA hG.2.2 (show i + 2 < L by omega) (by omega) dL_law_729 ?_
  refine lv_i2l (v := (xs (i + 2)).toInt64) hx hb dL_law_730 rfl ?_
  refine lv_ldc2 (v := 4294967295) hx hb F.2.2.2.1 (F.2.2.2.2 (.constantLong RL 86 (4294967295)) (List.mem_of_getElem? (i := 6) rfl)) dL_law_731 ?_
  refine lv_land hx hb dL_law_734 ?_
  refine lv_lor hx hb dL_law_735 ?_
  refine k_Pi F hK hA hG (c_X4_put l D y v H.size Fu r_s r_aside r_before r_known r_slots r_isSaved r_pad r_length r_letters r_heats r_reactions r_newSplits r_storiesThen r_heatThen r_place r_isWrong r_toldLetter r_toldHeat r_toldStory r_toldWords r_toldStories ((((xs (i + 1)).toInt64 <<< ((nI 32).toInt64 &&& 63)) ||| ((xs (i + 2)).toInt64 &&& 4294967295))) ro r_pad_o r_length_o e2) (cwV 1 F.2.2.2.2 gL_law_X4_put rfl rfl rfl (by decide +kernel) ⟨Nat.le_of_ble_eq_true rfl, Nat.le_of_ble_eq_true rfl⟩) 0 rfl rfl rfl rfl rfl hl.1 (Nat.le_of_ble_eq_true rfl) dL_law_736 hc (fun H locs hG => ?_)
  refine lv_icmp_eq (tgt := 829) hx hb dL_law_739 (by decide) (fun _ => ?_) (fun h => absurd rfl h)
  exact next H locs ⟨q_saved, q_runs, q_themes, q_storyHeats, p_characters_o, p_length_o, n_settings, n_letters, n_heats, n_starts, n_families, n_generations, n_tally, n_stories, n_nextFamily, n_splits, n_boilings, n_fizzles, t_settings, t_letters, t_heats, t_starts, t_families, t_generations, t_tally, t_stories, t_nextFamily, t_splits, t_boilings, t_fizzles, h_v, h_oldest, h_size, s_v, r_s, r_aside, r_before, r_known, r_slots, r_isSaved, r_pad_o, r_length_o, r_letters, r_heats, r_reactions, r_newSplits, r_storiesThen, r_heatThen, r_place, r_isWrong, r_toldLetter, r_toldHeat, r_toldStory, r_toldWords, r_toldStories, hR, hG.perm List.perm_append_comm⟩
