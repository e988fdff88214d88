set_option maxHeartbeats 4000000 in
set_option maxRecDepth 100000 in
theorem lc_set {p : Program} {l : Launch} {e : Env} {s : State} {m : MethodId} {below : List Frame} {meth : Method} {c : Code} {Q : State → Prop} {D : va_G} {y : Nat → ClassId} {b L : Nat} {xs : Nat → Int32} {cells slots : Nat} (hc : cells ≤ room_1.cells ∧ slots ≤ room_1.slots) (C0 : LC p s m c b L xs D y) {Fu M : Nat} (hF : 100000000 ≤ Fu) (hM : M ≤ 900000) {i : Nat} (hi : i + 5 ≤ L) {u : UX3} {v : Nat → Nat} {H : Heap} {locs : List Loc} {ls : Array Slot} (hl : lv_has ls 4 [(0, .ref b), (1, .ref (u.1 0)), (2, .ref (v 0)), (3, .int (nI i))]) (inv : LInv D y s u v M H locs)
    (next : ∀ (H : Heap) (locs : List Loc), LInv D y s u v (M + 12) H locs → W p l e room_1 s m #[Value.ref b] below meth c H locs cells slots Q (F0 m 829 ls [])) : W p l e room_1 s m #[Value.ref b] below meth c H locs cells slots Q (F0 m 140 ls []) := by
  obtain ⟨F, hK, hZ, hX, hbl, hL⟩ := C0
  have hx := F.1
  have hb := F.2.1
  have hA : ∀ q, s.heap.size ≤ q → lA s q := fun _ h => h
  have hbA : ¬ lA s b := Nat.not_le.mpr hbl
  obtain ⟨a, pa, na, ta, ha, hsb, sl, ssb⟩ := u
  have hl : lv_has ls 4 [(0, .ref b), (1, .ref (a 0)), (2, .ref (v 0)), (3, .int (nI i))] := hl
  obtain ⟨q_saved, q_runs, q_themes, q_storyHeats, p_characters, p_length, n_settings, n_letters, n_heats, n_starts, n_families, n_generations, n_tally, n_stories, n_nextFamily, n_splits, n_boilings, n_fizzles, t_settings, t_letters, t_heats, t_starts, t_families, t_generations, t_tally, t_stories, t_nextFamily, t_splits, t_boilings, t_fizzles, h_v, h_oldest, h_size, s_v, r_s, r_aside, r_before, r_known, r_slots, r_isSaved, r_pad, r_length, r_letters, r_heats, r_reactions, r_newSplits, r_storiesThen, r_heatThen, r_place, r_isWrong, r_toldLetter, r_toldHeat, r_toldStory, r_toldWords, r_toldStories, hR, hG⟩ := inv
  obtain ⟨ro, n_settings_o, h_v_o, h_oldest_o, h_size_o, r_s_o, r_before_o, r_known_o, e1, e2, hR⟩ := st_set hF hM q_saved p_characters p_length n_settings n_letters n_heats n_starts n_families n_generations n_stories n_nextFamily n_splits n_boilings n_fizzles h_v h_oldest h_size s_v r_s r_before r_known r_slots r_isSaved r_pad r_length  ((xs (i + 1))) ((xs (i + 2))) hR
  refine lv_aload_n hx hb dL_law_140 rfl (lv_at hl 1 rfl) ?_
  refine lv_aload_n hx hb dL_law_141 rfl (lv_at hl 0 rfl) ?_
  refine lv_iload_n hx hb dL_law_142 rfl (lv_at hl 3 rfl) ?_
  refine lv_iconst (v := nI 1) hx hb dL_law_143 rfl ?_
  refine lv_iadd hx hb dL_law_144 ?_
  refine w_nm (v := nI (i + 1)) (nI_add i 1).symm ?_
  refine w_sldn hx hb hX hbl hbA hG.2.2 (show i + 1 < L by omega) (by omega) dL_law_145 ?_
  refine lv_aload_n hx hb dL_law_146 rfl (lv_at hl 0 rfl) ?_
  refine lv_iload_n hx hb dL_law_147 rfl (lv_at hl 3 rfl) ?_
  refine lv_iconst (v := nI 2) hx hb dL_law_148 rfl ?_
  refine lv_iadd hx hb dL_law_149 ?_
  refine w_nm (v := nI (i + 2)) (nI_add i 2).symm ?_
  refine w_sldn hx hb hX hbl hbA hG.2.2 (show i + 2 < L by omega) (by omega) dL_law_150 ?_
  refine k_PZ F hK hZ hA hG (c_X3_set l D y a pa na ta ha hsb sl ssb H.size Fu q_saved q_runs q_themes q_storyHeats p_characters p_length n_settings n_letters n_heats n_starts n_families n_generations n_tally n_stories n_nextFamily n_splits n_boilings n_fizzles t_settings t_letters t_heats t_starts t_families t_generations t_tally t_stories t_nextFamily t_splits t_boilings t_fizzles h_v h_oldest h_size s_v ((xs (i + 1))) ((xs (i + 2))) ro n_settings_o h_v_o h_oldest_o h_size_o e1) (cwV 2 F.2.2.2.2 gL_law_X3_set rfl rfl rfl (by decide +kernel) ⟨Nat.le_of_ble_eq_true rfl, Nat.le_of_ble_eq_true rfl⟩) 0 rfl rfl (adr_app rfl (adr_app rfl (adr_app rfl (adr_app rfl (adr_app (adr_X0 ..) (adr_SL ..)))))) rfl rfl hl.1 (Nat.le_of_ble_eq_true rfl) dL_law_151 hc (fun H locs hG => ?_)
  have hG := hG.perm List.perm_append_comm
  refine lv_aload_n hx hb dL_law_154 rfl (lv_at hl 2 rfl) ?_
  refine lv_aload_n hx hb dL_law_155 rfl (lv_at hl 0 rfl) ?_
  refine lv_iload_n hx hb dL_law_156 rfl (lv_at hl 3 rfl) ?_
  refine lv_iconst (v := nI 1) hx hb dL_law_157 rfl ?_
  refine lv_iadd hx hb dL_law_158 ?_
  refine w_nm (v := nI (i + 1)) (nI_add i 1).symm ?_
  refine w_sldn hx hb hX hbl hbA hG.2.2 (show i + 1 < L by omega) (by omega) dL_law_159 ?_
  refine lv_aload_n hx hb dL_law_160 rfl (lv_at hl 0 rfl) ?_
  refine lv_iload_n hx hb dL_law_161 rfl (lv_at hl 3 rfl) ?_
  refine lv_iconst (v := nI 2) hx hb dL_law_162 rfl ?_
  refine lv_iadd hx hb dL_law_163 ?_
  refine w_nm (v := nI (i + 2)) (nI_add i 2).symm ?_
  refine w_sldn hx hb hX hbl hbA hG.2.2 (show i + 2 < L by omega) (by omega) dL_law_164 ?_
  refine k_Pi F hK hA hG (c_X4_set l D y v H.size Fu r_s r_aside r_before r_known r_slots r_isSaved r_pad r_length r_letters r_heats r_reactions r_newSplits r_storiesThen r_heatThen r_place r_isWrong r_toldLetter r_toldHeat r_toldStory r_toldWords r_toldStories ((xs (i + 1))) ((xs (i + 2))) ro r_s_o r_before_o r_known_o e2) (cwV 2 F.2.2.2.2 gL_law_X4_set rfl rfl rfl (by decide +kernel) ⟨Nat.le_of_ble_eq_true rfl, Nat.le_of_ble_eq_true rfl⟩) 0 rfl rfl rfl rfl rfl hl.1 (Nat.le_of_ble_eq_true rfl) dL_law_165 hc (fun H locs hG => ?_)
  refine lv_icmp_eq (tgt := 829) hx hb dL_law_168 (by decide) (fun _ => ?_) (fun h => absurd rfl h)
  exact next H locs ⟨q_saved, q_runs, q_themes, q_storyHeats, p_characters, p_length, n_settings_o, n_letters, n_heats, n_starts, n_families, n_generations, n_tally, n_stories, n_nextFamily, n_splits, n_boilings, n_fizzles, t_settings, t_letters, t_heats, t_starts, t_families, t_generations, t_tally, t_stories, t_nextFamily, t_splits, t_boilings, t_fizzles, h_v_o, h_oldest_o, h_size_o, s_v, r_s_o, r_aside, r_before_o, r_known_o, r_slots, r_isSaved, r_pad, r_length, r_letters, r_heats, r_reactions, r_newSplits, r_storiesThen, r_heatThen, r_place, r_isWrong, r_toldLetter, r_toldHeat, r_toldStory, r_toldWords, r_toldStories, hR, hG.perm List.perm_append_comm⟩
set_option maxHeartbeats 4000000 in
set_option maxRecDepth 100000 in
theorem lc_write {p : Program} {l : Launch} {e : Env} {s : State} {m : MethodId} {below : List Frame} {meth : Method} {c : Code} {Q : State → Prop} {D : va_G} {y : Nat → ClassId} {b L : Nat} {xs : Nat → Int32} {cells slots : Nat} (hc : cells ≤ room_1.cells ∧ slots ≤ room_1.slots) (C0 : LC p s m c b L xs D y) {Fu M : Nat} (hF : 100000000 ≤ Fu) (hM : M ≤ 900000) {i : Nat} (hi : i + 5 ≤ L) {u : UX3} {v : Nat → Nat} {H : Heap} {locs : List Loc} {ls : Array Slot} (hl : lv_has ls 4 [(0, .ref b), (1, .ref (u.1 0)), (2, .ref (v 0)), (3, .int (nI i))]) (inv : LInv D y s u v M H locs)
    (next : ∀ (H : Heap) (locs : List Loc), LInv D y s u v (M + 12) H locs → W p l e room_1 s m #[Value.ref b] below meth c H locs cells slots Q (F0 m 829 ls [])) : W p l e room_1 s m #[Value.ref b] below meth c H locs cells slots Q (F0 m 173 ls []) := by
  obtain ⟨F, hK, hZ, hX, hbl, hL⟩ := C0
  have hx := F.1
  have hb := F.2.1
  have hA : ∀ q, s.heap.size ≤ q → lA s q := fun _ h => h
  have hbA : ¬ lA s b := Nat.not_le.mpr hbl
  obtain ⟨a, pa, na, ta, ha, hsb, sl, ssb⟩ := u
  have hl : lv_has ls 4 [(0, .ref b), (1, .ref (a 0)), (2, .ref (v 0)), (3, .int (nI i))] := hl
  obtain ⟨q_saved, q_runs, q_themes, q_storyHeats, p_characters, p_length, n_settings, n_letters, n_heats, n_starts, n_families, n_generations, n_tally, n_stories, n_nextFamily, n_splits, n_boilings, n_fizzles, t_settings, t_letters, t_heats, t_starts, t_families, t_generations, t_tally, t_stories, t_nextFamily, t_splits, t_boilings, t_fizzles, h_v, h_oldest, h_size, s_v, r_s, r_aside, r_before, r_known, r_slots, r_isSaved, r_pad, r_length, r_letters, r_heats, r_reactions, r_newSplits, r_storiesThen, r_heatThen, r_place, r_isWrong, r_toldLetter, r_toldHeat, r_toldStory, r_toldWords, r_toldStories, hR, hG⟩ := inv
  obtain ⟨ro, p_length_o, n_letters_o, n_heats_o, n_starts_o, n_families_o, n_generations_o, n_stories_o, n_nextFamily_o, n_splits_o, n_boilings_o, n_fizzles_o, h_v_o, h_oldest_o, h_size_o, r_s_o, r_before_o, r_known_o, r_length_o, r_place_o, r_isWrong_o, r_toldLetter_o, r_toldHeat_o, r_toldStory_o, r_toldWords_o, r_toldStories_o, e1, e2, hR⟩ := st_write hF hM q_saved p_characters p_length n_settings n_letters n_heats n_starts n_families n_generations n_stories n_nextFamily n_splits n_boilings n_fizzles h_v h_oldest h_size s_v r_s r_before r_known r_slots r_isSaved r_pad r_length r_place r_isWrong r_toldLetter r_toldHeat r_toldStory r_toldWords r_toldStories  hR
  refine lv_aload_n hx hb dL_law_173 rfl (lv_at hl 1 rfl) ?_
  refine k_Pi F hK hA hG (c_X3_write l D y a pa na ta ha hsb sl ssb H.size Fu q_saved q_runs q_themes q_storyHeats p_characters p_length n_settings n_letters n_heats n_starts n_families n_generations n_tally n_stories n_nextFamily n_splits n_boilings n_fizzles t_settings t_letters t_heats t_starts t_families t_generations t_tally t_stories t_nextFamily t_splits t_boilings t_fizzles h_v h_oldest h_size s_v  ro p_length_o n_letters_o n_heats_o n_starts_o n_families_o n_generations_o n_stories_o n_nextFamily_o n_splits_o n_boilings_o n_fizzles_o h_v_o h_oldest_o h_size_o e1) (cwV 0 F.2.2.2.2 gL_law_X3_write rfl rfl rfl (by decide +kernel) ⟨Nat.le_of_ble_eq_true rfl, Nat.le_of_ble_eq_true rfl⟩) 0 rfl rfl (adr_app rfl (adr_app rfl (adr_app rfl (adr_app rfl (adr_app (adr_X0 ..) (adr_SL ..)))))) rfl rfl hl.1 (Nat.le_of_ble_eq_true rfl) dL_law_174 hc (fun H locs hG => ?_)
  have hG := hG.perm List.perm_append_comm
  refine lv_aload_n hx hb dL_law_177 rfl (lv_at hl 2 rfl) ?_
  refine k_Pi F hK hA hG (c_X4_write l D y v H.size Fu r_s r_aside r_before r_known r_slots r_isSaved r_pad r_length r_letters r_heats r_reactions r_newSplits r_storiesThen r_heatThen r_place r_isWrong r_toldLetter r_toldHeat r_toldStory r_toldWords r_toldStories  ro r_s_o r_before_o r_known_o r_length_o r_place_o r_isWrong_o r_toldLetter_o r_toldHeat_o r_toldStory_o r_toldWords_o r_toldStories_o e2) (cwV 0 F.2.2.2.2 gL_law_X4_write rfl rfl rfl (by decide +kernel) ⟨Nat.le_of_ble_eq_true rfl, Nat.le_of_ble_eq_true rfl⟩) 0 rfl rfl rfl rfl rfl hl.1 (Nat.le_of_ble_eq_true rfl) dL_law_178 hc (fun H locs hG => ?_)
  refine lv_icmp_eq (tgt := 829) hx hb dL_law_181 (by decide) (fun _ => ?_) (fun h => absurd rfl h)
  exact next H locs ⟨q_saved, q_runs, q_themes, q_storyHeats, p_characters, p_length_o, n_settings, n_letters_o, n_heats_o, n_starts_o, n_families_o, n_generations_o, n_tally, n_stories_o, n_nextFamily_o, n_splits_o, n_boilings_o, n_fizzles_o, t_settings, t_letters, t_heats, t_starts, t_families, t_generations, t_tally, t_stories, t_nextFamily, t_splits, t_boilings, t_fizzles, h_v_o, h_oldest_o, h_size_o, s_v, r_s_o, r_aside, r_before_o, r_known_o, r_slots, r_isSaved, r_pad, r_length_o, r_letters, r_heats, r_reactions, r_newSplits, r_storiesThen, r_heatThen, r_place_o, r_isWrong_o, r_toldLetter_o, r_toldHeat_o, r_toldStory_o, r_toldWords_o, r_toldStories_o, hR, hG.perm List.perm_append_comm⟩
set_option maxHeartbeats 4000000 in
set_option maxRecDepth 100000 in
theorem lc_heat {p : Program} {l : Launch} {e : Env} {s : State} {m : MethodId} {below : List Frame} {meth : Method} {c : Code} {Q : State → Prop} {D : va_G} {y : Nat → ClassId} {b L : Nat} {xs : Nat → Int32} {cells slots : Nat} (hc : cells ≤ room_1.cells ∧ slots ≤ room_1.slots) (C0 : LC p s m c b L xs D y) {Fu M : Nat} (hF : 100000000 ≤ Fu) (hM : M ≤ 900000) {i : Nat} (hi : i + 5 ≤ L) {u : UX3} {v : Nat → Nat} {H : Heap} {locs : List Loc} {ls : Array Slot} (hl : lv_has ls 4 [(0, .ref b), (1, .ref (u.1 0)), (2, .ref (v 0)), (3, .int (nI i))]) (inv : LInv D y s u v M H locs)
    (next : ∀ (H : Heap) (locs : List Loc), LInv D y s u v (M + 12) H locs → W p l e room_1 s m #[Value.ref b] below meth c H locs cells slots Q (F0 m 829 ls [])) : W p l e room_1 s m #[Value.ref b] below meth c H locs cells slots Q (F0 m 186 ls []) := by
  obtain ⟨F, hK, hZ, hX, hbl, hL⟩ := C0
  have hx := F.1
  have hb := F.2.1
  have hA : ∀ q, s.heap.size ≤ q → lA s q := fun _ h => h
  have hbA : ¬ lA s b := Nat.not_le.mpr hbl
  obtain ⟨a, pa, na, ta, ha, hsb, sl, ssb⟩ := u
  have hl : lv_has ls 4 [(0, .ref b), (1, .ref (a 0)), (2, .ref (v 0)), (3, .int (nI i))] := hl
  obtain ⟨q_saved, q_runs, q_themes, q_storyHeats, p_characters, p_length, n_settings, n_letters, n_heats, n_starts, n_families, n_generations, n_tally, n_stories, n_nextFamily, n_splits, n_boilings, n_fizzles, t_settings, t_letters, t_heats, t_starts, t_families, t_generations, t_tally, t_stories, t_nextFamily, t_splits, t_boilings, t_fizzles, h_v, h_oldest, h_size, s_v, r_s, r_aside, r_before, r_known, r_slots, r_isSaved, r_pad, r_length, r_letters, r_heats, r_reactions, r_newSplits, r_storiesThen, r_heatThen, r_place, r_isWrong, r_toldLetter, r_toldHeat, r_toldStory, r_toldWords, r_toldStories, hR, hG⟩ := inv
  obtain ⟨ro, n_heats_o, n_starts_o, n_families_o, n_generations_o, n_stories_o, n_splits_o, n_boilings_o, n_fizzles_o, h_v_o, h_oldest_o, h_size_o, r_s_o, r_before_o, r_known_o, e1, e2, hR⟩ := st_heat hF hM q_saved p_characters p_length n_settings n_letters n_heats n_starts n_families n_generations n_stories n_nextFamily n_splits n_boilings n_fizzles h_v h_oldest h_size s_v r_s r_before r_known r_slots r_isSaved r_pad r_length  ((xs (i + 1))) ((xs (i + 2))) ((xs (i + 3))) hR
  refine lv_aload_n hx hb dL_law_186 rfl (lv_at hl 1 rfl) ?_
  refine lv_aload_n hx hb dL_law_187 rfl (lv_at hl 0 rfl) ?_
  refine lv_iload_n hx hb dL_law_188 rfl (lv_at hl 3 rfl) ?_
  refine lv_iconst (v := nI 1) hx hb dL_law_189 rfl ?_
  refine lv_iadd hx hb dL_law_190 ?_
  refine w_nm (v := nI (i + 1)) (nI_add i 1).symm ?_
  refine w_sldn hx hb hX hbl hbA hG.2.2 (show i + 1 < L by omega) (by omega) dL_law_191 ?_
  refine lv_aload_n hx hb dL_law_192 rfl (lv_at hl 0 rfl) ?_
  refine lv_iload_n hx hb dL_law_193 rfl (lv_at hl 3 rfl) ?_
  refine lv_iconst (v := nI 2) hx hb dL_law_194 rfl ?_
  refine lv_iadd hx hb dL_law_195 ?_
  refine w_nm (v := nI (i + 2)) (nI_add i 2).symm ?_
  refine w_sldn hx hb hX hbl hbA hG.2.2 (show i + 2 < L by omega) (by omega) dL_law_196 ?_
  refine lv_aload_n hx hb dL_law_197 rfl (lv_at hl 0 rfl) ?_
  refine lv_iload_n hx hb dL_law_198 rfl (lv_at hl 3 rfl) ?_
  refine lv_iconst (v := nI 3) hx hb dL_law_199 rfl ?_
  refine lv_iadd hx hb dL_law_200 ?_
  refine w_nm (v := nI (i + 3)) (nI_add i 3).symm ?_
  refine w_sldn hx hb hX hbl hbA hG.2.2 (show i + 3 < L by omega) (by omega) dL_law_201 ?_
  refine k_Pi F hK hA hG (c_X3_heat l D y a pa na ta ha hsb sl ssb H.size Fu q_saved q_runs q_themes q_storyHeats p_characters p_length n_settings n_letters n_heats n_starts n_families n_generations n_tally n_stories n_nextFamily n_splits n_boilings n_fizzles t_settings t_letters t_heats t_starts t_families t_generations t_tally t_stories t_nextFamily t_splits t_boilings t_fizzles h_v h_oldest h_size s_v ((xs (i + 1))) ((xs (i + 2))) ((xs (i + 3))) ro n_heats_o n_starts_o n_families_o n_generations_o n_stories_o n_splits_o n_boilings_o n_fizzles_o h_v_o h_oldest_o h_size_o e1) (cwV 3 F.2.2.2.2 gL_law_X3_heat rfl rfl rfl (by decide +kernel) ⟨Nat.le_of_ble_eq_true rfl, Nat.le_of_ble_eq_true rfl⟩) 0 rfl rfl (adr_app rfl (adr_app rfl (adr_app rfl (adr_app rfl (adr_app (adr_X0 ..) (adr_SL ..)))))) rfl rfl hl.1 (Nat.le_of_ble_eq_true rfl) dL_law_202 hc (fun H locs hG => ?_)
  have hG := hG.perm List.perm_append_comm
  refine lv_aload_n hx hb dL_law_205 rfl (lv_at hl 2 rfl) ?_
  refine lv_aload_n hx hb dL_law_206 rfl (lv_at hl 0 rfl) ?_
  refine lv_iload_n hx hb dL_law_207 rfl (lv_at hl 3 rfl) ?_
  refine lv_iconst (v := nI 1) hx hb dL_law_208 rfl ?_
  refine lv_iadd hx hb dL_law_209 ?_
  refine w_nm (v := nI (i + 1)) (nI_add i 1).symm ?_
  refine w_sldn hx hb hX hbl hbA hG.2.2 (show i + 1 < L by omega) (by omega) dL_law_210 ?_
  refine lv_aload_n hx hb dL_law_211 rfl (lv_at hl 0 rfl) ?_
  refine lv_iload_n hx hb dL_law_212 rfl (lv_at hl 3 rfl) ?_
  refine lv_iconst (v := nI 2) hx hb dL_law_213 rfl ?_
  refine lv_iadd hx hb dL_law_214 ?_
  refine w_nm (v := nI (i + 2)) (nI_add i 2).symm ?_
  refine w_sldn hx hb hX hbl hbA hG.2.2 (show i + 2 < L by omega) (by omega) dL_law_215 ?_
  refine lv_aload_n hx hb dL_law_216 rfl (lv_at hl 0 rfl) ?_
  refine lv_iload_n hx hb dL_law_217 rfl (lv_at hl 3 rfl) ?_
  refine lv_iconst (v := nI 3) hx hb dL_law_218 rfl ?_
  refine lv_iadd hx hb dL_law_219 ?_
  refine w_nm (v := nI (i + 3)) (nI_add i 3).symm ?_
  refine w_sldn hx hb hX hbl hbA hG.2.2 (show i + 3 < L by omega) (by omega) dL_law_220 ?_
  refine k_Pi F hK hA hG (c_X4_heat l D y v H.size Fu r_s r_aside r_before r_known r_slots r_isSaved r_pad r_length r_letters r_heats r_reactions r_newSplits r_storiesThen r_heatThen r_place r_isWrong r_toldLetter r_toldHeat r_toldStory r_toldWords r_toldStories ((xs (i + 1))) ((xs (i + 2))) ((xs (i + 3))) ro r_s_o r_before_o r_known_o e2) (cwV 3 F.2.2.2.2 gL_law_X4_heat rfl rfl rfl (by decide +kernel) ⟨Nat.le_of_ble_eq_true rfl, Nat.le_of_ble_eq_true rfl⟩) 0 rfl rfl rfl rfl rfl hl.1 (Nat.le_of_ble_eq_true rfl) dL_law_221 hc (fun H locs hG => ?_)
  refine lv_icmp_eq (tgt := 829) hx hb dL_law_224 (by decide) (fun _ => ?_) (fun h => absurd rfl h)
  exact next H locs ⟨q_saved, q_runs, q_themes, q_storyHeats, p_characters, p_length, n_settings, n_letters, n_heats_o, n_starts_o, n_families_o, n_generations_o, n_tally, n_stories_o, n_nextFamily, n_splits_o, n_boilings_o, n_fizzles_o, t_settings, t_letters, t_heats, t_starts, t_families, t_generations, t_tally, t_stories, t_nextFamily, t_splits, t_boilings, t_fizzles, h_v_o, h_oldest_o, h_size_o, s_v, r_s_o, r_aside, r_before_o, r_known_o, r_slots, r_isSaved, r_pad, r_length, r_letters, r_heats, r_reactions, r_newSplits, r_storiesThen, r_heatThen, r_place, r_isWrong, r_toldLetter, r_toldHeat, r_toldStory, r_toldWords, r_toldStories, hR, hG.perm List.perm_append_comm⟩
set_option maxHeartbeats 4000000 in
set_option maxRecDepth 100000 in
theorem lc_read {p : Program} {l : Launch} {e : Env} {s : State} {m : MethodId} {below : List Frame} {meth : Method} {c : Code} {Q : State → Prop} {D : va_G} {y : Nat → ClassId} {b L : Nat} {xs : Nat → Int32} {cells slots : Nat} (hc : cells ≤ room_1.cells ∧ slots ≤ room_1.slots) (C0 : LC p s m c b L xs D y) {Fu M : Nat} (hF : 100000000 ≤ Fu) (hM : M ≤ 900000) {i : Nat} (hi : i + 5 ≤ L) {u : UX3} {v : Nat → Nat} {H : Heap} {locs : List Loc} {ls : Array Slot} (hl : lv_has ls 4 [(0, .ref b), (1, .ref (u.1 0)), (2, .ref (v 0)), (3, .int (nI i))]) (inv : LInv D y s u v M H locs)
    (next : ∀ (H : Heap) (locs : List Loc), LInv D y s u v (M + 12) H locs → W p l e room_1 s m #[Value.ref b] below meth c H locs cells slots Q (F0 m 829 ls [])) : W p l e room_1 s m #[Value.ref b] below meth c H locs cells slots Q (F0 m 229 ls []) := by
  obtain ⟨F, hK, hZ, hX, hbl, hL⟩ := C0
  have hx := F.1
  have hb := F.2.1
  have hA : ∀ q, s.heap.size ≤ q → lA s q := fun _ h => h
  have hbA : ¬ lA s b := Nat.not_le.mpr hbl
  obtain ⟨a, pa, na, ta, ha, hsb, sl, ssb⟩ := u
  have hl : lv_has ls 4 [(0, .ref b), (1, .ref (a 0)), (2, .ref (v 0)), (3, .int (nI i))] := hl
  obtain ⟨q_saved, q_runs, q_themes, q_storyHeats, p_characters, p_length, n_settings, n_letters, n_heats, n_starts, n_families, n_generations, n_tally, n_stories, n_nextFamily, n_splits, n_boilings, n_fizzles, t_settings, t_letters, t_heats, t_starts, t_families, t_generations, t_tally, t_stories, t_nextFamily, t_splits, t_boilings, t_fizzles, h_v, h_oldest, h_size, s_v, r_s, r_aside, r_before, r_known, r_slots, r_isSaved, r_pad, r_length, r_letters, r_heats, r_reactions, r_newSplits, r_storiesThen, r_heatThen, r_place, r_isWrong, r_toldLetter, r_toldHeat, r_toldStory, r_toldWords, r_toldStories, hR, hG⟩ := inv
  obtain ⟨ro, n_heats_o, n_starts_o, n_families_o, n_generations_o, n_stories_o, n_splits_o, n_boilings_o, n_fizzles_o, h_v_o, h_oldest_o, h_size_o, r_s_o, r_before_o, r_known_o, e1, e2, hR⟩ := st_read hF hM q_saved p_characters p_length n_settings n_letters n_heats n_starts n_families n_generations n_stories n_nextFamily n_splits n_boilings n_fizzles h_v h_oldest h_size s_v r_s r_before r_known r_slots r_isSaved r_pad r_length  ((xs (i + 1))) ((xs (i + 2))) hR
  refine lv_aload_n hx hb dL_law_229 rfl (lv_at hl 1 rfl) ?_
  refine lv_aload_n hx hb dL_law_230 rfl (lv_at hl 0 rfl) ?_
  refine lv_iload_n hx hb dL_law_231 rfl (lv_at hl 3 rfl) ?_
  refine lv_iconst (v := nI 1) hx hb dL_law_232 rfl ?_
  refine lv_iadd hx hb dL_law_233 ?_
  refine w_nm (v := nI (i + 1)) (nI_add i 1).symm ?_
  refine w_sldn hx hb hX hbl hbA hG.2.2 (show i + 1 < L by omega) (by omega) dL_law_234 ?_
  refine lv_aload_n hx hb dL_law_235 rfl (lv_at hl 0 rfl) ?_
  refine lv_iload_n hx hb dL_law_236 rfl (lv_at hl 3 rfl) ?_
  refine lv_iconst (v := nI 2) hx hb dL_law_237 rfl ?_
  refine lv_iadd hx hb dL_law_238 ?_
  refine w_nm (v := nI (i + 2)) (nI_add i 2).symm ?_
  refine w_sldn hx hb hX hbl hbA hG.2.2 (show i + 2 < L by omega) (by omega) dL_law_239 ?_
  refine k_Pi F hK hA hG (c_X3_read l D y a pa na ta ha hsb sl ssb H.size Fu q_saved q_runs q_themes q_storyHeats p_characters p_length n_settings n_letters n_heats n_starts n_families n_generations n_tally n_stories n_nextFamily n_splits n_boilings n_fizzles t_settings t_letters t_heats t_starts t_families t_generations t_tally t_stories t_nextFamily t_splits t_boilings t_fizzles h_v h_oldest h_size s_v ((xs (i + 1))) ((xs (i + 2))) ro n_heats_o n_starts_o n_families_o n_generations_o n_stories_o n_splits_o n_boilings_o n_fizzles_o h_v_o h_oldest_o h_size_o e1) (cwV 2 F.2.2.2.2 gL_law_X3_read rfl rfl rfl (by decide +kernel) ⟨Nat.le_of_ble_eq_true rfl, Nat.le_of_ble_eq_true rfl⟩) 0 rfl rfl (adr_app rfl (adr_app rfl (adr_app rfl (adr_app rfl (adr_app (adr_X0 ..) (adr_SL ..)))))) rfl rfl hl.1 (Nat.le_of_ble_eq_true rfl) dL_law_240 hc (fun H locs hG => ?_)
  have hG := hG.perm List.perm_append_comm
  refine lv_aload_n hx hb dL_law_243 rfl (lv_at hl 2 rfl) ?_
  refine lv_aload_n hx hb dL_law_244 rfl (lv_at hl 0 rfl) ?_
  refine lv_iload_n hx hb dL_law_245 rfl (lv_at hl 3 rfl) ?_
  refine lv_iconst (v := nI 1) hx hb dL_law_246 rfl ?_
  refine lv_iadd hx hb dL_law_247 ?_
  refine w_nm (v := nI (i + 1)) (nI_add i 1).symm ?_
  refine w_sldn hx hb hX hbl hbA hG.2.2 (show i + 1 < L by omega) (by omega) dL_law_248 ?_
  refine lv_aload_n hx hb dL_law_249 rfl (lv_at hl 0 rfl) ?_
  refine lv_iload_n hx hb dL_law_250 rfl (lv_at hl 3 rfl) ?_
  refine lv_iconst (v := nI 2) hx hb dL_law_251 rfl ?_
  refine lv_iadd hx hb dL_law_252 ?_
  refine w_nm (v := nI (i + 2)) (nI_add i 2).symm ?_
  refine w_sldn hx hb hX hbl hbA hG.2.2 (show i + 2 < L by omega) (by omega) dL_law_253 ?_
  refine k_Pi F hK hA hG (c_X4_read l D y v H.size Fu r_s r_aside r_before r_known r_slots r_isSaved r_pad r_length r_letters r_heats r_reactions r_newSplits r_storiesThen r_heatThen r_place r_isWrong r_toldLetter r_toldHeat r_toldStory r_toldWords r_toldStories ((xs (i + 1))) ((xs (i + 2))) ro r_s_o r_before_o r_known_o e2) (cwV 2 F.2.2.2.2 gL_law_X4_read rfl rfl rfl (by decide +kernel) ⟨Nat.le_of_ble_eq_true rfl, Nat.le_of_ble_eq_true rfl⟩) 0 rfl rfl rfl rfl rfl hl.1 (Nat.le_of_ble_eq_true rfl) dL_law_254 hc (fun H locs hG => ?_)
  refine lv_icmp_eq (tgt := 829) hx hb dL_law_257 (by decide) (fun _ => ?_) (fun h => absurd rfl h)
  exact next H locs ⟨q_saved, q_runs, q_themes, q_storyHeats, p_characters, p_length, n_settings, n_letters, n_heats_o, n_starts_o, n_families_o, n_generations_o, n_tally, n_stories_o, n_nextFamily, n_splits_o, n_boilings_o, n_fizzles_o, t_settings, t_letters, t_heats, t_starts, t_families, t_generations, t_tally, t_stories, t_nextFamily, t_splits, t_boilings, t_fizzles, h_v_o, h_oldest_o, h_size_o, s_v, r_s_o, r_aside, r_before_o, r_known_o, r_slots, r_isSaved, r_pad, r_length, r_letters, r_heats, r_reactions, r_newSplits, r_storiesThen, r_heatThen, r_place, r_isWrong, r_toldLetter, r_toldHeat, r_toldStory, r_toldWords, r_toldStories, hR, hG.perm List.perm_append_comm⟩
set_option maxHeartbeats 4000000 in
set_option maxRecDepth 100000 in
theorem lc_fuse {p : Program} {l : Launch} {e : Env} {s : State} {m : MethodId} {below : List Frame} {meth : Method} {c : Code} {Q : State → Prop} {D : va_G} {y : Nat → ClassId} {b L : Nat} {xs : Nat → Int32} {cells slots : Nat} (hc : cells ≤ room_1.cells ∧ slots ≤ room_1.slots) (C0 : LC p s m c b L xs D y) {Fu M : Nat} (hF : 100000000 ≤ Fu) (hM : M ≤ 900000) {i : Nat} (hi : i + 5 ≤ L) {u : UX3} {v : Nat → Nat} {H : Heap} {locs : List Loc} {ls : Array Slot} (hl : lv_has ls 4 [(0, .ref b), (1, .ref (u.1 0)), (2, .ref (v 0)), (3, .int (nI i))]) (inv : LInv D y s u v M H locs)
    (next : ∀ (H : Heap) (locs : List Loc), LInv D y s u v (M + 12) H locs → W p l e room_1 s m #[Value.ref b] below meth c H locs cells slots Q (F0 m 829 ls [])) : W p l e room_1 s m #[Value.ref b] below meth c H locs cells slots Q (F0 m 262 ls []) := by
  obtain ⟨F, hK, hZ, hX, hbl, hL⟩ := C0
  have hx := F.1
  have hb := F.2.1
  have hA : ∀ q, s.heap.size ≤ q → lA s q := fun _ h => h
  have hbA : ¬ lA s b := Nat.not_le.mpr hbl
  obtain ⟨a, pa, na, ta, ha, hsb, sl, ssb⟩ := u
  have hl : lv_has ls 4 [(0, .ref b), (1, .ref (a 0)), (2, .ref (v 0)), (3, .int (nI i))] := hl
  obtain ⟨q_saved, q_runs, q_themes, q_storyHeats, p_characters, p_length, n_settings, n_letters, n_heats, n_starts, n_families, n_generations, n_tally, n_stories, n_nextFamily, n_splits, n_boilings, n_fizzles, t_settings, t_letters, t_heats, t_starts, t_families, t_generations, t_tally, t_stories, t_nextFamily, t_splits, t_boilings, t_fizzles, h_v, h_oldest, h_size, s_v, r_s, r_aside, r_before, r_known, r_slots, r_isSaved, r_pad, r_length, r_letters, r_heats, r_reactions, r_newSplits, r_storiesThen, r_heatThen, r_place, r_isWrong, r_toldLetter, r_toldHeat, r_toldStory, r_toldWords, r_toldStories, hR, hG⟩ := inv
  obtain ⟨ro, n_letters_o, n_heats_o, n_starts_o, n_families_o, n_generations_o, n_tally_o, n_stories_o, n_splits_o, n_boilings_o, n_fizzles_o, t_settings_o, t_letters_o, t_heats_o, t_starts_o, t_families_o, t_generations_o, t_stories_o, t_nextFamily_o, t_splits_o, t_boilings_o, t_fizzles_o, h_v_o, h_oldest_o, h_size_o, r_s_o, r_before_o, r_known_o, r_letters_o, r_heats_o, e1, e2, hR⟩ := st_fuse hF hM q_saved p_characters p_length n_settings n_letters n_heats n_starts n_families n_generations n_stories n_nextFamily n_splits n_boilings n_fizzles h_v h_oldest h_size s_v r_s r_before r_known r_slots r_isSaved r_pad r_length n_tally t_settings t_letters t_heats t_starts t_families t_generations t_stories t_nextFamily t_splits t_boilings t_fizzles r_letters r_heats ((xs (i + 1))) ((xs (i + 2))) hR
  refine lv_aload_n hx hb dL_law_262 rfl (lv_at hl 1 rfl) ?_
  refine lv_aload_n hx hb dL_law_263 rfl (lv_at hl 0 rfl) ?_
  refine lv_iload_n hx hb dL_law_264 rfl (lv_at hl 3 rfl) ?_
  refine lv_iconst (v := nI 1) hx hb dL_law_265 rfl ?_
  refine lv_iadd hx hb dL_law_266 ?_
  refine w_nm (v := nI (i + 1)) (nI_add i 1).symm ?_
  refine w_sldn hx hb hX hbl hbA hG.2.2 (show i + 1 < L by omega) (by omega) dL_law_267 ?_
  refine lv_aload_n hx hb dL_law_268 rfl (lv_at hl 0 rfl) ?_
  refine lv_iload_n hx hb dL_law_269 rfl (lv_at hl 3 rfl) ?_
  refine lv_iconst (v := nI 2) hx hb dL_law_270 rfl ?_
  refine lv_iadd hx hb dL_law_271 ?_
  refine w_nm (v := nI (i + 2)) (nI_add i 2).symm ?_
  refine w_sldn hx hb hX hbl hbA hG.2.2 (show i + 2 < L by omega) (by omega) dL_law_272 ?_
  refine k_Pi F hK hA hG (c_X3_fuse l D y a pa na ta ha hsb sl ssb H.size Fu q_saved q_runs q_themes q_storyHeats p_characters p_length n_settings n_letters n_heats n_starts n_families n_generations n_tally n_stories n_nextFamily n_splits n_boilings n_fizzles t_settings t_letters t_heats t_starts t_families t_generations t_tally t_stories t_nextFamily t_splits t_boilings t_fizzles h_v h_oldest h_size s_v ((xs (i + 1))) ((xs (i + 2))) ro n_letters_o n_heats_o n_starts_o n_families_o n_generations_o n_tally_o n_stories_o n_splits_o n_boilings_o n_fizzles_o t_settings_o t_letters_o t_heats_o t_starts_o t_families_o t_generations_o t_stories_o t_nextFamily_o t_splits_o t_boilings_o t_fizzles_o h_v_o h_oldest_o h_size_o e1) (cwV 2 F.2.2.2.2 gL_law_X3_fuse rfl rfl rfl (by decide +kernel) ⟨Nat.le_of_ble_eq_true rfl, Nat.le_of_ble_eq_true rfl⟩) 0 rfl rfl (adr_app rfl (adr_app rfl (adr_app rfl (adr_app rfl (adr_app (adr_X0 ..) (adr_SL ..)))))) rfl rfl hl.1 (Nat.le_of_ble_eq_true rfl) dL_law_273 hc (fun H locs hG => ?_)
  have hG := hG.perm List.perm_append_comm
  refine lv_aload_n hx hb dL_law_276 rfl (lv_at hl 2 rfl) ?_
  refine lv_aload_n hx hb dL_law_277 rfl (lv_at hl 0 rfl) ?_
  refine lv_iload_n hx hb dL_law_278 rfl (lv_at hl 3 rfl) ?_
  refine lv_iconst (v := nI 1) hx hb dL_law_279 rfl ?_
  refine lv_iadd hx hb dL_law_280 ?_
  refine w_nm (v := nI (i + 1)) (nI_add i 1).symm ?_
  refine w_sldn hx hb hX hbl hbA hG.2.2 (show i + 1 < L by omega) (by omega) dL_law_281 ?_
  refine lv_aload_n hx hb dL_law_282 rfl (lv_at hl 0 rfl) ?_
  refine lv_iload_n hx hb dL_law_283 rfl (lv_at hl 3 rfl) ?_
  refine lv_iconst (v := nI 2) hx hb dL_law_284 rfl ?_
  refine lv_iadd hx hb dL_law_285 ?_
  refine w_nm (v := nI (i + 2)) (nI_add i 2).symm ?_
  refine w_sldn hx hb hX hbl hbA hG.2.2 (show i + 2 < L by omega) (by omega) dL_law_286 ?_
  refine k_Pi F hK hA hG (c_X4_fuse l D y v H.size Fu r_s r_aside r_before r_known r_slots r_isSaved r_pad r_length r_letters r_heats r_reactions r_newSplits r_storiesThen r_heatThen r_place r_isWrong r_toldLetter r_toldHeat r_toldStory r_toldWords r_toldStories ((xs (i + 1))) ((xs (i + 2))) ro r_s_o r_before_o r_known_o r_letters_o r_heats_o e2) (cwV 2 F.2.2.2.2 gL_law_X4_fuse rfl rfl rfl (by decide +kernel) ⟨Nat.le_of_ble_eq_true rfl, Nat.le_of_ble_eq_true rfl⟩) 0 rfl rfl rfl rfl rfl hl.1 (Nat.le_of_ble_eq_true rfl) dL_law_287 hc (fun H locs hG => ?_)
  refine lv_icmp_eq (tgt := 829) hx hb dL_law_290 (by decide) (fun _ => ?_) (fun h => absurd rfl h)
  exact next H locs ⟨q_saved, q_runs, q_themes, q_storyHeats, p_characters, p_length, n_settings, n_letters_o, n_heats_o, n_starts_o, n_families_o, n_generations_o, n_tally_o, n_stories_o, n_nextFamily, n_splits_o, n_boilings_o, n_fizzles_o, t_settings_o, t_letters_o, t_heats_o, t_starts_o, t_families_o, t_generations_o, t_tally, t_stories_o, t_nextFamily_o, t_splits_o, t_boilings_o, t_fizzles_o, h_v_o, h_oldest_o, h_size_o, s_v, r_s_o, r_aside, r_before_o, r_known_o, r_slots, r_isSaved, r_pad, r_length, r_letters_o, r_heats_o, r_reactions, r_newSplits, r_storiesThen, r_heatThen, r_place, r_isWrong, r_toldLetter, r_toldHeat, r_toldStory, r_toldWords, r_toldStories, hR, hG.perm List.perm_append_comm⟩
set_option maxHeartbeats 4000000 in
set_option maxRecDepth 100000 in
theorem lc_pass {p : Program} {l : Launch} {e : Env} {s : State} {m : MethodId} {below : List Frame} {meth : Method} {c : Code} {Q : State → Prop} {D : va_G} {y : Nat → ClassId} {b L : Nat} {xs : Nat → Int32} {cells slots : Nat} (hc : cells ≤ room_1.cells ∧ slots ≤ room_1.slots) (C0 : LC p s m c b L xs D y) {Fu M : Nat} (hF : 100000000 ≤ Fu) (hM : M ≤ 900000) {i : Nat} (hi : i + 5 ≤ L) {u : UX3} {v : Nat → Nat} {H : Heap} {locs : List Loc} {ls : Array Slot} (hl : lv_has ls 4 [(0, .ref b), (1, .ref (u.1 0)), (2, .ref (v 0)), (3, .int (nI i))]) (inv : LInv D y s u v M H locs)
    (next : ∀ (H : Heap) (locs : List Loc), LInv D y s u v (M + 12) H locs → W p l e room_1 s m #[Value.ref b] below meth c H locs cells slots Q (F0 m 829 ls [])) : W p l e room_1 s m #[Value.ref b] below meth c H locs cells slots Q (F0 m 295 ls []) := by
  obtain ⟨F, hK, hZ, hX, hbl, hL⟩ := C0
  have hx := F.1
  have hb := F.2.1
  have hA : ∀ q, s.heap.size ≤ q → lA s q := fun _ h => h
  have hbA : ¬ lA s b := Nat.not_le.mpr hbl
  obtain ⟨a, pa, na, ta, ha, hsb, sl, ssb⟩ := u
  have hl : lv_has ls 4 [(0, .ref b), (1, .ref (a 0)), (2, .ref (v 0)), (3, .int (nI i))] := hl
  obtain ⟨q_saved, q_runs, q_themes, q_storyHeats, p_characters, p_length, n_settings, n_letters, n_heats, n_starts, n_families, n_generations, n_tally, n_stories, n_nextFamily, n_splits, n_boilings, n_fizzles, t_settings, t_letters, t_heats, t_starts, t_families, t_generations, t_tally, t_stories, t_nextFamily, t_splits, t_boilings, t_fizzles, h_v, h_oldest, h_size, s_v, r_s, r_aside, r_before, r_known, r_slots, r_isSaved, r_pad, r_length, r_letters, r_heats, r_reactions, r_newSplits, r_storiesThen, r_heatThen, r_place, r_isWrong, r_toldLetter, r_toldHeat, r_toldStory, r_toldWords, r_toldStories, hR, hG⟩ := inv
  obtain ⟨ro, n_heats_o, h_v_o, h_oldest_o, h_size_o, r_s_o, r_before_o, r_known_o, e1, e2, hR⟩ := st_pass hF hM q_saved p_characters p_length n_settings n_letters n_heats n_starts n_families n_generations n_stories n_nextFamily n_splits n_boilings n_fizzles h_v h_oldest h_size s_v r_s r_before r_known r_slots r_isSaved r_pad r_length  ((xs (i + 1))) hR
  refine lv_aload_n hx hb dL_law_295 rfl (lv_at hl 1 rfl) ?_
  refine lv_aload_n hx hb dL_law_296 rfl (lv_at hl 0 rfl) ?_
  refine lv_iload_n hx hb dL_law_297 rfl (lv_at hl 3 rfl) ?_
  refine lv_iconst (v := nI 1) hx hb dL_law_298 rfl ?_
  refine lv_iadd hx hb dL_law_299 ?_
  refine w_nm (v := nI (i + 1)) (nI_add i 1).symm ?_
  refine w_sldn hx hb hX hbl hbA hG.2.2 (show i + 1 < L by omega) (by omega) dL_law_300 ?_
  refine k_Pi F hK hA hG (c_X3_pass l D y a pa na ta ha hsb sl ssb H.size Fu q_saved q_runs q_themes q_storyHeats p_characters p_length n_settings n_letters n_heats n_starts n_families n_generations n_tally n_stories n_nextFamily n_splits n_boilings n_fizzles t_settings t_letters t_heats t_starts t_families t_generations t_tally t_stories t_nextFamily t_splits t_boilings t_fizzles h_v h_oldest h_size s_v ((xs (i + 1))) ro n_heats_o h_v_o h_oldest_o h_size_o e1) (cwV 1 F.2.2.2.2 gL_law_X3_pass rfl rfl rfl (by decide +kernel) ⟨Nat.le_of_ble_eq_true rfl, Nat.le_of_ble_eq_true rfl⟩) 0 rfl rfl (adr_app rfl (adr_app rfl (adr_app rfl (adr_app rfl (adr_app (adr_X0 ..) (adr_SL ..)))))) rfl rfl hl.1 (Nat.le_of_ble_eq_true rfl) dL_law_301 hc (fun H locs hG => ?_)
  have hG := hG.perm List.perm_append_comm
  refine lv_aload_n hx hb dL_law_304 rfl (lv_at hl 2 rfl) ?_
  refine lv_aload_n hx hb dL_law_305 rfl (lv_at hl 0 rfl) ?_
  refine lv_iload_n hx hb dL_law_306 rfl (lv_at hl 3 rfl) ?_
  refine lv_iconst (v := nI 1) hx hb dL_law_307 rfl ?_
  refine lv_iadd hx hb dL_law_308 ?_
  refine w_nm (v := nI (i + 1)) (nI_add i 1).symm ?_
  refine w_sldn hx hb hX hbl hbA hG.2.2 (show i + 1 < L by omega) (by omega) dL_law_309 ?_
  refine k_Pi F hK hA hG (c_X4_pass l D y v H.size Fu r_s r_aside r_before r_known r_slots r_isSaved r_pad r_length r_letters r_heats r_reactions r_newSplits r_storiesThen r_heatThen r_place r_isWrong r_toldLetter r_toldHeat r_toldStory r_toldWords r_toldStories ((xs (i + 1))) ro r_s_o r_before_o r_known_o e2) (cwV 1 F.2.2.2.2 gL_law_X4_pass rfl rfl rfl (by decide +kernel) ⟨Nat.le_of_ble_eq_true rfl, Nat.le_of_ble_eq_true rfl⟩) 0 rfl rfl rfl rfl rfl hl.1 (Nat.le_of_ble_eq_true rfl) dL_law_310 hc (fun H locs hG => ?_)
  refine lv_icmp_eq (tgt := 829) hx hb dL_law_313 (by decide) (fun _ => ?_) (fun h => absurd rfl h)
  exact next H locs ⟨q_saved, q_runs, q_themes, q_storyHeats, p_characters, p_length, n_settings, n_letters, n_heats_o, n_starts, n_families, n_generations, n_tally, n_stories, n_nextFamily, n_splits, n_boilings, n_fizzles, t_settings, t_letters, t_heats, t_starts, t_families, t_generations, t_tally, t_stories, t_nextFamily, t_splits, t_boilings, t_fizzles, h_v_o, h_oldest_o, h_size_o, s_v, r_s_o, r_aside, r_before_o, r_known_o, r_slots, r_isSaved, r_pad, r_length, r_letters, r_heats, r_reactions, r_newSplits, r_storiesThen, r_heatThen, r_place, r_isWrong, r_toldLetter, r_toldHeat, r_toldStory, r_toldWords, r_toldStories, hR, hG.perm List.perm_append_comm⟩
