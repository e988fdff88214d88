def f_X4_in (Fu : Nat) (p0 : Int32) (p1 : Int32) (p2 : Int32) : Option Int32 :=
  nm (if p0 < p1 then (nI 0) else (if p2 < p0 then (nI 0) else nI 1)) (fun v3 =>
  gd (bz v3) (some (v3)))
set_option maxHeartbeats 4000000 in
set_option maxRecDepth 100000 in
theorem c_X4_in (l : Launch) (D : va_G) (y : Nat → ClassId)  (sz : Nat) (Fu : Nat) (p0 : Int32) (p1 : Int32) (p2 : Int32) (ro : Int32) (hf : f_X4_in Fu p0 p1 p2 = some (ro)) : MI l yX4_in wsX4_in 0 0 [.int p0, .int p1, .int p2] D y [] sz ro [] := by
  refine M_z (cc := cX4_in) (maxL := 3) (own := RX4) (by decide) rfl rfl (Nat.le_of_ble_eq_true rfl) ?_
  intro p e s m args below meth c A Q F hK hA H locs hG hret ls hl
  have hx := F.1
  have hb := F.2.1
  have hl : lv_has ls 3 [(0, .int p0), (1, .int p1), (2, .int p2)] := hl
  unfold f_X4_in at hf
  refine lv_iload_n hx hb dX4_in_0 rfl (lv_at hl 0 rfl) ?_
  refine lv_iload_n hx hb dX4_in_1 rfl (lv_at hl 1 rfl) ?_
  obtain ⟨v3, ev3, hf⟩ := nm_o hf
  have hJ : ∀ (ls : Array Slot), lv_has ls 3 [] → W p l e (RM 0 0) s m args below meth c H locs 0 0 Q (F0 m 15 ls [.int v3]) := by
    intro ls hl
    obtain ⟨gz, hf⟩ := gd_e hf
    have hf := so_e hf
    have e0 : v3 = ro := hf
    exact hret _ _ _ _ _ (bz_n gz) e0 hG dX4_in_15
  refine lv_icmp_lt (tgt := 14) hx hb dX4_in_2 (by decide) (fun c1 => ?_) (fun c1 => ?_)
  · refine lv_iconst (v := nI 0) hx hb dX4_in_14 rfl ?_
    have qv3 := (ev3.trans (if_pos c1))
    subst qv3
    exact hJ ls (lv_sub hl [] rfl)
  · refine lv_iload_n hx hb dX4_in_5 rfl (lv_at hl 0 rfl) ?_
    refine lv_iload_n hx hb dX4_in_6 rfl (lv_at hl 2 rfl) ?_
    refine lv_icmp_gt (tgt := 14) hx hb dX4_in_7 (by decide) (fun c2 => ?_) (fun c2 => ?_)
    · refine lv_iconst (v := nI 0) hx hb dX4_in_14 rfl ?_
      have qv3 := ((ev3.trans (if_neg c1)).trans (if_pos c2))
      subst qv3
      exact hJ ls (lv_sub hl [] rfl)
    · refine lv_iconst (v := nI 1) hx hb dX4_in_10 rfl ?_
      refine lv_goto (tgt := 15) hx hb dX4_in_11 (by decide) ?_
      have qv3 := ((ev3.trans (if_neg c1)).trans (if_neg c2))
      subst qv3
      exact hJ ls (lv_sub hl [] rfl)
def f_X4_isStory (Fu : Nat) (q_s : Ar) (p1 : Int32) : Option Int32 :=
  bd1 (f_X4_in Fu p1 (nI 0) ((q_s 3) - (nI 1))) (fun r1 =>
  gd (bz r1) (some (r1)))
set_option maxHeartbeats 4000000 in
set_option maxRecDepth 100000 in
theorem c_X4_isStory (l : Launch) (D : va_G) (y : Nat → ClassId) (a : Nat → Nat) (sz : Nat) (Fu : Nat) (q_s : Ar) (q_aside : Ar) (q_before : Ar) (q_known : Int32) (q_slots : Ar) (q_isSaved : Ar) (q_pad : Ar) (q_length : Int32) (q_letters : Ar) (q_heats : Ar) (q_reactions : Int32) (q_newSplits : Int32) (q_storiesThen : Int32) (q_heatThen : Int32) (q_place : Int32) (q_isWrong : Int32) (q_toldLetter : Ar) (q_toldHeat : Ar) (q_toldStory : Ar) (q_toldWords : Int32) (q_toldStories : Int32) (p1 : Int32) (ro : Int32) (hf : f_X4_isStory Fu q_s p1 = some (ro)) : MI l yX4_isStory wsX4_isStory 1 22 [.ref (a 0), .int p1] D y (w_X4 y a q_s q_aside q_before q_known q_slots q_isSaved q_pad q_length q_letters q_heats q_reactions q_newSplits q_storiesThen q_heatThen q_place q_isWrong q_toldLetter q_toldHeat q_toldStory q_toldWords q_toldStories) sz ro (w_X4 y a q_s q_aside q_before q_known q_slots q_isSaved q_pad q_length q_letters q_heats q_reactions q_newSplits q_storiesThen q_heatThen q_place q_isWrong q_toldLetter q_toldHeat q_toldStory q_toldWords q_toldStories) := by
  refine M_z (cc := cX4_isStory) (maxL := 2) (own := RX4) (by decide) rfl rfl (Nat.le_of_ble_eq_true rfl) ?_
  intro p e s m args below meth c A Q F hK hA H locs hG hret ls hl
  have hx := F.1
  have hb := F.2.1
  have hl : lv_has ls 2 [(0, .ref (a 0)), (1, .int p1)] := hl
  have k0 := F.2.2.2.2 (.fieldLink RX4 7 "HeatedStoriesModel" "s" "[I") (List.mem_of_getElem? (i := 1) rfl)
  have k1 : ∀ w ∈ wsX40, w ∈ wsX4_isStory := (fun w h => List.mem_cons_of_mem _ (List.mem_append_right _ (h)))
  unfold f_X4_isStory at hf
  refine lv_iload_n hx hb dX4_isStory_0 rfl (lv_at hl 1 rfl) ?_
  refine lv_iconst (v := nI 0) hx hb dX4_isStory_1 rfl ?_
  refine lv_aload_n hx hb dX4_isStory_2 rfl (lv_at hl 0 rfl) ?_
  refine w_get4 F hK hG k1 0 rfl 0 (by decide) k0 rfl dX4_isStory_3 ?_
  refine lv_iconst (v := nI 3) hx hb dX4_isStory_6 rfl ?_
  refine w_ialdk F hK hG 1 rfl (Nat.le_of_ble_eq_true rfl) (Nat.le_of_ble_eq_true rfl) dX4_isStory_7 ?_
  refine lv_iconst (v := nI 1) hx hb dX4_isStory_8 rfl ?_
  refine lv_isub hx hb dX4_isStory_9 ?_
  obtain ⟨r1, h2, hf⟩ := bd1_e hf
  refine k_Si F hK hA hG (c_X4_in l D y  H.size Fu  p1 (nI 0) ((q_s 3) - (nI 1)) r1 h2) (va_cwS 3 F.2.2.2.2 gX4_isStory_X4_in rfl rfl rfl (by decide +kernel) ⟨Nat.le_of_ble_eq_true rfl, Nat.le_of_ble_eq_true rfl⟩) rfl rfl hl.1 (Nat.le_of_ble_eq_true rfl) dX4_isStory_10 ⟨Nat.le_refl 0, Nat.le_refl 0⟩ (fun H locs hG => ?_)
  obtain ⟨gz, hf⟩ := gd_e hf
  have hf := so_e hf
  have e0 : r1 = ro := hf
  exact hret _ _ _ _ _ (bz_n gz) e0 hG dX4_isStory_13
def f_X4_isWord (Fu : Nat) (q_s : Ar) (p1 : Int32) (p2 : Int32) : Option Int32 :=
  bd1 (f_X4_isStory Fu q_s p1) (fun r1 =>
  jn (fun (v8 : Int32) =>
    gd (bz v8) (some (v8)))
    (fun j9 =>
    if r1 = 0 then
      j9 (nI 0)
    else
      gd (ix ((nI 9) + p1) 345) (
      bd1 (f_X4_in Fu p2 (nI 0) ((q_s ((nI 9) + p1).toNatClampNeg) - (nI 1))) (fun r5 =>
      if r5 = 0 then
        j9 (nI 0)
      else
        j9 (nI 1)))))
set_option maxHeartbeats 4000000 in
set_option maxRecDepth 100000 in
theorem c_X4_isWord (l : Launch) (D : va_G) (y : Nat → ClassId) (a : Nat → Nat) (sz : Nat) (Fu : Nat) (q_s : Ar) (q_aside : Ar) (q_before : Ar) (q_known : Int32) (q_slots : Ar) (q_isSaved : Ar) (q_pad : Ar) (q_length : Int32) (q_letters : Ar) (q_heats : Ar) (q_reactions : Int32) (q_newSplits : Int32) (q_storiesThen : Int32) (q_heatThen : Int32) (q_place : Int32) (q_isWrong : Int32) (q_toldLetter : Ar) (q_toldHeat : Ar) (q_toldStory : Ar) (q_toldWords : Int32) (q_toldStories : Int32) (p1 : Int32) (p2 : Int32) (ro : Int32) (hf : f_X4_isWord Fu q_s p1 p2 = some (ro)) : MI l yX4_isWord wsX4_isWord 2 43 [.ref (a 0), .int p1, .int p2] D y (w_X4 y a q_s q_aside q_before q_known q_slots q_isSaved q_pad q_length q_letters q_heats q_reactions q_newSplits q_storiesThen q_heatThen q_place q_isWrong q_toldLetter q_toldHeat q_toldStory q_toldWords q_toldStories) sz ro (w_X4 y a q_s q_aside q_before q_known q_slots q_isSaved q_pad q_length q_letters q_heats q_reactions q_newSplits q_storiesThen q_heatThen q_place q_isWrong q_toldLetter q_toldHeat q_toldStory q_toldWords q_toldStories) := by
  refine M_z (cc := cX4_isWord) (maxL := 3) (own := RX4) (by decide) rfl rfl (Nat.le_of_ble_eq_true rfl) ?_
  intro p e s m args below meth c A Q F hK hA H locs hG hret ls hl
  have hx := F.1
  have hb := F.2.1
  have hl : lv_has ls 3 [(0, .ref (a 0)), (1, .int p1), (2, .int p2)] := hl
  have k0 := F.2.2.2.2 (.fieldLink RX4 7 "HeatedStoriesModel" "s" "[I") (List.mem_of_getElem? (i := 1) rfl)
  have k1 : ∀ w ∈ wsX40, w ∈ wsX4_isWord := (fun w h => List.mem_cons_of_mem _ (List.mem_append_right _ (h)))
  unfold f_X4_isWord at hf
  refine lv_aload_n hx hb dX4_isWord_0 rfl (lv_at hl 0 rfl) ?_
  refine lv_iload_n hx hb dX4_isWord_1 rfl (lv_at hl 1 rfl) ?_
  obtain ⟨r1, h2, hf⟩ := bd1_e hf
  refine k_Wi F hK hA hG (c_X4_isStory l D y a H.size Fu q_s q_aside q_before q_known q_slots q_isSaved q_pad q_length q_letters q_heats q_reactions q_newSplits q_storiesThen q_heatThen q_place q_isWrong q_toldLetter q_toldHeat q_toldStory q_toldWords q_toldStories p1 r1 h2) (cwV 1 F.2.2.2.2 gX4_isWord_X4_isStory rfl rfl rfl (by decide +kernel) ⟨Nat.le_of_ble_eq_true rfl, Nat.le_of_ble_eq_true rfl⟩) 0 rfl rfl rfl rfl rfl hl.1 (Nat.le_of_ble_eq_true rfl) dX4_isWord_2 ⟨Nat.le_refl 0, Nat.le_refl 0⟩ (fun H locs hG => ?_)
  obtain ⟨j9, ej9, hf⟩ := jn_e hf
  have hj9 : ∀ (v8 : Int32) (H : Heap) (locs : List Loc) (ls : Array Slot), j9 v8 = some (ro) → GG D A s.heap (w_X4 y a q_s q_aside q_before q_known q_slots q_isSaved q_pad q_length q_letters q_heats q_reactions q_newSplits q_storiesThen q_heatThen q_place q_isWrong q_toldLetter q_toldHeat q_toldStory q_toldWords q_toldStories) H locs → lv_has ls 3 [] → W p l e (RM 2 43) s m args below meth c H locs 0 0 Q (F0 m 32 ls [.int v8]) := by
    intro v8 H locs ls hf hG hl
    rw [ej9] at hf
    obtain ⟨gz, hf⟩ := gd_e hf
    have hf := so_e hf
    have e0 : v8 = ro := hf
    exact hret _ _ _ _ _ (bz_n gz) e0 hG dX4_isWord_32
  refine lv_if_eq (tgt := 31) hx hb dX4_isWord_5 (by decide) (fun c3 => ?_) (fun c3 => ?_)
  · have hf := it_e c3 hf
    refine lv_iconst (v := nI 0) hx hb dX4_isWord_31 rfl ?_
    exact hj9 (nI 0) _ _ ls hf hG (lv_sub hl [] rfl)
  · have hf := if_e c3 hf
    refine lv_iload_n hx hb dX4_isWord_8 rfl (lv_at hl 2 rfl) ?_
    refine lv_iconst (v := nI 0) hx hb dX4_isWord_9 rfl ?_
    refine lv_aload_n hx hb dX4_isWord_10 rfl (lv_at hl 0 rfl) ?_
    refine w_get4 F hK hG k1 0 rfl 0 (by decide) k0 rfl dX4_isWord_11 ?_
    refine lv_bipush (v := nI 9) hx hb dX4_isWord_14 rfl ?_
    refine lv_iload_n hx hb dX4_isWord_16 rfl (lv_at hl 1 rfl) ?_
    refine lv_iadd hx hb dX4_isWord_17 ?_
    obtain ⟨g4, hf⟩ := gd_e hf
    refine w_iald F hK hG 1 rfl g4 dX4_isWord_18 ?_
    refine lv_iconst (v := nI 1) hx hb dX4_isWord_19 rfl ?_
    refine lv_isub hx hb dX4_isWord_20 ?_
    obtain ⟨r5, h6, hf⟩ := bd1_e hf
    refine k_Si F hK hA hG (c_X4_in l D y  H.size Fu  p2 (nI 0) ((q_s ((nI 9) + p1).toNatClampNeg) - (nI 1)) r5 h6) (va_cwS 3 F.2.2.2.2 gX4_isWord_X4_in rfl rfl rfl (by decide +kernel) ⟨Nat.le_of_ble_eq_true rfl, Nat.le_of_ble_eq_true rfl⟩) rfl rfl hl.1 (Nat.le_of_ble_eq_true rfl) dX4_isWord_21 ⟨Nat.le_refl 0, Nat.le_refl 0⟩ (fun H locs hG => ?_)
    refine lv_if_eq (tgt := 31) hx hb dX4_isWord_24 (by decide) (fun c7 => ?_) (fun c7 => ?_)
    · have hf := it_e c7 hf
      refine lv_iconst (v := nI 0) hx hb dX4_isWord_31 rfl ?_
      exact hj9 (nI 0) _ _ ls hf hG (lv_sub hl [] rfl)
    · have hf := if_e c7 hf
      refine lv_iconst (v := nI 1) hx hb dX4_isWord_27 rfl ?_
      refine lv_goto (tgt := 32) hx hb dX4_isWord_28 (by decide) ?_
      exact hj9 (nI 1) _ _ ls hf hG (lv_sub hl [] rfl)
def f_X4_first_L4 (Fu : Nat) (k_4 : Int32 → Option Int32) (q_s : Ar) (p1 : Int32) : Nat → Int32 → Int32 → Option Int32
  | 0, _, _ => none
  | fu + 1, x1, x2 =>
    if p1 ≤ x2 then
      k_4 x1
    else
      gd (ix ((nI 9) + x2) 345) (
      nm ((x1 + (q_s ((nI 9) + x2).toNatClampNeg))) (fun v5 =>
      f_X4_first_L4 Fu k_4 q_s p1 fu v5 (x2 + (nI 1))))
theorem f_X4_first_L4_s (Fu : Nat) (k_4 : Int32 → Option Int32) (q_s : Ar) (p1 : Int32) (fu : Nat) (x1 : Int32) (x2 : Int32) : f_X4_first_L4 Fu k_4 q_s p1 (fu + 1) x1 x2 =
    if p1 ≤ x2 then
      k_4 x1
    else
      gd (ix ((nI 9) + x2) 345) (
      nm ((x1 + (q_s ((nI 9) + x2).toNatClampNeg))) (fun v5 =>
      f_X4_first_L4 Fu k_4 q_s p1 fu v5 (x2 + (nI 1)))) := rfl
def f_X4_first (Fu : Nat) (q_s : Ar) (p1 : Int32) : Option Int32 :=
  jn (fun (v6 : Int32) =>
    some (v6))
    (fun k_4 => f_X4_first_L4 Fu k_4 q_s p1 Fu (nI 0) (nI 0))
set_option maxHeartbeats 4000000 in
set_option maxRecDepth 100000 in
theorem c_X4_first (l : Launch) (D : va_G) (y : Nat → ClassId) (a : Nat → Nat) (sz : Nat) (Fu : Nat) (q_s : Ar) (q_aside : Ar) (q_before : Ar) (q_known : Int32) (q_slots : Ar) (q_isSaved : Ar) (q_pad : Ar) (q_length : Int32) (q_letters : Ar) (q_heats : Ar) (q_reactions : Int32) (q_newSplits : Int32) (q_storiesThen : Int32) (q_heatThen : Int32) (q_place : Int32) (q_isWrong : Int32) (q_toldLetter : Ar) (q_toldHeat : Ar) (q_toldStory : Ar) (q_toldWords : Int32) (q_toldStories : Int32) (p1 : Int32) (ro : Int32) (hf : f_X4_first Fu q_s p1 = some (ro)) : MI l yX4_first wsX4_first 0 0 [.ref (a 0), .int p1] D y (w_X4 y a q_s q_aside q_before q_known q_slots q_isSaved q_pad q_length q_letters q_heats q_reactions q_newSplits q_storiesThen q_heatThen q_place q_isWrong q_toldLetter q_toldHeat q_toldStory q_toldWords q_toldStories) sz ro (w_X4 y a q_s q_aside q_before q_known q_slots q_isSaved q_pad q_length q_letters q_heats q_reactions q_newSplits q_storiesThen q_heatThen q_place q_isWrong q_toldLetter q_toldHeat q_toldStory q_toldWords q_toldStories) := by
  refine M_i (cc := cX4_first) (maxL := 4) (own := RX4) (by decide) rfl rfl (Nat.le_of_ble_eq_true rfl) ?_
  intro p e s m args below meth c A Q F hK hA H locs hG hret ls hl
  have hx := F.1
  have hb := F.2.1
  have hl : lv_has ls 4 [(0, .ref (a 0)), (1, .int p1)] := hl
  have k0 := F.2.2.2.2 (.fieldLink RX4 7 "HeatedStoriesModel" "s" "[I") (List.mem_of_getElem? (i := 1) rfl)
  have k1 : ∀ w ∈ wsX40, w ∈ wsX4_first := (fun w h => List.mem_cons_of_mem _ (List.mem_append_right _ (h)))
  unfold f_X4_first at hf
  refine lv_iconst (v := nI 0) hx hb dX4_first_0 rfl ?_
  refine lv_istore_n (lv' := [(2, .int (nI 0)), (0, .ref (a 0)), (1, .int p1)]) hx hb dX4_first_1 rfl hl (by decide) rfl (fun ls hl => ?_)
  refine lv_iconst (v := nI 0) hx hb dX4_first_2 rfl ?_
  refine lv_istore_n (lv' := [(3, .int (nI 0)), (2, .int (nI 0)), (0, .ref (a 0)), (1, .int p1)]) hx hb dX4_first_3 rfl hl (by decide) rfl (fun ls hl => ?_)
  obtain ⟨k_4, ek_4, hf⟩ := jn_e hf
  have hk_4 : ∀ (v6 : Int32) (H : Heap) (locs : List Loc) (ls : Array Slot), k_4 v6 = some (ro) → GG D A s.heap (w_X4 y a q_s q_aside q_before q_known q_slots q_isSaved q_pad q_length q_letters q_heats q_reactions q_newSplits q_storiesThen q_heatThen q_place q_isWrong q_toldLetter q_toldHeat q_toldStory q_toldWords q_toldStories) H locs → lv_has ls 4 [(2, .int v6)] → W p l e (RM 0 0) s m args below meth c H locs 0 0 Q (F0 m 27 ls []) := by
    intro v6 H locs ls hf hG hl
    rw [ek_4] at hf
    refine lv_iload_n hx hb dX4_first_27 rfl (lv_at hl 0 rfl) ?_
    have hf := so_e hf
    have e0 : v6 = ro := hf
    exact hret _ _ _ _ _ e0 hG dX4_first_28
  have hL4 : ∀ (fu : Nat) (x1 : Int32) (x2 : Int32) (H : Heap) (locs : List Loc) (ls : Array Slot), f_X4_first_L4 Fu k_4 q_s p1 fu x1 x2 = some (ro) → GG D A s.heap (w_X4 y a q_s q_aside q_before q_known q_slots q_isSaved q_pad q_length q_letters q_heats q_reactions q_newSplits q_storiesThen q_heatThen q_place q_isWrong q_toldLetter q_toldHeat q_toldStory q_toldWords q_toldStories) H locs → lv_has ls 4 [(0, .ref (a 0)), (1, .int p1), (2, .int x1), (3, .int x2)] → W p l e (RM 0 0) s m args below meth c H locs 0 0 Q (F0 m 4 ls []) := by
    intro fu
    induction fu with
    | zero => intro x1 x2 H locs ls hf hG hl; exact no_e hf
    | succ fu ih =>
      intro x1 x2 H locs ls hf hG hl
      rw [f_X4_first_L4_s] at hf
      refine lv_iload_n hx hb dX4_first_4 rfl (lv_at hl 3 rfl) ?_
      refine lv_iload_n hx hb dX4_first_5 rfl (lv_at hl 1 rfl) ?_
      refine lv_icmp_ge (tgt := 27) hx hb dX4_first_6 (by decide) (fun c3 => ?_) (fun c3 => ?_)
      · have hf := it_e c3 hf
        exact hk_4 x1 _ _ ls hf hG (lv_sub hl [2] rfl)
      · have hf := if_e c3 hf
        refine lv_iload_n hx hb dX4_first_9 rfl (lv_at hl 2 rfl) ?_
        refine lv_aload_n hx hb dX4_first_10 rfl (lv_at hl 0 rfl) ?_
        refine w_get4 F hK hG k1 0 rfl 0 (by decide) k0 rfl dX4_first_11 ?_
        refine lv_bipush (v := nI 9) hx hb dX4_first_14 rfl ?_
        refine lv_iload_n hx hb dX4_first_16 rfl (lv_at hl 3 rfl) ?_
        refine lv_iadd hx hb dX4_first_17 ?_
        obtain ⟨g4, hf⟩ := gd_e hf
        refine w_iald F hK hG 1 rfl g4 dX4_first_18 ?_
        refine lv_iadd hx hb dX4_first_19 ?_
        obtain ⟨v5, ev5, hf⟩ := nm_o hf
        refine w_nm ev5 ?_
        refine lv_istore_n (lv' := [(2, .int v5), (0, .ref (a 0)), (1, .int p1), (3, .int x2)]) hx hb dX4_first_20 rfl hl (by decide) rfl (fun ls hl => ?_)
        refine lv_iinc (v := x2 + (nI 1)) (lv' := [(3, .int (x2 + (nI 1))), (2, .int v5), (0, .ref (a 0)), (1, .int p1)]) hx hb dX4_first_21 hl (k := 3) rfl rfl (by decide) rfl (fun ls hl => ?_)
        refine lv_goto (tgt := 4) hx hb dX4_first_24 (by decide) ?_
        exact ih v5 (x2 + (nI 1)) _ _ ls hf hG (lv_sub hl [2, 3, 1, 0] rfl)
  exact hL4 Fu (nI 0) (nI 0) _ _ ls hf hG (lv_sub hl [2, 3, 1, 0] rfl)
def f_X4_know_L52 (Fu : Nat) (k_52 : Ar → Option (Ar × Int32)) (q_s : Ar) (q_known_10 : Int32) : Nat → Int32 → Ar → Option (Ar × Int32)
  | 0, _, _ => none
  | fu + 1, x12, q_before_13 =>
    if (nI 345) ≤ x12 then
      k_52 q_before_13
    else
      gd (ix x12 345) (
      gd (ix (((nI 345) * q_known_10) + x12) 2070) (
      nm ((upd q_before_13 (((nI 345) * q_known_10) + x12).toNatClampNeg (q_s (x12).toNatClampNeg))) (fun (q_before_17 : Ar) =>
      f_X4_know_L52 Fu k_52 q_s q_known_10 fu (x12 + (nI 1)) q_before_17)))
theorem f_X4_know_L52_s (Fu : Nat) (k_52 : Ar → Option (Ar × Int32)) (q_s : Ar) (q_known_10 : Int32) (fu : Nat) (x12 : Int32) (q_before_13 : Ar) : f_X4_know_L52 Fu k_52 q_s q_known_10 (fu + 1) x12 q_before_13 =
    if (nI 345) ≤ x12 then
      k_52 q_before_13
    else
      gd (ix x12 345) (
      gd (ix (((nI 345) * q_known_10) + x12) 2070) (
      nm ((upd q_before_13 (((nI 345) * q_known_10) + x12).toNatClampNeg (q_s (x12).toNatClampNeg))) (fun (q_before_17 : Ar) =>
      f_X4_know_L52 Fu k_52 q_s q_known_10 fu (x12 + (nI 1)) q_before_17))) := rfl
def f_X4_know_L11 (Fu : Nat) (k_11 : Ar → Option (Ar × Int32)) : Nat → Int32 → Ar → Option (Ar × Int32)
  | 0, _, _ => none
  | fu + 1, x2, q_before_3 =>
    if (nI 1725) ≤ x2 then
      k_11 q_before_3
    else
      gd (ix ((nI 345) + x2) 2070) (
      gd (ix x2 2070) (
      nm ((upd q_before_3 (x2).toNatClampNeg (q_before_3 ((nI 345) + x2).toNatClampNeg))) (fun (q_before_7 : Ar) =>
      f_X4_know_L11 Fu k_11 fu (x2 + (nI 1)) q_before_7)))
theorem f_X4_know_L11_s (Fu : Nat) (k_11 : Ar → Option (Ar × Int32)) (fu : Nat) (x2 : Int32) (q_before_3 : Ar) : f_X4_know_L11 Fu k_11 (fu + 1) x2 q_before_3 =
    if (nI 1725) ≤ x2 then
      k_11 q_before_3
    else
      gd (ix ((nI 345) + x2) 2070) (
      gd (ix x2 2070) (
      nm ((upd q_before_3 (x2).toNatClampNeg (q_before_3 ((nI 345) + x2).toNatClampNeg))) (fun (q_before_7 : Ar) =>
      f_X4_know_L11 Fu k_11 fu (x2 + (nI 1)) q_before_7))) := rfl
def f_X4_know (Fu : Nat) (q_s : Ar) (q_before : Ar) (q_known : Int32) : Option (Ar × Int32) :=
  jn (fun (q_before_9 : Ar) (q_known_10 : Int32) =>
    jn (fun (q_before_18 : Ar) =>
      some (q_before_18, q_known_10 + (nI 1)))
      (fun k_52 => f_X4_know_L52 Fu k_52 q_s q_known_10 Fu (nI 0) q_before_9))
    (fun j11 =>
    if q_known = (nI 6) then
      jn (fun (q_before_8 : Ar) =>
        j11 q_before_8 (q_known - (nI 1)))
        (fun k_11 => f_X4_know_L11 Fu k_11 Fu (nI 0) q_before)
    else
      j11 q_before q_known)
set_option maxHeartbeats 4000000 in
set_option maxRecDepth 100000 in
theorem c_X4_know (l : Launch) (D : va_G) (y : Nat → ClassId) (a : Nat → Nat) (sz : Nat) (Fu : Nat) (q_s : Ar) (q_aside : Ar) (q_before : Ar) (q_known : Int32) (q_slots : Ar) (q_isSaved : Ar) (q_pad : Ar) (q_length : Int32) (q_letters : Ar) (q_heats : Ar) (q_reactions : Int32) (q_newSplits : Int32) (q_storiesThen : Int32) (q_heatThen : Int32) (q_place : Int32) (q_isWrong : Int32) (q_toldLetter : Ar) (q_toldHeat : Ar) (q_toldStory : Ar) (q_toldWords : Int32) (q_toldStories : Int32) (q_before_o : Ar) (q_known_o : Int32) (hf : f_X4_know Fu q_s q_before q_known = some (q_before_o, q_known_o)) : MV l yX4_know wsX4_know 0 0 [.ref (a 0)] D y (w_X4 y a q_s q_aside q_before q_known q_slots q_isSaved q_pad q_length q_letters q_heats q_reactions q_newSplits q_storiesThen q_heatThen q_place q_isWrong q_toldLetter q_toldHeat q_toldStory q_toldWords q_toldStories) sz (w_X4 y a q_s q_aside q_before_o q_known_o q_slots q_isSaved q_pad q_length q_letters q_heats q_reactions q_newSplits q_storiesThen q_heatThen q_place q_isWrong q_toldLetter q_toldHeat q_toldStory q_toldWords q_toldStories) := by
  refine M_v (cc := cX4_know) (maxL := 2) (own := RX4) (by decide) rfl rfl (Nat.le_of_ble_eq_true rfl) ?_
  intro p e s m args below meth c A Q F hK hA H locs hG hret ls hl
  have hx := F.1
  have hb := F.2.1
  have hl : lv_has ls 2 [(0, .ref (a 0))] := hl
  have k0 := F.2.2.2.2 (.fieldLink RX4 52 "HeatedStoriesModel" "known" "I") (List.mem_of_getElem? (i := 1) rfl)
  have k1 : ∀ w ∈ wsX40, w ∈ wsX4_know := (fun w h => List.mem_cons_of_mem _ (List.mem_append_right _ (h)))
  have k2 := F.2.2.2.2 (.fieldLink RX4 16 "HeatedStoriesModel" "before" "[I") (List.mem_of_getElem? (i := 2) rfl)
  have k3 := F.2.2.2.2 (.fieldLink RX4 7 "HeatedStoriesModel" "s" "[I") (List.mem_of_getElem? (i := 3) rfl)
  unfold f_X4_know at hf
  refine lv_aload_n hx hb dX4_know_0 rfl (lv_at hl 0 rfl) ?_
  refine w_get4 F hK hG k1 0 rfl 3 (by decide) k0 rfl dX4_know_1 ?_
  refine lv_bipush (v := nI 6) hx hb dX4_know_4 rfl ?_
  obtain ⟨j11, ej11, hf⟩ := jn_e hf
  have hj11 : ∀ (q_before_9 : Ar) (q_known_10 : Int32) (H : Heap) (locs : List Loc) (ls : Array Slot), j11 q_before_9 q_known_10 = some (q_before_o, q_known_o) → GG D A s.heap (w_X4 y a q_s q_aside q_before_9 q_known_10 q_slots q_isSaved q_pad q_length q_letters q_heats q_reactions q_newSplits q_storiesThen q_heatThen q_place q_isWrong q_toldLetter q_toldHeat q_toldStory q_toldWords q_toldStories) H locs → lv_has ls 2 [(0, .ref (a 0))] → W p l e (RM 0 0) s m args below meth c H locs 0 0 Q (F0 m 50 ls []) := by
    intro q_before_9 q_known_10 H locs ls hf hG hl
    rw [ej11] at hf
    refine lv_iconst (v := nI 0) hx hb dX4_know_50 rfl ?_
    refine lv_istore_n (lv' := [(1, .int (nI 0)), (0, .ref (a 0))]) hx hb dX4_know_51 rfl hl (by decide) rfl (fun ls hl => ?_)
    obtain ⟨k_52, ek_52, hf⟩ := jn_e hf
    have hk_52 : ∀ (q_before_18 : Ar) (H : Heap) (locs : List Loc) (ls : Array Slot), k_52 q_before_18 = some (q_before_o, q_known_o) → GG D A s.heap (w_X4 y a q_s q_aside q_before_18 q_known_10 q_slots q_isSaved q_pad q_length q_letters q_heats q_reactions q_newSplits q_storiesThen q_heatThen q_place q_isWrong q_toldLetter q_toldHeat q_toldStory q_toldWords q_toldStories) H locs → lv_has ls 2 [(0, .ref (a 0))] → W p l e (RM 0 0) s m args below meth c H locs 0 0 Q (F0 m 86 ls []) := by
      intro q_before_18 H locs ls hf hG hl
      rw [ek_52] at hf
      refine lv_aload_n hx hb dX4_know_86 rfl (lv_at hl 0 rfl) ?_
      refine lv_dup hx hb dX4_know_87 rfl ?_
      refine w_get4 F hK hG k1 0 rfl 3 (by decide) k0 rfl dX4_know_88 ?_
      refine lv_iconst (v := nI 1) hx hb dX4_know_91 rfl ?_
      refine lv_iadd hx hb dX4_know_92 ?_
      refine w_put4 F hK hG k1 0 rfl 3 (by decide) k0 rfl rfl rfl (Nat.le_of_ble_eq_true rfl) (w_X4 y a q_s q_aside q_before_18 (q_known_10 + (nI 1)) q_slots q_isSaved q_pad q_length q_letters q_heats q_reactions q_newSplits q_storiesThen q_heatThen q_place q_isWrong q_toldLetter q_toldHeat q_toldStory q_toldWords q_toldStories) rfl dX4_know_93 (fun H locs hG => ?_)
      have hf := so_e hf
      have e0 : q_before_18 = q_before_o := congrArg (fun z => z.1) hf
      have e1 : (q_known_10 + (nI 1)) = q_known_o := congrArg (fun z => z.2) hf
      exact hret _ _ _ _ (by rw [← e0, ← e1]; exact hG) dX4_know_96
    have hL52 : ∀ (fu : Nat) (x12 : Int32) (q_before_13 : Ar) (H : Heap) (locs : List Loc) (ls : Array Slot), f_X4_know_L52 Fu k_52 q_s q_known_10 fu x12 q_before_13 = some (q_before_o, q_known_o) → GG D A s.heap (w_X4 y a q_s q_aside q_before_13 q_known_10 q_slots q_isSaved q_pad q_length q_letters q_heats q_reactions q_newSplits q_storiesThen q_heatThen q_place q_isWrong q_toldLetter q_toldHeat q_toldStory q_toldWords q_toldStories) H locs → lv_has ls 2 [(0, .ref (a 0)), (1, .int x12)] → W p l e (RM 0 0) s m args below meth c H locs 0 0 Q (F0 m 52 ls []) := by
      intro fu
      induction fu with
      | zero => intro x12 q_before_13 H locs ls hf hG hl; exact no_e hf
      | succ fu ih =>
        intro x12 q_before_13 H locs ls hf hG hl
        rw [f_X4_know_L52_s] at hf
        refine lv_iload_n hx hb dX4_know_52 rfl (lv_at hl 1 rfl) ?_
        refine lv_sipush (v := nI 345) hx hb dX4_know_53 rfl ?_
        refine lv_icmp_ge (tgt := 86) hx hb dX4_know_56 (by decide) (fun c14 => ?_) (fun c14 => ?_)
        · have hf := it_e c14 hf
          exact hk_52 q_before_13 _ _ ls hf hG (lv_sub hl [0] rfl)
        · have hf := if_e c14 hf
          refine lv_aload_n hx hb dX4_know_59 rfl (lv_at hl 0 rfl) ?_
          refine w_get4 F hK hG k1 0 rfl 2 (by decide) k2 rfl dX4_know_60 ?_
          refine lv_sipush (v := nI 345) hx hb dX4_know_63 rfl ?_
          refine lv_aload_n hx hb dX4_know_66 rfl (lv_at hl 0 rfl) ?_
          refine w_get4 F hK hG k1 0 rfl 3 (by decide) k0 rfl dX4_know_67 ?_
          refine lv_imul hx hb dX4_know_70 ?_
          refine lv_iload_n hx hb dX4_know_71 rfl (lv_at hl 1 rfl) ?_
          refine lv_iadd hx hb dX4_know_72 ?_
          refine lv_aload_n hx hb dX4_know_73 rfl (lv_at hl 0 rfl) ?_
          refine w_get4 F hK hG k1 0 rfl 0 (by decide) k3 rfl dX4_know_74 ?_
          refine lv_iload_n hx hb dX4_know_77 rfl (lv_at hl 1 rfl) ?_
          obtain ⟨g15, hf⟩ := gd_e hf
          refine w_iald F hK hG 1 rfl g15 dX4_know_78 ?_
          obtain ⟨g16, hf⟩ := gd_e hf
          refine w_iast F hK hG 3 rfl g16 (w_X4 y a q_s q_aside (upd q_before_13 (((nI 345) * q_known_10) + x12).toNatClampNeg (q_s (x12).toNatClampNeg)) q_known_10 q_slots q_isSaved q_pad q_length q_letters q_heats q_reactions q_newSplits q_storiesThen q_heatThen q_place q_isWrong q_toldLetter q_toldHeat q_toldStory q_toldWords q_toldStories) rfl dX4_know_79 (fun H locs hG => ?_)
          obtain ⟨q_before_17, eq_before_17, hf⟩ := nm_o hf
          rw [← eq_before_17] at hG
          refine lv_iinc (v := x12 + (nI 1)) (lv' := [(1, .int (x12 + (nI 1))), (0, .ref (a 0))]) hx hb dX4_know_80 hl (k := 1) rfl rfl (by decide) rfl (fun ls hl => ?_)
          refine lv_goto (tgt := 52) hx hb dX4_know_83 (by decide) ?_
          exact ih (x12 + (nI 1)) q_before_17 _ _ ls hf hG (lv_sub hl [1, 0] rfl)
    exact hL52 Fu (nI 0) q_before_9 _ _ ls hf hG (lv_sub hl [1, 0] rfl)
  refine lv_icmp_ne (tgt := 50) hx hb dX4_know_6 (by decide) (fun c1 => ?_) (fun c1 => ?_)
  · have hf := if_e c1 hf
    exact hj11 q_before q_known _ _ ls hf hG (lv_sub hl [0] rfl)
  · have hf := it_e c1 hf
    refine lv_iconst (v := nI 0) hx hb dX4_know_9 rfl ?_
    refine lv_istore_n (lv' := [(1, .int (nI 0)), (0, .ref (a 0))]) hx hb dX4_know_10 rfl hl (by decide) rfl (fun ls hl => ?_)
    obtain ⟨k_11, ek_11, hf⟩ := jn_e hf
    have hk_11 : ∀ (q_before_8 : Ar) (H : Heap) (locs : List Loc) (ls : Array Slot), k_11 q_before_8 = some (q_before_o, q_known_o) → GG D A s.heap (w_X4 y a q_s q_aside q_before_8 q_known q_slots q_isSaved q_pad q_length q_letters q_heats q_reactions q_newSplits q_storiesThen q_heatThen q_place q_isWrong q_toldLetter q_toldHeat q_toldStory q_toldWords q_toldStories) H locs → lv_has ls 2 [(0, .ref (a 0))] → W p l e (RM 0 0) s m args below meth c H locs 0 0 Q (F0 m 40 ls []) := by
      intro q_before_8 H locs ls hf hG hl
      rw [ek_11] at hf
      refine lv_aload_n hx hb dX4_know_40 rfl (lv_at hl 0 rfl) ?_
      refine lv_dup hx hb dX4_know_41 rfl ?_
      refine w_get4 F hK hG k1 0 rfl 3 (by decide) k0 rfl dX4_know_42 ?_
      refine lv_iconst (v := nI 1) hx hb dX4_know_45 rfl ?_
      refine lv_isub hx hb dX4_know_46 ?_
      refine w_put4 F hK hG k1 0 rfl 3 (by decide) k0 rfl rfl rfl (Nat.le_of_ble_eq_true rfl) (w_X4 y a q_s q_aside q_before_8 (q_known - (nI 1)) q_slots q_isSaved q_pad q_length q_letters q_heats q_reactions q_newSplits q_storiesThen q_heatThen q_place q_isWrong q_toldLetter q_toldHeat q_toldStory q_toldWords q_toldStories) rfl dX4_know_47 (fun H locs hG => ?_)
      exact hj11 q_before_8 (q_known - (nI 1)) _ _ ls hf hG (lv_sub hl [0] rfl)
    have hL11 : ∀ (fu : Nat) (x2 : Int32) (q_before_3 : Ar) (H : Heap) (locs : List Loc) (ls : Array Slot), f_X4_know_L11 Fu k_11 fu x2 q_before_3 = some (q_before_o, q_known_o) → GG D A s.heap (w_X4 y a q_s q_aside q_before_3 q_known q_slots q_isSaved q_pad q_length q_letters q_heats q_reactions q_newSplits q_storiesThen q_heatThen q_place q_isWrong q_toldLetter q_toldHeat q_toldStory q_toldWords q_toldStories) H locs → lv_has ls 2 [(0, .ref (a 0)), (1, .int x2)] → W p l e (RM 0 0) s m args below meth c H locs 0 0 Q (F0 m 11 ls []) := by
      intro fu
      induction fu with
      | zero => intro x2 q_before_3 H locs ls hf hG hl; exact no_e hf
      | succ fu ih =>
        intro x2 q_before_3 H locs ls hf hG hl
        rw [f_X4_know_L11_s] at hf
        refine lv_iload_n hx hb dX4_know_11 rfl (lv_at hl 1 rfl) ?_
        refine lv_sipush (v := nI 1725) hx hb dX4_know_12 rfl ?_
        refine lv_icmp_ge (tgt := 40) hx hb dX4_know_15 (by decide) (fun c4 => ?_) (fun c4 => ?_)
        · have hf := it_e c4 hf
          exact hk_11 q_before_3 _ _ ls hf hG (lv_sub hl [0] rfl)
        · have hf := if_e c4 hf
          refine lv_aload_n hx hb dX4_know_18 rfl (lv_at hl 0 rfl) ?_
          refine w_get4 F hK hG k1 0 rfl 2 (by decide) k2 rfl dX4_know_19 ?_
          refine lv_iload_n hx hb dX4_know_22 rfl (lv_at hl 1 rfl) ?_
          refine lv_aload_n hx hb dX4_know_23 rfl (lv_at hl 0 rfl) ?_
          refine w_get4 F hK hG k1 0 rfl 2 (by decide) k2 rfl dX4_know_24 ?_
          refine lv_sipush (v := nI 345) hx hb dX4_know_27 rfl ?_
          refine lv_iload_n hx hb dX4_know_30 rfl (lv_at hl 1 rfl) ?_
          refine lv_iadd hx hb dX4_know_31 ?_
          obtain ⟨g5, hf⟩ := gd_e hf
          refine w_iald F hK hG 3 rfl g5 dX4_know_32 ?_
          obtain ⟨g6, hf⟩ := gd_e hf
          refine w_iast F hK hG 3 rfl g6 (w_X4 y a q_s q_aside (upd q_before_3 (x2).toNatClampNeg (q_before_3 ((nI 345) + x2).toNatClampNeg)) q_known q_slots q_isSaved q_pad q_length q_letters q_heats q_reactions q_newSplits q_storiesThen q_heatThen q_place q_isWrong q_toldLetter q_toldHeat q_toldStory q_toldWords q_toldStories) rfl dX4_know_33 (fun H locs hG => ?_)
          obtain ⟨q_before_7, eq_before_7, hf⟩ := nm_o hf
          rw [← eq_before_7] at hG
          refine lv_iinc (v := x2 + (nI 1)) (lv' := [(1, .int (x2 + (nI 1))), (0, .ref (a 0))]) hx hb dX4_know_34 hl (k := 1) rfl rfl (by decide) rfl (fun ls hl => ?_)
          refine lv_goto (tgt := 11) hx hb dX4_know_37 (by decide) ?_
          exact ih (x2 + (nI 1)) q_before_7 _ _ ls hf hG (lv_sub hl [1, 0] rfl)
    exact hL11 Fu (nI 0) q_before _ _ ls hf hG (lv_sub hl [1, 0] rfl)
def f_X4_warm (Fu : Nat) (q_s : Ar) (p1 : Int32) (p2 : Int32) : Option Ar :=
  gd (ix ((nI 195) + p1) 345) (
  nm (((q_s ((nI 195) + p1).toNatClampNeg) + p2)) (fun v2 =>
  nm (if v2 ≤ (nI 999) then v2 else nI 999) (fun v4 =>
  gd (ix ((nI 195) + p1) 345) (
  some (upd q_s ((nI 195) + p1).toNatClampNeg v4)))))
set_option maxHeartbeats 4000000 in
set_option maxRecDepth 100000 in
theorem c_X4_warm (l : Launch) (D : va_G) (y : Nat → ClassId) (a : Nat → Nat) (sz : Nat) (Fu : Nat) (q_s : Ar) (q_aside : Ar) (q_before : Ar) (q_known : Int32) (q_slots : Ar) (q_isSaved : Ar) (q_pad : Ar) (q_length : Int32) (q_letters : Ar) (q_heats : Ar) (q_reactions : Int32) (q_newSplits : Int32) (q_storiesThen : Int32) (q_heatThen : Int32) (q_place : Int32) (q_isWrong : Int32) (q_toldLetter : Ar) (q_toldHeat : Ar) (q_toldStory : Ar) (q_toldWords : Int32) (q_toldStories : Int32) (p1 : Int32) (p2 : Int32) (q_s_o : Ar) (hf : f_X4_warm Fu q_s p1 p2 = some (q_s_o)) : MV l yX4_warm wsX4_warm 0 0 [.ref (a 0), .int p1, .int p2] D y (w_X4 y a q_s q_aside q_before q_known q_slots q_isSaved q_pad q_length q_letters q_heats q_reactions q_newSplits q_storiesThen q_heatThen q_place q_isWrong q_toldLetter q_toldHeat q_toldStory q_toldWords q_toldStories) sz (w_X4 y a q_s_o q_aside q_before q_known q_slots q_isSaved q_pad q_length q_letters q_heats q_reactions q_newSplits q_storiesThen q_heatThen q_place q_isWrong q_toldLetter q_toldHeat q_toldStory q_toldWords q_toldStories) := by
  refine M_v (cc := cX4_warm) (maxL := 4) (own := RX4) (by decide) rfl rfl (Nat.le_of_ble_eq_true rfl) ?_
  intro p e s m args below meth c A Q F hK hA H locs hG hret ls hl
  have hx := F.1
  have hb := F.2.1
  have hl : lv_has ls 4 [(0, .ref (a 0)), (1, .int p1), (2, .int p2)] := hl
  have k0 := F.2.2.2.2 (.fieldLink RX4 7 "HeatedStoriesModel" "s" "[I") (List.mem_of_getElem? (i := 1) rfl)
  have k1 : ∀ w ∈ wsX40, w ∈ wsX4_warm := (fun w h => List.mem_cons_of_mem _ (List.mem_append_right _ (h)))
  unfold f_X4_warm at hf
  refine lv_aload_n hx hb dX4_warm_0 rfl (lv_at hl 0 rfl) ?_
  refine w_get4 F hK hG k1 0 rfl 0 (by decide) k0 rfl dX4_warm_1 ?_
  refine lv_sipush (v := nI 195) hx hb dX4_warm_4 rfl ?_
  refine lv_iload_n hx hb dX4_warm_7 rfl (lv_at hl 1 rfl) ?_
  refine lv_iadd hx hb dX4_warm_8 ?_
  obtain ⟨g1, hf⟩ := gd_e hf
  refine w_iald F hK hG 1 rfl g1 dX4_warm_9 ?_
  refine lv_iload_n hx hb dX4_warm_10 rfl (lv_at hl 2 rfl) ?_
  refine lv_iadd hx hb dX4_warm_11 ?_
  obtain ⟨v2, ev2, hf⟩ := nm_o hf
  refine w_nm ev2 ?_
  refine lv_istore_n (lv' := [(3, .int v2), (0, .ref (a 0)), (1, .int p1), (2, .int p2)]) hx hb dX4_warm_12 rfl hl (by decide) rfl (fun ls hl => ?_)
  refine lv_aload_n hx hb dX4_warm_13 rfl (lv_at hl 1 rfl) ?_
  refine w_get4 F hK hG k1 0 rfl 0 (by decide) k0 rfl dX4_warm_14 ?_
  refine lv_sipush (v := nI 195) hx hb dX4_warm_17 rfl ?_
  refine lv_iload_n hx hb dX4_warm_20 rfl (lv_at hl 2 rfl) ?_
  refine lv_iadd hx hb dX4_warm_21 ?_
  refine lv_iload_n hx hb dX4_warm_22 rfl (lv_at hl 0 rfl) ?_
  refine lv_sipush (v := nI 999) hx hb dX4_warm_23 rfl ?_
  obtain ⟨v4, ev4, hf⟩ := nm_o hf
  have hJ : ∀ (ls : Array Slot), lv_has ls 4 [] → W p l e (RM 0 0) s m args below meth c H locs 0 0 Q (F0 m 36 ls [.int v4, .int ((nI 195) + p1), .ref (a 1)]) := by
    intro ls hl
    obtain ⟨g5, hf⟩ := gd_e hf
    refine w_iast F hK hG 1 rfl g5 (w_X4 y a (upd q_s ((nI 195) + p1).toNatClampNeg v4) q_aside q_before q_known q_slots q_isSaved q_pad q_length q_letters q_heats q_reactions q_newSplits q_storiesThen q_heatThen q_place q_isWrong q_toldLetter q_toldHeat q_toldStory q_toldWords q_toldStories) rfl dX4_warm_36 (fun H locs hG => ?_)
    have hf := so_e hf
    have e0 : (upd q_s ((nI 195) + p1).toNatClampNeg v4) = q_s_o := hf
    exact hret _ _ _ _ (by rw [← e0]; exact hG) dX4_warm_37
  refine lv_icmp_le (tgt := 35) hx hb dX4_warm_26 (by decide) (fun c3 => ?_) (fun c3 => ?_)
  · refine lv_iload_n hx hb dX4_warm_35 rfl (lv_at hl 0 rfl) ?_
    have qv4 := (ev4.trans (if_pos c3))
    subst qv4
    exact hJ ls (lv_sub hl [] rfl)
  · refine lv_sipush (v := nI 999) hx hb dX4_warm_29 rfl ?_
    refine lv_goto (tgt := 36) hx hb dX4_warm_32 (by decide) ?_
    have qv4 := (ev4.trans (if_neg c3))
    subst qv4
    exact hJ ls (lv_sub hl [] rfl)
def f_X4_storyOf_L4 (Fu : Nat) (k_4 : Int32 → Option Int32) (q_s : Ar) : Nat → Int32 → Int32 → Option Int32
  | 0, _, _ => none
  | fu + 1, x1, x2 =>
    gd (ix ((nI 9) + x1) 345) (
    if x2 < (q_s ((nI 9) + x1).toNatClampNeg) then
      k_4 x1
    else
      gd (ix ((nI 9) + x1) 345) (
      nm ((x2 - (q_s ((nI 9) + x1).toNatClampNeg))) (fun v6 =>
      f_X4_storyOf_L4 Fu k_4 q_s fu (x1 + (nI 1)) v6)))
theorem f_X4_storyOf_L4_s (Fu : Nat) (k_4 : Int32 → Option Int32) (q_s : Ar) (fu : Nat) (x1 : Int32) (x2 : Int32) : f_X4_storyOf_L4 Fu k_4 q_s (fu + 1) x1 x2 =
    gd (ix ((nI 9) + x1) 345) (
    if x2 < (q_s ((nI 9) + x1).toNatClampNeg) then
      k_4 x1
    else
      gd (ix ((nI 9) + x1) 345) (
      nm ((x2 - (q_s ((nI 9) + x1).toNatClampNeg))) (fun v6 =>
      f_X4_storyOf_L4 Fu k_4 q_s fu (x1 + (nI 1)) v6))) := rfl
def f_X4_storyOf (Fu : Nat) (q_s : Ar) (p1 : Int32) : Option Int32 :=
  jn (fun (v7 : Int32) =>
    some (v7))
    (fun k_4 => f_X4_storyOf_L4 Fu k_4 q_s Fu (nI 0) p1)
set_option maxHeartbeats 4000000 in
set_option maxRecDepth 100000 in
theorem c_X4_storyOf (l : Launch) (D : va_G) (y : Nat → ClassId) (a : Nat → Nat) (sz : Nat) (Fu : Nat) (q_s : Ar) (q_aside : Ar) (q_before : Ar) (q_known : Int32) (q_slots : Ar) (q_isSaved : Ar) (q_pad : Ar) (q_length : Int32) (q_letters : Ar) (q_heats : Ar) (q_reactions : Int32) (q_newSplits : Int32) (q_storiesThen : Int32) (q_heatThen : Int32) (q_place : Int32) (q_isWrong : Int32) (q_toldLetter : Ar) (q_toldHeat : Ar) (q_toldStory : Ar) (q_toldWords : Int32) (q_toldStories : Int32) (p1 : Int32) (ro : Int32) (hf : f_X4_storyOf Fu q_s p1 = some (ro)) : MI l yX4_storyOf wsX4_storyOf 0 0 [.ref (a 0), .int p1] D y (w_X4 y a q_s q_aside q_before q_known q_slots q_isSaved q_pad q_length q_letters q_heats q_reactions q_newSplits q_storiesThen q_heatThen q_place q_isWrong q_toldLetter q_toldHeat q_toldStory q_toldWords q_toldStories) sz ro (w_X4 y a q_s q_aside q_before q_known q_slots q_isSaved q_pad q_length q_letters q_heats q_reactions q_newSplits q_storiesThen q_heatThen q_place q_isWrong q_toldLetter q_toldHeat q_toldStory q_toldWords q_toldStories) := by
  refine M_i (cc := cX4_storyOf) (maxL := 4) (own := RX4) (by decide) rfl rfl (Nat.le_of_ble_eq_true rfl) ?_
  intro p e s m args below meth c A Q F hK hA H locs hG hret ls hl
  have hx := F.1
  have hb := F.2.1
  have hl : lv_has ls 4 [(0, .ref (a 0)), (1, .int p1)] := hl
  have k0 := F.2.2.2.2 (.fieldLink RX4 7 "HeatedStoriesModel" "s" "[I") (List.mem_of_getElem? (i := 1) rfl)
  have k1 : ∀ w ∈ wsX40, w ∈ wsX4_storyOf := (fun w h => List.mem_cons_of_mem _ (List.mem_append_right _ (h)))
  unfold f_X4_storyOf at hf
  refine lv_iconst (v := nI 0) hx hb dX4_storyOf_0 rfl ?_
  refine lv_istore_n (lv' := [(2, .int (nI 0)), (0, .ref (a 0)), (1, .int p1)]) hx hb dX4_storyOf_1 rfl hl (by decide) rfl (fun ls hl => ?_)
  refine lv_iload_n hx hb dX4_storyOf_2 rfl (lv_at hl 2 rfl) ?_
  refine lv_istore_n (lv' := [(3, .int p1), (2, .int (nI 0)), (0, .ref (a 0)), (1, .int p1)]) hx hb dX4_storyOf_3 rfl hl (by decide) rfl (fun ls hl => ?_)
  obtain ⟨k_4, ek_4, hf⟩ := jn_e hf
  have hk_4 : ∀ (v7 : Int32) (H : Heap) (locs : List Loc) (ls : Array Slot), k_4 v7 = some (ro) → GG D A s.heap (w_X4 y a q_s q_aside q_before q_known q_slots q_isSaved q_pad q_length q_letters q_heats q_reactions q_newSplits q_storiesThen q_heatThen q_place q_isWrong q_toldLetter q_toldHeat q_toldStory q_toldWords q_toldStories) H locs → lv_has ls 4 [(2, .int v7)] → W p l e (RM 0 0) s m args below meth c H locs 0 0 Q (F0 m 35 ls []) := by
    intro v7 H locs ls hf hG hl
    rw [ek_4] at hf
    refine lv_iload_n hx hb dX4_storyOf_35 rfl (lv_at hl 0 rfl) ?_
    have hf := so_e hf
    have e0 : v7 = ro := hf
    exact hret _ _ _ _ _ e0 hG dX4_storyOf_36
  have hL4 : ∀ (fu : Nat) (x1 : Int32) (x2 : Int32) (H : Heap) (locs : List Loc) (ls : Array Slot), f_X4_storyOf_L4 Fu k_4 q_s fu x1 x2 = some (ro) → GG D A s.heap (w_X4 y a q_s q_aside q_before q_known q_slots q_isSaved q_pad q_length q_letters q_heats q_reactions q_newSplits q_storiesThen q_heatThen q_place q_isWrong q_toldLetter q_toldHeat q_toldStory q_toldWords q_toldStories) H locs → lv_has ls 4 [(0, .ref (a 0)), (2, .int x1), (3, .int x2)] → W p l e (RM 0 0) s m args below meth c H locs 0 0 Q (F0 m 4 ls []) := by
    intro fu
    induction fu with
    | zero => intro x1 x2 H locs ls hf hG hl; exact no_e hf
    | succ fu ih =>
      intro x1 x2 H locs ls hf hG hl
      rw [f_X4_storyOf_L4_s] at hf
      refine lv_iload_n hx hb dX4_storyOf_4 rfl (lv_at hl 2 rfl) ?_
      refine lv_aload_n hx hb dX4_storyOf_5 rfl (lv_at hl 0 rfl) ?_
      refine w_get4 F hK hG k1 0 rfl 0 (by decide) k0 rfl dX4_storyOf_6 ?_
      refine lv_bipush (v := nI 9) hx hb dX4_storyOf_9 rfl ?_
      refine lv_iload_n hx hb dX4_storyOf_11 rfl (lv_at hl 1 rfl) ?_
      refine lv_iadd hx hb dX4_storyOf_12 ?_
      obtain ⟨g3, hf⟩ := gd_e hf
      refine w_iald F hK hG 1 rfl g3 dX4_storyOf_13 ?_
      refine lv_icmp_lt (tgt := 35) hx hb dX4_storyOf_14 (by decide) (fun c4 => ?_) (fun c4 => ?_)
      · have hf := it_e c4 hf
        exact hk_4 x1 _ _ ls hf hG (lv_sub hl [1] rfl)
      · have hf := if_e c4 hf
        refine lv_iload_n hx hb dX4_storyOf_17 rfl (lv_at hl 2 rfl) ?_
        refine lv_aload_n hx hb dX4_storyOf_18 rfl (lv_at hl 0 rfl) ?_
        refine w_get4 F hK hG k1 0 rfl 0 (by decide) k0 rfl dX4_storyOf_19 ?_
        refine lv_bipush (v := nI 9) hx hb dX4_storyOf_22 rfl ?_
        refine lv_iload_n hx hb dX4_storyOf_24 rfl (lv_at hl 1 rfl) ?_
        refine lv_iadd hx hb dX4_storyOf_25 ?_
        obtain ⟨g5, hf⟩ := gd_e hf
        refine w_iald F hK hG 1 rfl g5 dX4_storyOf_26 ?_
        refine lv_isub hx hb dX4_storyOf_27 ?_
        obtain ⟨v6, ev6, hf⟩ := nm_o hf
        refine w_nm ev6 ?_
        refine lv_istore_n (lv' := [(3, .int v6), (0, .ref (a 0)), (2, .int x1)]) hx hb dX4_storyOf_28 rfl hl (by decide) rfl (fun ls hl => ?_)
        refine lv_iinc (v := x1 + (nI 1)) (lv' := [(2, .int (x1 + (nI 1))), (3, .int v6), (0, .ref (a 0))]) hx hb dX4_storyOf_29 hl (k := 2) rfl rfl (by decide) rfl (fun ls hl => ?_)
        refine lv_goto (tgt := 4) hx hb dX4_storyOf_32 (by decide) ?_
        exact ih (x1 + (nI 1)) v6 _ _ ls hf hG (lv_sub hl [2, 0, 1] rfl)
  exact hL4 Fu (nI 0) p1 _ _ ls hf hG (lv_sub hl [2, 1, 0] rfl)
def f_X4_split_L7 (Fu : Nat) (k_7 : Ar → Option Ar) (p1 : Int32) : Nat → Int32 → Ar → Option Ar
  | 0, _, _ => none
  | fu + 1, x1, q_s_2 =>
    if x1 ≤ (p1 + (nI 1)) then
      k_7 q_s_2
    else
      gd (ix (((nI 9) + x1) - (nI 1)) 345) (
      gd (ix ((nI 9) + x1) 345) (
      nm ((upd q_s_2 ((nI 9) + x1).toNatClampNeg (q_s_2 (((nI 9) + x1) - (nI 1)).toNatClampNeg))) (fun (q_s_6 : Ar) =>
      gd (ix (((nI 21) + x1) - (nI 1)) 345) (
      gd (ix ((nI 21) + x1) 345) (
      nm ((upd q_s_6 ((nI 21) + x1).toNatClampNeg (q_s_6 (((nI 21) + x1) - (nI 1)).toNatClampNeg))) (fun (q_s_9 : Ar) =>
      gd (ix (((nI 33) + x1) - (nI 1)) 345) (
      gd (ix ((nI 33) + x1) 345) (
      nm ((upd q_s_9 ((nI 33) + x1).toNatClampNeg (q_s_9 (((nI 33) + x1) - (nI 1)).toNatClampNeg))) (fun (q_s_12 : Ar) =>
      f_X4_split_L7 Fu k_7 p1 fu (x1 + (-1)) q_s_12)))))))))
theorem f_X4_split_L7_s (Fu : Nat) (k_7 : Ar → Option Ar) (p1 : Int32) (fu : Nat) (x1 : Int32) (q_s_2 : Ar) : f_X4_split_L7 Fu k_7 p1 (fu + 1) x1 q_s_2 =
    if x1 ≤ (p1 + (nI 1)) then
      k_7 q_s_2
    else
      gd (ix (((nI 9) + x1) - (nI 1)) 345) (
      gd (ix ((nI 9) + x1) 345) (
      nm ((upd q_s_2 ((nI 9) + x1).toNatClampNeg (q_s_2 (((nI 9) + x1) - (nI 1)).toNatClampNeg))) (fun (q_s_6 : Ar) =>
      gd (ix (((nI 21) + x1) - (nI 1)) 345) (
      gd (ix ((nI 21) + x1) 345) (
      nm ((upd q_s_6 ((nI 21) + x1).toNatClampNeg (q_s_6 (((nI 21) + x1) - (nI 1)).toNatClampNeg))) (fun (q_s_9 : Ar) =>
      gd (ix (((nI 33) + x1) - (nI 1)) 345) (
      gd (ix ((nI 33) + x1) 345) (
      nm ((upd q_s_9 ((nI 33) + x1).toNatClampNeg (q_s_9 (((nI 33) + x1) - (nI 1)).toNatClampNeg))) (fun (q_s_12 : Ar) =>
      f_X4_split_L7 Fu k_7 p1 fu (x1 + (-1)) q_s_12))))))))) := rfl
def f_X4_split (Fu : Nat) (q_s : Ar) (p1 : Int32) (p2 : Int32) : Option Ar :=
  jn (fun (q_s_13 : Ar) =>
    gd (ix ((nI 9) + p1) 345) (
    gd (ix (((nI 9) + p1) + (nI 1)) 345) (
    nm ((upd q_s_13 (((nI 9) + p1) + (nI 1)).toNatClampNeg ((q_s_13 ((nI 9) + p1).toNatClampNeg) - p2))) (fun (q_s_16 : Ar) =>
    gd (ix ((nI 9) + p1) 345) (
    gd (ix ((nI 21) + p1) 345) (
    gd (ix (((nI 21) + p1) + (nI 1)) 345) (
    nm ((upd (upd q_s_16 ((nI 9) + p1).toNatClampNeg p2) (((nI 21) + p1) + (nI 1)).toNatClampNeg ((upd q_s_16 ((nI 9) + p1).toNatClampNeg p2) ((nI 21) + p1).toNatClampNeg))) (fun (q_s_20 : Ar) =>
    gd (ix ((nI 33) + p1) 345) (
    gd (ix (((nI 33) + p1) + (nI 1)) 345) (
    nm ((upd q_s_20 (((nI 33) + p1) + (nI 1)).toNatClampNeg ((q_s_20 ((nI 33) + p1).toNatClampNeg) + (nI 1)))) (fun (q_s_23 : Ar) =>
    some (upd q_s_23 3 ((q_s_23 3) + (nI 1))))))))))))))
    (fun k_7 => f_X4_split_L7 Fu k_7 p1 Fu (q_s 3) q_s)
set_option maxHeartbeats 4000000 in
set_option maxRecDepth 100000 in
theorem c_X4_split (l : Launch) (D : va_G) (y : Nat → ClassId) (a : Nat → Nat) (sz : Nat) (Fu : Nat) (q_s : Ar) (q_aside : Ar) (q_before : Ar) (q_known : Int32) (q_slots : Ar) (q_isSaved : Ar) (q_pad : Ar) (q_length : Int32) (q_letters : Ar) (q_heats : Ar) (q_reactions : Int32) (q_newSplits : Int32) (q_storiesThen : Int32) (q_heatThen : Int32) (q_place : Int32) (q_isWrong : Int32) (q_toldLetter : Ar) (q_toldHeat : Ar) (q_toldStory : Ar) (q_toldWords : Int32) (q_toldStories : Int32) (p1 : Int32) (p2 : Int32) (q_s_o : Ar) (hf : f_X4_split Fu q_s p1 p2 = some (q_s_o)) : MV l yX4_split wsX4_split 0 0 [.ref (a 0), .int p1, .int p2] D y (w_X4 y a q_s q_aside q_before q_known q_slots q_isSaved q_pad q_length q_letters q_heats q_reactions q_newSplits q_storiesThen q_heatThen q_place q_isWrong q_toldLetter q_toldHeat q_toldStory q_toldWords q_toldStories) sz (w_X4 y a q_s_o q_aside q_before q_known q_slots q_isSaved q_pad q_length q_letters q_heats q_reactions q_newSplits q_storiesThen q_heatThen q_place q_isWrong q_toldLetter q_toldHeat q_toldStory q_toldWords q_toldStories) := by
  refine M_v (cc := cX4_split) (maxL := 4) (own := RX4) (by decide) rfl rfl (Nat.le_of_ble_eq_true rfl) ?_
  intro p e s m args below meth c A Q F hK hA H locs hG hret ls hl
  have hx := F.1
  have hb := F.2.1
  have hl : lv_has ls 4 [(0, .ref (a 0)), (1, .int p1), (2, .int p2)] := hl
  have k0 := F.2.2.2.2 (.fieldLink RX4 7 "HeatedStoriesModel" "s" "[I") (List.mem_of_getElem? (i := 1) rfl)
  have k1 : ∀ w ∈ wsX40, w ∈ wsX4_split := (fun w h => List.mem_cons_of_mem _ (List.mem_append_right _ (h)))
  unfold f_X4_split at hf
  refine lv_aload_n hx hb dX4_split_0 rfl (lv_at hl 0 rfl) ?_
  refine w_get4 F hK hG k1 0 rfl 0 (by decide) k0 rfl dX4_split_1 ?_
  refine lv_iconst (v := nI 3) hx hb dX4_split_4 rfl ?_
  refine w_ialdk F hK hG 1 rfl (Nat.le_of_ble_eq_true rfl) (Nat.le_of_ble_eq_true rfl) dX4_split_5 ?_
  refine lv_istore_n (lv' := [(3, .int (q_s 3)), (0, .ref (a 0)), (1, .int p1), (2, .int p2)]) hx hb dX4_split_6 rfl hl (by decide) rfl (fun ls hl => ?_)
  obtain ⟨k_7, ek_7, hf⟩ := jn_e hf
  have hk_7 : ∀ (q_s_13 : Ar) (H : Heap) (locs : List Loc) (ls : Array Slot), k_7 q_s_13 = some (q_s_o) → GG D A s.heap (w_X4 y a q_s_13 q_aside q_before q_known q_slots q_isSaved q_pad q_length q_letters q_heats q_reactions q_newSplits q_storiesThen q_heatThen q_place q_isWrong q_toldLetter q_toldHeat q_toldStory q_toldWords q_toldStories) H locs → lv_has ls 4 [(0, .ref (a 0)), (1, .int p1), (2, .int p2)] → W p l e (RM 0 0) s m args below meth c H locs 0 0 Q (F0 m 80 ls []) := by
    intro q_s_13 H locs ls hf hG hl
    rw [ek_7] at hf
    refine lv_aload_n hx hb dX4_split_80 rfl (lv_at hl 0 rfl) ?_
    refine w_get4 F hK hG k1 0 rfl 0 (by decide) k0 rfl dX4_split_81 ?_
    refine lv_bipush (v := nI 9) hx hb dX4_split_84 rfl ?_
    refine lv_iload_n hx hb dX4_split_86 rfl (lv_at hl 1 rfl) ?_
    refine lv_iadd hx hb dX4_split_87 ?_
    refine lv_iconst (v := nI 1) hx hb dX4_split_88 rfl ?_
    refine lv_iadd hx hb dX4_split_89 ?_
    refine lv_aload_n hx hb dX4_split_90 rfl (lv_at hl 0 rfl) ?_
    refine w_get4 F hK hG k1 0 rfl 0 (by decide) k0 rfl dX4_split_91 ?_
    refine lv_bipush (v := nI 9) hx hb dX4_split_94 rfl ?_
    refine lv_iload_n hx hb dX4_split_96 rfl (lv_at hl 1 rfl) ?_
    refine lv_iadd hx hb dX4_split_97 ?_
    obtain ⟨g14, hf⟩ := gd_e hf
    refine w_iald F hK hG 1 rfl g14 dX4_split_98 ?_
    refine lv_iload_n hx hb dX4_split_99 rfl (lv_at hl 2 rfl) ?_
    refine lv_isub hx hb dX4_split_100 ?_
    obtain ⟨g15, hf⟩ := gd_e hf
    refine w_iast F hK hG 1 rfl g15 (w_X4 y a (upd q_s_13 (((nI 9) + p1) + (nI 1)).toNatClampNeg ((q_s_13 ((nI 9) + p1).toNatClampNeg) - p2)) q_aside q_before q_known q_slots q_isSaved q_pad q_length q_letters q_heats q_reactions q_newSplits q_storiesThen q_heatThen q_place q_isWrong q_toldLetter q_toldHeat q_toldStory q_toldWords q_toldStories) rfl dX4_split_101 (fun H locs hG => ?_)
    obtain ⟨q_s_16, eq_s_16, hf⟩ := nm_o hf
    rw [← eq_s_16] at hG
    refine lv_aload_n hx hb dX4_split_102 rfl (lv_at hl 0 rfl) ?_
    refine w_get4 F hK hG k1 0 rfl 0 (by decide) k0 rfl dX4_split_103 ?_
    refine lv_bipush (v := nI 9) hx hb dX4_split_106 rfl ?_
    refine lv_iload_n hx hb dX4_split_108 rfl (lv_at hl 1 rfl) ?_
    refine lv_iadd hx hb dX4_split_109 ?_
    refine lv_iload_n hx hb dX4_split_110 rfl (lv_at hl 2 rfl) ?_
    obtain ⟨g17, hf⟩ := gd_e hf
    refine w_iast F hK hG 1 rfl g17 (w_X4 y a (upd q_s_16 ((nI 9) + p1).toNatClampNeg p2) q_aside q_before q_known q_slots q_isSaved q_pad q_length q_letters q_heats q_reactions q_newSplits q_storiesThen q_heatThen q_place q_isWrong q_toldLetter q_toldHeat q_toldStory q_toldWords q_toldStories) rfl dX4_split_111 (fun H locs hG => ?_)
    refine lv_aload_n hx hb dX4_split_112 rfl (lv_at hl 0 rfl) ?_
    refine w_get4 F hK hG k1 0 rfl 0 (by decide) k0 rfl dX4_split_113 ?_
    refine lv_bipush (v := nI 21) hx hb dX4_split_116 rfl ?_
    refine lv_iload_n hx hb dX4_split_118 rfl (lv_at hl 1 rfl) ?_
    refine lv_iadd hx hb dX4_split_119 ?_
    refine lv_iconst (v := nI 1) hx hb dX4_split_120 rfl ?_
    refine lv_iadd hx hb dX4_split_121 ?_
    refine lv_aload_n hx hb dX4_split_122 rfl (lv_at hl 0 rfl) ?_
    refine w_get4 F hK hG k1 0 rfl 0 (by decide) k0 rfl dX4_split_123 ?_
    refine lv_bipush (v := nI 21) hx hb dX4_split_126 rfl ?_
    refine lv_iload_n hx hb dX4_split_128 rfl (lv_at hl 1 rfl) ?_
    refine lv_iadd hx hb dX4_split_129 ?_
    obtain ⟨g18, hf⟩ := gd_e hf
    refine w_iald F hK hG 1 rfl g18 dX4_split_130 ?_
    obtain ⟨g19, hf⟩ := gd_e hf
    refine w_iast F hK hG 1 rfl g19 (w_X4 y a (upd (upd q_s_16 ((nI 9) + p1).toNatClampNeg p2) (((nI 21) + p1) + (nI 1)).toNatClampNeg ((upd q_s_16 ((nI 9) + p1).toNatClampNeg p2) ((nI 21) + p1).toNatClampNeg)) q_aside q_before q_known q_slots q_isSaved q_pad q_length q_letters q_heats q_reactions q_newSplits q_storiesThen q_heatThen q_place q_isWrong q_toldLetter q_toldHeat q_toldStory q_toldWords q_toldStories) rfl dX4_split_131 (fun H locs hG => ?_)
    obtain ⟨q_s_20, eq_s_20, hf⟩ := nm_o hf
    rw [← eq_s_20] at hG
    refine lv_aload_n hx hb dX4_split_132 rfl (lv_at hl 0 rfl) ?_
    refine w_get4 F hK hG k1 0 rfl 0 (by decide) k0 rfl dX4_split_133 ?_
    refine lv_bipush (v := nI 33) hx hb dX4_split_136 rfl ?_
    refine lv_iload_n hx hb dX4_split_138 rfl (lv_at hl 1 rfl) ?_
    refine lv_iadd hx hb dX4_split_139 ?_
    refine lv_iconst (v := nI 1) hx hb dX4_split_140 rfl ?_
    refine lv_iadd hx hb dX4_split_141 ?_
    refine lv_aload_n hx hb dX4_split_142 rfl (lv_at hl 0 rfl) ?_
    refine w_get4 F hK hG k1 0 rfl 0 (by decide) k0 rfl dX4_split_143 ?_
    refine lv_bipush (v := nI 33) hx hb dX4_split_146 rfl ?_
    refine lv_iload_n hx hb dX4_split_148 rfl (lv_at hl 1 rfl) ?_
    refine lv_iadd hx hb dX4_split_149 ?_
    obtain ⟨g21, hf⟩ := gd_e hf
    refine w_iald F hK hG 1 rfl g21 dX4_split_150 ?_
    refine lv_iconst (v := nI 1) hx hb dX4_split_151 rfl ?_
    refine lv_iadd hx hb dX4_split_152 ?_
    obtain ⟨g22, hf⟩ := gd_e hf
    refine w_iast F hK hG 1 rfl g22 (w_X4 y a (upd q_s_20 (((nI 33) + p1) + (nI 1)).toNatClampNeg ((q_s_20 ((nI 33) + p1).toNatClampNeg) + (nI 1))) q_aside q_before q_known q_slots q_isSaved q_pad q_length q_letters q_heats q_reactions q_newSplits q_storiesThen q_heatThen q_place q_isWrong q_toldLetter q_toldHeat q_toldStory q_toldWords q_toldStories) rfl dX4_split_153 (fun H locs hG => ?_)
    obtain ⟨q_s_23, eq_s_23, hf⟩ := nm_o hf
    rw [← eq_s_23] at hG
    refine lv_aload_n hx hb dX4_split_154 rfl (lv_at hl 0 rfl) ?_
    refine w_get4 F hK hG k1 0 rfl 0 (by decide) k0 rfl dX4_split_155 ?_
    refine lv_iconst (v := nI 3) hx hb dX4_split_158 rfl ?_
    refine lv_dup2_11 hx hb dX4_split_159 rfl rfl ?_
    refine w_ialdk F hK hG 1 rfl (Nat.le_of_ble_eq_true rfl) (Nat.le_of_ble_eq_true rfl) dX4_split_160 ?_
    refine lv_iconst (v := nI 1) hx hb dX4_split_161 rfl ?_
    refine lv_iadd hx hb dX4_split_162 ?_
    refine w_iastk F hK hG 1 rfl (Nat.le_of_ble_eq_true rfl) (Nat.le_of_ble_eq_true rfl) (w_X4 y a (upd q_s_23 3 ((q_s_23 3) + (nI 1))) q_aside q_before q_known q_slots q_isSaved q_pad q_length q_letters q_heats q_reactions q_newSplits q_storiesThen q_heatThen q_place q_isWrong q_toldLetter q_toldHeat q_toldStory q_toldWords q_toldStories) rfl dX4_split_163 (fun H locs hG => ?_)
    have hf := so_e hf
    have e0 : (upd q_s_23 3 ((q_s_23 3) + (nI 1))) = q_s_o := hf
    exact hret _ _ _ _ (by rw [← e0]; exact hG) dX4_split_164
  have hL7 : ∀ (fu : Nat) (x1 : Int32) (q_s_2 : Ar) (H : Heap) (locs : List Loc) (ls : Array Slot), f_X4_split_L7 Fu k_7 p1 fu x1 q_s_2 = some (q_s_o) → GG D A s.heap (w_X4 y a q_s_2 q_aside q_before q_known q_slots q_isSaved q_pad q_length q_letters q_heats q_reactions q_newSplits q_storiesThen q_heatThen q_place q_isWrong q_toldLetter q_toldHeat q_toldStory q_toldWords q_toldStories) H locs → lv_has ls 4 [(0, .ref (a 0)), (1, .int p1), (2, .int p2), (3, .int x1)] → W p l e (RM 0 0) s m args below meth c H locs 0 0 Q (F0 m 7 ls []) := by
    intro fu
    induction fu with
    | zero => intro x1 q_s_2 H locs ls hf hG hl; exact no_e hf
    | succ fu ih =>
      intro x1 q_s_2 H locs ls hf hG hl
      rw [f_X4_split_L7_s] at hf
      refine lv_iload_n hx hb dX4_split_7 rfl (lv_at hl 3 rfl) ?_
      refine lv_iload_n hx hb dX4_split_8 rfl (lv_at hl 1 rfl) ?_
      refine lv_iconst (v := nI 1) hx hb dX4_split_9 rfl ?_
      refine lv_iadd hx hb dX4_split_10 ?_
      refine lv_icmp_le (tgt := 80) hx hb dX4_split_11 (by decide) (fun c3 => ?_) (fun c3 => ?_)
      · have hf := it_e c3 hf
        exact hk_7 q_s_2 _ _ ls hf hG (lv_sub hl [0, 1, 2] rfl)
      · have hf := if_e c3 hf
        refine lv_aload_n hx hb dX4_split_14 rfl (lv_at hl 0 rfl) ?_
        refine w_get4 F hK hG k1 0 rfl 0 (by decide) k0 rfl dX4_split_15 ?_
        refine lv_bipush (v := nI 9) hx hb dX4_split_18 rfl ?_
        refine lv_iload_n hx hb dX4_split_20 rfl (lv_at hl 3 rfl) ?_
        refine lv_iadd hx hb dX4_split_21 ?_
        refine lv_aload_n hx hb dX4_split_22 rfl (lv_at hl 0 rfl) ?_
        refine w_get4 F hK hG k1 0 rfl 0 (by decide) k0 rfl dX4_split_23 ?_
        refine lv_bipush (v := nI 9) hx hb dX4_split_26 rfl ?_
        refine lv_iload_n hx hb dX4_split_28 rfl (lv_at hl 3 rfl) ?_
        refine lv_iadd hx hb dX4_split_29 ?_
        refine lv_iconst (v := nI 1) hx hb dX4_split_30 rfl ?_
        refine lv_isub hx hb dX4_split_31 ?_
        obtain ⟨g4, hf⟩ := gd_e hf
        refine w_iald F hK hG 1 rfl g4 dX4_split_32 ?_
        obtain ⟨g5, hf⟩ := gd_e hf
        refine w_iast F hK hG 1 rfl g5 (w_X4 y a (upd q_s_2 ((nI 9) + x1).toNatClampNeg (q_s_2 (((nI 9) + x1) - (nI 1)).toNatClampNeg)) q_aside q_before q_known q_slots q_isSaved q_pad q_length q_letters q_heats q_reactions q_newSplits q_storiesThen q_heatThen q_place q_isWrong q_toldLetter q_toldHeat q_toldStory q_toldWords q_toldStories) rfl dX4_split_33 (fun H locs hG => ?_)
        obtain ⟨q_s_6, eq_s_6, hf⟩ := nm_o hf
        rw [← eq_s_6] at hG
        refine lv_aload_n hx hb dX4_split_34 rfl (lv_at hl 0 rfl) ?_
        refine w_get4 F hK hG k1 0 rfl 0 (by decide) k0 rfl dX4_split_35 ?_
        refine lv_bipush (v := nI 21) hx hb dX4_split_38 rfl ?_
        refine lv_iload_n hx hb dX4_split_40 rfl (lv_at hl 3 rfl) ?_
        refine lv_iadd hx hb dX4_split_41 ?_
        refine lv_aload_n hx hb dX4_split_42 rfl (lv_at hl 0 rfl) ?_
        refine w_get4 F hK hG k1 0 rfl 0 (by decide) k0 rfl dX4_split_43 ?_
        refine lv_bipush (v := nI 21) hx hb dX4_split_46 rfl ?_
        refine lv_iload_n hx hb dX4_split_48 rfl (lv_at hl 3 rfl) ?_
        refine lv_iadd hx hb dX4_split_49 ?_
        refine lv_iconst (v := nI 1) hx hb dX4_split_50 rfl ?_
        refine lv_isub hx hb dX4_split_51 ?_
        obtain ⟨g7, hf⟩ := gd_e hf
        refine w_iald F hK hG 1 rfl g7 dX4_split_52 ?_
        obtain ⟨g8, hf⟩ := gd_e hf
        refine w_iast F hK hG 1 rfl g8 (w_X4 y a (upd q_s_6 ((nI 21) + x1).toNatClampNeg (q_s_6 (((nI 21) + x1) - (nI 1)).toNatClampNeg)) q_aside q_before q_known q_slots q_isSaved q_pad q_length q_letters q_heats q_reactions q_newSplits q_storiesThen q_heatThen q_place q_isWrong q_toldLetter q_toldHeat q_toldStory q_toldWords q_toldStories) rfl dX4_split_53 (fun H locs hG => ?_)
        obtain ⟨q_s_9, eq_s_9, hf⟩ := nm_o hf
        rw [← eq_s_9] at hG
        refine lv_aload_n hx hb dX4_split_54 rfl (lv_at hl 0 rfl) ?_
        refine w_get4 F hK hG k1 0 rfl 0 (by decide) k0 rfl dX4_split_55 ?_
        refine lv_bipush (v := nI 33) hx hb dX4_split_58 rfl ?_
        refine lv_iload_n hx hb dX4_split_60 rfl (lv_at hl 3 rfl) ?_
        refine lv_iadd hx hb dX4_split_61 ?_
        refine lv_aload_n hx hb dX4_split_62 rfl (lv_at hl 0 rfl) ?_
        refine w_get4 F hK hG k1 0 rfl 0 (by decide) k0 rfl dX4_split_63 ?_
        refine lv_bipush (v := nI 33) hx hb dX4_split_66 rfl ?_
        refine lv_iload_n hx hb dX4_split_68 rfl (lv_at hl 3 rfl) ?_
        refine lv_iadd hx hb dX4_split_69 ?_
        refine lv_iconst (v := nI 1) hx hb dX4_split_70 rfl ?_
        refine lv_isub hx hb dX4_split_71 ?_
        obtain ⟨g10, hf⟩ := gd_e hf
        refine w_iald F hK hG 1 rfl g10 dX4_split_72 ?_
        obtain ⟨g11, hf⟩ := gd_e hf
        refine w_iast F hK hG 1 rfl g11 (w_X4 y a (upd q_s_9 ((nI 33) + x1).toNatClampNeg (q_s_9 (((nI 33) + x1) - (nI 1)).toNatClampNeg)) q_aside q_before q_known q_slots q_isSaved q_pad q_length q_letters q_heats q_reactions q_newSplits q_storiesThen q_heatThen q_place q_isWrong q_toldLetter q_toldHeat q_toldStory q_toldWords q_toldStories) rfl dX4_split_73 (fun H locs hG => ?_)
        obtain ⟨q_s_12, eq_s_12, hf⟩ := nm_o hf
        rw [← eq_s_12] at hG
        refine lv_iinc (v := x1 + (-1)) (lv' := [(3, .int (x1 + (-1))), (0, .ref (a 0)), (1, .int p1), (2, .int p2)]) hx hb dX4_split_74 hl (k := 3) rfl rfl (by decide) rfl (fun ls hl => ?_)
        refine lv_goto (tgt := 7) hx hb dX4_split_77 (by decide) ?_
        exact ih (x1 + (-1)) q_s_12 _ _ ls hf hG (lv_sub hl [1, 2, 3, 0] rfl)
  exact hL7 Fu (q_s 3) q_s _ _ ls hf hG (lv_sub hl [1, 2, 3, 0] rfl)
def f_X4_reactOne (Fu : Nat) (q_s : Ar) (p1 : Int32) : Option Ar :=
  bd1 (f_X4_storyOf Fu q_s p1) (fun r1 =>
  bd1 (f_X4_first Fu q_s r1) (fun r3 =>
  gd (ix ((nI 9) + r1) 345) (
  nm (if (p1 - r3) = ((q_s ((nI 9) + r1).toNatClampNeg) - (nI 1)) then (nI 1) else nI 0) (fun v7 =>
  gd (ix ((nI 195) + p1) 345) (
  jn (fun (q_s_16 : Ar) =>
    jn (fun (q_s_21 : Ar) =>
      jn (fun (q_s_26 : Ar) =>
        some (q_s_26))
        (fun j27 =>
        if v7 = 0 then
          bd1 (f_X4_warm Fu q_s_21 (p1 + (nI 1)) (q_s_21 1)) (fun q_s_24 =>
          j27 q_s_24)
        else
          j27 q_s_21))
      (fun j22 =>
      if (p1 - r3) ≤ 0 then
        j22 q_s_16
      else
        bd1 (f_X4_warm Fu q_s_16 (p1 - (nI 1)) (q_s_16 1)) (fun q_s_19 =>
        j22 q_s_19)))
    (fun j17 =>
    if (p1 - r3) = 0 then
      nm ((upd (upd q_s ((nI 195) + p1).toNatClampNeg (nI 0)) 7 (((upd q_s ((nI 195) + p1).toNatClampNeg (nI 0)) 7) + (nI 1)))) (fun (q_s_15 : Ar) =>
      j17 q_s_15)
    else
      if (nI 12) ≤ ((upd q_s ((nI 195) + p1).toNatClampNeg (nI 0)) 3) then
        nm ((upd (upd q_s ((nI 195) + p1).toNatClampNeg (nI 0)) 8 (((upd q_s ((nI 195) + p1).toNatClampNeg (nI 0)) 8) + (nI 1)))) (fun (q_s_11 : Ar) =>
        j17 q_s_11)
      else
        nm ((upd (upd q_s ((nI 195) + p1).toNatClampNeg (nI 0)) 6 (((upd q_s ((nI 195) + p1).toNatClampNeg (nI 0)) 6) + (nI 1)))) (fun (q_s_12 : Ar) =>
        bd1 (f_X4_split Fu q_s_12 r1 (p1 - r3)) (fun q_s_13 =>
        j17 q_s_13))))))))
set_option maxHeartbeats 4000000 in
set_option maxRecDepth 100000 in
theorem c_X4_reactOne (l : Launch) (D : va_G) (y : Nat → ClassId) (a : Nat → Nat) (sz : Nat) (Fu : Nat) (q_s : Ar) (q_aside : Ar) (q_before : Ar) (q_known : Int32) (q_slots : Ar) (q_isSaved : Ar) (q_pad : Ar) (q_length : Int32) (q_letters : Ar) (q_heats : Ar) (q_reactions : Int32) (q_newSplits : Int32) (q_storiesThen : Int32) (q_heatThen : Int32) (q_place : Int32) (q_isWrong : Int32) (q_toldLetter : Ar) (q_toldHeat : Ar) (q_toldStory : Ar) (q_toldWords : Int32) (q_toldStories : Int32) (p1 : Int32) (q_s_o : Ar) (hf : f_X4_reactOne Fu q_s p1 = some (q_s_o)) : MV l yX4_reactOne wsX4_reactOne 1 23 [.ref (a 0), .int p1] D y (w_X4 y a q_s q_aside q_before q_known q_slots q_isSaved q_pad q_length q_letters q_heats q_reactions q_newSplits q_storiesThen q_heatThen q_place q_isWrong q_toldLetter q_toldHeat q_toldStory q_toldWords q_toldStories) sz (w_X4 y a q_s_o q_aside q_before q_known q_slots q_isSaved q_pad q_length q_letters q_heats q_reactions q_newSplits q_storiesThen q_heatThen q_place q_isWrong q_toldLetter q_toldHeat q_toldStory q_toldWords q_toldStories) := by
  refine M_v (cc := cX4_reactOne) (maxL := 5) (own := RX4) (by decide) rfl rfl (Nat.le_of_ble_eq_true rfl) ?_
  intro p e s m args below meth c A Q F hK hA H locs hG hret ls hl
  have hx := F.1
  have hb := F.2.1
  have hl : lv_has ls 5 [(0, .ref (a 0)), (1, .int p1)] := hl
  have k0 := F.2.2.2.2 (.fieldLink RX4 7 "HeatedStoriesModel" "s" "[I") (List.mem_of_getElem? (i := 1) rfl)
  have k1 : ∀ w ∈ wsX40, w ∈ wsX4_reactOne := (fun w h => List.mem_cons_of_mem _ (List.mem_append_right _ (h)))
  unfold f_X4_reactOne at hf
  refine lv_aload_n hx hb dX4_reactOne_0 rfl (lv_at hl 0 rfl) ?_
  refine lv_iload_n hx hb dX4_reactOne_1 rfl (lv_at hl 1 rfl) ?_
  obtain ⟨r1, h2, hf⟩ := bd1_e hf
  refine k_Wi F hK hA hG (c_X4_storyOf l D y a H.size Fu q_s q_aside q_before q_known q_slots q_isSaved q_pad q_length q_letters q_heats q_reactions q_newSplits q_storiesThen q_heatThen q_place q_isWrong q_toldLetter q_toldHeat q_toldStory q_toldWords q_toldStories p1 r1 h2) (cwV 1 F.2.2.2.2 gX4_reactOne_X4_storyOf rfl rfl rfl (by decide +kernel) ⟨Nat.le_of_ble_eq_true rfl, Nat.le_of_ble_eq_true rfl⟩) 0 rfl rfl rfl rfl rfl hl.1 (Nat.le_of_ble_eq_true rfl) dX4_reactOne_2 ⟨Nat.le_refl 0, Nat.le_refl 0⟩ (fun H locs hG => ?_)
  refine lv_istore_n (lv' := [(2, .int r1), (0, .ref (a 0)), (1, .int p1)]) hx hb dX4_reactOne_5 rfl hl (by decide) rfl (fun ls hl => ?_)
  refine lv_iload_n hx hb dX4_reactOne_6 rfl (lv_at hl 2 rfl) ?_
  refine lv_aload_n hx hb dX4_reactOne_7 rfl (lv_at hl 1 rfl) ?_
  refine lv_iload_n hx hb dX4_reactOne_8 rfl (lv_at hl 0 rfl) ?_
  obtain ⟨r3, h4, hf⟩ := bd1_e hf
  refine k_Wi F hK hA hG (c_X4_first l D y a H.size Fu q_s q_aside q_before q_known q_slots q_isSaved q_pad q_length q_letters q_heats q_reactions q_newSplits q_storiesThen q_heatThen q_place q_isWrong q_toldLetter q_toldHeat q_toldStory q_toldWords q_toldStories r1 r3 h4) (cwV 1 F.2.2.2.2 gX4_reactOne_X4_first rfl rfl rfl (by decide +kernel) ⟨Nat.le_of_ble_eq_true rfl, Nat.le_of_ble_eq_true rfl⟩) 0 rfl rfl rfl rfl rfl hl.1 (Nat.le_of_ble_eq_true rfl) dX4_reactOne_9 ⟨Nat.le_refl 0, Nat.le_refl 0⟩ (fun H locs hG => ?_)
  refine lv_isub hx hb dX4_reactOne_12 ?_
  refine lv_istore_n (lv' := [(3, .int (p1 - r3)), (2, .int r1), (0, .ref (a 0)), (1, .int p1)]) hx hb dX4_reactOne_13 rfl hl (by decide) rfl (fun ls hl => ?_)
  refine lv_iload_n hx hb dX4_reactOne_14 rfl (lv_at hl 0 rfl) ?_
  refine lv_aload_n hx hb dX4_reactOne_15 rfl (lv_at hl 2 rfl) ?_
  refine w_get4 F hK hG k1 0 rfl 0 (by decide) k0 rfl dX4_reactOne_16 ?_
  refine lv_bipush (v := nI 9) hx hb dX4_reactOne_19 rfl ?_
  refine lv_iload_n hx hb dX4_reactOne_21 rfl (lv_at hl 1 rfl) ?_
  refine lv_iadd hx hb dX4_reactOne_22 ?_
  obtain ⟨g5, hf⟩ := gd_e hf
  refine w_iald F hK hG 1 rfl g5 dX4_reactOne_23 ?_
  refine lv_iconst (v := nI 1) hx hb dX4_reactOne_24 rfl ?_
  refine lv_isub hx hb dX4_reactOne_25 ?_
  obtain ⟨v7, ev7, hf⟩ := nm_o hf
  have hJ : ∀ (ls : Array Slot), lv_has ls 5 [(0, .ref (a 0)), (1, .int p1), (2, .int r1), (3, .int (p1 - r3))] → W p l e (RM 1 23) s m args below meth c H locs 0 0 Q (F0 m 34 ls [.int v7]) := by
    intro ls hl
    refine lv_istore (lv' := [(4, .int v7), (0, .ref (a 0)), (1, .int p1), (2, .int r1), (3, .int (p1 - r3))]) hx hb dX4_reactOne_34 hl (by decide) rfl (fun ls hl => ?_)
    refine lv_aload_n hx hb dX4_reactOne_36 rfl (lv_at hl 1 rfl) ?_
    refine w_get4 F hK hG k1 0 rfl 0 (by decide) k0 rfl dX4_reactOne_37 ?_
    refine lv_sipush (v := nI 195) hx hb dX4_reactOne_40 rfl ?_
    refine lv_iload_n hx hb dX4_reactOne_43 rfl (lv_at hl 2 rfl) ?_
    refine lv_iadd hx hb dX4_reactOne_44 ?_
    refine lv_iconst (v := nI 0) hx hb dX4_reactOne_45 rfl ?_
    obtain ⟨g8, hf⟩ := gd_e hf
    refine w_iast F hK hG 1 rfl g8 (w_X4 y a (upd q_s ((nI 195) + p1).toNatClampNeg (nI 0)) q_aside q_before q_known q_slots q_isSaved q_pad q_length q_letters q_heats q_reactions q_newSplits q_storiesThen q_heatThen q_place q_isWrong q_toldLetter q_toldHeat q_toldStory q_toldWords q_toldStories) rfl dX4_reactOne_46 (fun H locs hG => ?_)
    refine lv_iload_n hx hb dX4_reactOne_47 rfl (lv_at hl 4 rfl) ?_
    obtain ⟨j17, ej17, hf⟩ := jn_e hf
    have hj17 : ∀ (q_s_16 : Ar) (H : Heap) (locs : List Loc) (ls : Array Slot), j17 q_s_16 = some (q_s_o) → GG D A s.heap (w_X4 y a q_s_16 q_aside q_before q_known q_slots q_isSaved q_pad q_length q_letters q_heats q_reactions q_newSplits q_storiesThen q_heatThen q_place q_isWrong q_toldLetter q_toldHeat q_toldStory q_toldWords q_toldStories) H locs → lv_has ls 5 [(0, .ref (a 0)), (1, .int p1), (3, .int (p1 - r3)), (4, .int v7)] → W p l e (RM 1 23) s m args below meth c H locs 0 0 Q (F0 m 107 ls []) := by
      intro q_s_16 H locs ls hf hG hl
      rw [ej17] at hf
      refine lv_iload_n hx hb dX4_reactOne_107 rfl (lv_at hl 2 rfl) ?_
      obtain ⟨j22, ej22, hf⟩ := jn_e hf
      have hj22 : ∀ (q_s_21 : Ar) (H : Heap) (locs : List Loc) (ls : Array Slot), j22 q_s_21 = some (q_s_o) → GG D A s.heap (w_X4 y a q_s_21 q_aside q_before q_known q_slots q_isSaved q_pad q_length q_letters q_heats q_reactions q_newSplits q_storiesThen q_heatThen q_place q_isWrong q_toldLetter q_toldHeat q_toldStory q_toldWords q_toldStories) H locs → lv_has ls 5 [(0, .ref (a 0)), (1, .int p1), (4, .int v7)] → W p l e (RM 1 23) s m args below meth c H locs 0 0 Q (F0 m 124 ls []) := by
        intro q_s_21 H locs ls hf hG hl
        rw [ej22] at hf
        refine lv_iload hx hb dX4_reactOne_124 (lv_at hl 2 rfl) ?_
        obtain ⟨j27, ej27, hf⟩ := jn_e hf
        have hj27 : ∀ (q_s_26 : Ar) (H : Heap) (locs : List Loc) (ls : Array Slot), j27 q_s_26 = some (q_s_o) → GG D A s.heap (w_X4 y a q_s_26 q_aside q_before q_known q_slots q_isSaved q_pad q_length q_letters q_heats q_reactions q_newSplits q_storiesThen q_heatThen q_place q_isWrong q_toldLetter q_toldHeat q_toldStory q_toldWords q_toldStories) H locs → lv_has ls 5 [] → W p l e (RM 1 23) s m args below meth c H locs 0 0 Q (F0 m 142 ls []) := by
          intro q_s_26 H locs ls hf hG hl
          rw [ej27] at hf
          have hf := so_e hf
          have e0 : q_s_26 = q_s_o := hf
          exact hret _ _ _ _ (by rw [← e0]; exact hG) dX4_reactOne_142
        refine lv_if_ne (tgt := 142) hx hb dX4_reactOne_126 (by decide) (fun c23 => ?_) (fun c23 => ?_)
        · have hf := if_e c23 hf
          exact hj27 q_s_21 _ _ ls hf hG (lv_sub hl [] rfl)
        · have hf := it_e c23 hf
          refine lv_aload_n hx hb dX4_reactOne_129 rfl (lv_at hl 0 rfl) ?_
          refine lv_iload_n hx hb dX4_reactOne_130 rfl (lv_at hl 1 rfl) ?_
          refine lv_iconst (v := nI 1) hx hb dX4_reactOne_131 rfl ?_
          refine lv_iadd hx hb dX4_reactOne_132 ?_
          refine lv_aload_n hx hb dX4_reactOne_133 rfl (lv_at hl 0 rfl) ?_
          refine w_get4 F hK hG k1 0 rfl 0 (by decide) k0 rfl dX4_reactOne_134 ?_
          refine lv_iconst (v := nI 1) hx hb dX4_reactOne_137 rfl ?_
          refine w_ialdk F hK hG 1 rfl (Nat.le_of_ble_eq_true rfl) (Nat.le_of_ble_eq_true rfl) dX4_reactOne_138 ?_
          obtain ⟨q_s_24, h25, hf⟩ := bd1_e hf
          refine k_Wv F hK hA hG (c_X4_warm l D y a H.size Fu q_s_21 q_aside q_before q_known q_slots q_isSaved q_pad q_length q_letters q_heats q_reactions q_newSplits q_storiesThen q_heatThen q_place q_isWrong q_toldLetter q_toldHeat q_toldStory q_toldWords q_toldStories (p1 + (nI 1)) (q_s_21 1) q_s_24 h25) (cwV 2 F.2.2.2.2 gX4_reactOne_X4_warm rfl rfl rfl (by decide +kernel) ⟨Nat.le_of_ble_eq_true rfl, Nat.le_of_ble_eq_true rfl⟩) 0 rfl rfl rfl rfl rfl hl.1 (Nat.le_of_ble_eq_true rfl) dX4_reactOne_139 ⟨Nat.le_refl 0, Nat.le_refl 0⟩ (fun H locs hG => ?_)
          exact hj27 q_s_24 _ _ ls hf hG (lv_sub hl [] rfl)
      refine lv_if_le (tgt := 124) hx hb dX4_reactOne_108 (by decide) (fun c18 => ?_) (fun c18 => ?_)
      · have hf := it_e c18 hf
        exact hj22 q_s_16 _ _ ls hf hG (lv_sub hl [0, 1, 3] rfl)
      · have hf := if_e c18 hf
        refine lv_aload_n hx hb dX4_reactOne_111 rfl (lv_at hl 0 rfl) ?_
        refine lv_iload_n hx hb dX4_reactOne_112 rfl (lv_at hl 1 rfl) ?_
        refine lv_iconst (v := nI 1) hx hb dX4_reactOne_113 rfl ?_
        refine lv_isub hx hb dX4_reactOne_114 ?_
        refine lv_aload_n hx hb dX4_reactOne_115 rfl (lv_at hl 0 rfl) ?_
        refine w_get4 F hK hG k1 0 rfl 0 (by decide) k0 rfl dX4_reactOne_116 ?_
        refine lv_iconst (v := nI 1) hx hb dX4_reactOne_119 rfl ?_
        refine w_ialdk F hK hG 1 rfl (Nat.le_of_ble_eq_true rfl) (Nat.le_of_ble_eq_true rfl) dX4_reactOne_120 ?_
        obtain ⟨q_s_19, h20, hf⟩ := bd1_e hf
        refine k_Wv F hK hA hG (c_X4_warm l D y a H.size Fu q_s_16 q_aside q_before q_known q_slots q_isSaved q_pad q_length q_letters q_heats q_reactions q_newSplits q_storiesThen q_heatThen q_place q_isWrong q_toldLetter q_toldHeat q_toldStory q_toldWords q_toldStories (p1 - (nI 1)) (q_s_16 1) q_s_19 h20) (cwV 2 F.2.2.2.2 gX4_reactOne_X4_warm rfl rfl rfl (by decide +kernel) ⟨Nat.le_of_ble_eq_true rfl, Nat.le_of_ble_eq_true rfl⟩) 0 rfl rfl rfl rfl rfl hl.1 (Nat.le_of_ble_eq_true rfl) dX4_reactOne_121 ⟨Nat.le_refl 0, Nat.le_refl 0⟩ (fun H locs hG => ?_)
        exact hj22 q_s_19 _ _ ls hf hG (lv_sub hl [0, 1, 3] rfl)
    refine lv_if_ne (tgt := 65) hx hb dX4_reactOne_48 (by decide) (fun c9 => ?_) (fun c9 => ?_)
    · have hf := if_e c9 hf
      refine lv_aload_n hx hb dX4_reactOne_65 rfl (lv_at hl 1 rfl) ?_
      refine w_get4 F hK hG k1 0 rfl 0 (by decide) k0 rfl dX4_reactOne_66 ?_
      refine lv_iconst (v := nI 3) hx hb dX4_reactOne_69 rfl ?_
      refine w_ialdk F hK hG 1 rfl (Nat.le_of_ble_eq_true rfl) (Nat.le_of_ble_eq_true rfl) dX4_reactOne_70 ?_
      refine lv_bipush (v := nI 12) hx hb dX4_reactOne_71 rfl ?_
      refine lv_icmp_ge (tgt := 96) hx hb dX4_reactOne_73 (by decide) (fun c10 => ?_) (fun c10 => ?_)
      · have hf := it_e c10 hf
        refine lv_aload_n hx hb dX4_reactOne_96 rfl (lv_at hl 1 rfl) ?_
        refine w_get4 F hK hG k1 0 rfl 0 (by decide) k0 rfl dX4_reactOne_97 ?_
        refine lv_bipush (v := nI 8) hx hb dX4_reactOne_100 rfl ?_
        refine lv_dup2_11 hx hb dX4_reactOne_102 rfl rfl ?_
        refine w_ialdk F hK hG 1 rfl (Nat.le_of_ble_eq_true rfl) (Nat.le_of_ble_eq_true rfl) dX4_reactOne_103 ?_
        refine lv_iconst (v := nI 1) hx hb dX4_reactOne_104 rfl ?_
        refine lv_iadd hx hb dX4_reactOne_105 ?_
        refine w_iastk F hK hG 1 rfl (Nat.le_of_ble_eq_true rfl) (Nat.le_of_ble_eq_true rfl) (w_X4 y a (upd (upd q_s ((nI 195) + p1).toNatClampNeg (nI 0)) 8 (((upd q_s ((nI 195) + p1).toNatClampNeg (nI 0)) 8) + (nI 1))) q_aside q_before q_known q_slots q_isSaved q_pad q_length q_letters q_heats q_reactions q_newSplits q_storiesThen q_heatThen q_place q_isWrong q_toldLetter q_toldHeat q_toldStory q_toldWords q_toldStories) rfl dX4_reactOne_106 (fun H locs hG => ?_)
        obtain ⟨q_s_11, eq_s_11, hf⟩ := nm_o hf
        rw [← eq_s_11] at hG
        exact hj17 q_s_11 _ _ ls hf hG (lv_sub hl [1, 2, 4, 0] rfl)
      · have hf := if_e c10 hf
        refine lv_aload_n hx hb dX4_reactOne_76 rfl (lv_at hl 1 rfl) ?_
        refine w_get4 F hK hG k1 0 rfl 0 (by decide) k0 rfl dX4_reactOne_77 ?_
        refine lv_bipush (v := nI 6) hx hb dX4_reactOne_80 rfl ?_
        refine lv_dup2_11 hx hb dX4_reactOne_82 rfl rfl ?_
        refine w_ialdk F hK hG 1 rfl (Nat.le_of_ble_eq_true rfl) (Nat.le_of_ble_eq_true rfl) dX4_reactOne_83 ?_
        refine lv_iconst (v := nI 1) hx hb dX4_reactOne_84 rfl ?_
        refine lv_iadd hx hb dX4_reactOne_85 ?_
        refine w_iastk F hK hG 1 rfl (Nat.le_of_ble_eq_true rfl) (Nat.le_of_ble_eq_true rfl) (w_X4 y a (upd (upd q_s ((nI 195) + p1).toNatClampNeg (nI 0)) 6 (((upd q_s ((nI 195) + p1).toNatClampNeg (nI 0)) 6) + (nI 1))) q_aside q_before q_known q_slots q_isSaved q_pad q_length q_letters q_heats q_reactions q_newSplits q_storiesThen q_heatThen q_place q_isWrong q_toldLetter q_toldHeat q_toldStory q_toldWords q_toldStories) rfl dX4_reactOne_86 (fun H locs hG => ?_)
        obtain ⟨q_s_12, eq_s_12, hf⟩ := nm_o hf
        rw [← eq_s_12] at hG
        refine lv_aload_n hx hb dX4_reactOne_87 rfl (lv_at hl 1 rfl) ?_
        refine lv_iload_n hx hb dX4_reactOne_88 rfl (lv_at hl 3 rfl) ?_
        refine lv_iload_n hx hb dX4_reactOne_89 rfl (lv_at hl 4 rfl) ?_
        obtain ⟨q_s_13, h14, hf⟩ := bd1_e hf
        refine k_Wv F hK hA hG (c_X4_split l D y a H.size Fu q_s_12 q_aside q_before q_known q_slots q_isSaved q_pad q_length q_letters q_heats q_reactions q_newSplits q_storiesThen q_heatThen q_place q_isWrong q_toldLetter q_toldHeat q_toldStory q_toldWords q_toldStories r1 (p1 - r3) q_s_13 h14) (cwV 2 F.2.2.2.2 gX4_reactOne_X4_split rfl rfl rfl (by decide +kernel) ⟨Nat.le_of_ble_eq_true rfl, Nat.le_of_ble_eq_true rfl⟩) 0 rfl rfl rfl rfl rfl hl.1 (Nat.le_of_ble_eq_true rfl) dX4_reactOne_90 ⟨Nat.le_refl 0, Nat.le_refl 0⟩ (fun H locs hG => ?_)
        refine lv_goto (tgt := 107) hx hb dX4_reactOne_93 (by decide) ?_
        exact hj17 q_s_13 _ _ ls hf hG (lv_sub hl [1, 2, 4, 0] rfl)
    · have hf := it_e c9 hf
      refine lv_aload_n hx hb dX4_reactOne_51 rfl (lv_at hl 1 rfl) ?_
      refine w_get4 F hK hG k1 0 rfl 0 (by decide) k0 rfl dX4_reactOne_52 ?_
      refine lv_bipush (v := nI 7) hx hb dX4_reactOne_55 rfl ?_
      refine lv_dup2_11 hx hb dX4_reactOne_57 rfl rfl ?_
      refine w_ialdk F hK hG 1 rfl (Nat.le_of_ble_eq_true rfl) (Nat.le_of_ble_eq_true rfl) dX4_reactOne_58 ?_
      refine lv_iconst (v := nI 1) hx hb dX4_reactOne_59 rfl ?_
      refine lv_iadd hx hb dX4_reactOne_60 ?_
      refine w_iastk F hK hG 1 rfl (Nat.le_of_ble_eq_true rfl) (Nat.le_of_ble_eq_true rfl) (w_X4 y a (upd (upd q_s ((nI 195) + p1).toNatClampNeg (nI 0)) 7 (((upd q_s ((nI 195) + p1).toNatClampNeg (nI 0)) 7) + (nI 1))) q_aside q_before q_known q_slots q_isSaved q_pad q_length q_letters q_heats q_reactions q_newSplits q_storiesThen q_heatThen q_place q_isWrong q_toldLetter q_toldHeat q_toldStory q_toldWords q_toldStories) rfl dX4_reactOne_61 (fun H locs hG => ?_)
      obtain ⟨q_s_15, eq_s_15, hf⟩ := nm_o hf
      rw [← eq_s_15] at hG
      refine lv_goto (tgt := 107) hx hb dX4_reactOne_62 (by decide) ?_
      exact hj17 q_s_15 _ _ ls hf hG (lv_sub hl [1, 2, 4, 0] rfl)
  refine lv_icmp_ne (tgt := 33) hx hb dX4_reactOne_26 (by decide) (fun c6 => ?_) (fun c6 => ?_)
  · refine lv_iconst (v := nI 0) hx hb dX4_reactOne_33 rfl ?_
    have qv7 := (ev7.trans (if_neg c6))
    subst qv7
    exact hJ ls (lv_sub hl [2, 3, 1, 0] rfl)
  · refine lv_iconst (v := nI 1) hx hb dX4_reactOne_29 rfl ?_
    refine lv_goto (tgt := 34) hx hb dX4_reactOne_30 (by decide) ?_
    have qv7 := (ev7.trans (if_pos c6))
    subst qv7
    exact hJ ls (lv_sub hl [2, 3, 1, 0] rfl)
def f_X4_react_L4 (Fu : Nat) (k_4 : Int32 → Ar → Option (Int32 × Ar)) : Nat → Int32 → Int32 → Ar → Option (Int32 × Ar)
  | 0, _, _, _ => none
  | fu + 1, x1, x2, q_s_3 =>
    if (q_s_3 4) ≤ x2 then
      k_4 x1 q_s_3
    else
      gd (ix ((nI 195) + x2) 345) (
      if (q_s_3 ((nI 195) + x2).toNatClampNeg) < (q_s_3 0) then
        f_X4_react_L4 Fu k_4 fu x1 (x2 + (nI 1)) q_s_3
      else
        bd1 (f_X4_reactOne Fu q_s_3 x2) (fun q_s_7 =>
        f_X4_react_L4 Fu k_4 fu (x1 + (nI 1)) (nI 0) q_s_7))
theorem f_X4_react_L4_s (Fu : Nat) (k_4 : Int32 → Ar → Option (Int32 × Ar)) (fu : Nat) (x1 : Int32) (x2 : Int32) (q_s_3 : Ar) : f_X4_react_L4 Fu k_4 (fu + 1) x1 x2 q_s_3 =
    if (q_s_3 4) ≤ x2 then
      k_4 x1 q_s_3
    else
      gd (ix ((nI 195) + x2) 345) (
      if (q_s_3 ((nI 195) + x2).toNatClampNeg) < (q_s_3 0) then
        f_X4_react_L4 Fu k_4 fu x1 (x2 + (nI 1)) q_s_3
      else
        bd1 (f_X4_reactOne Fu q_s_3 x2) (fun q_s_7 =>
        f_X4_react_L4 Fu k_4 fu (x1 + (nI 1)) (nI 0) q_s_7)) := rfl
def f_X4_react (Fu : Nat) (q_s : Ar) : Option (Int32 × Ar) :=
  jn (fun (v9 : Int32) (q_s_10 : Ar) =>
    some (v9, q_s_10))
    (fun k_4 => f_X4_react_L4 Fu k_4 Fu (nI 0) (nI 0) q_s)
set_option maxHeartbeats 4000000 in
set_option maxRecDepth 100000 in
theorem c_X4_react (l : Launch) (D : va_G) (y : Nat → ClassId) (a : Nat → Nat) (sz : Nat) (Fu : Nat) (q_s : Ar) (q_aside : Ar) (q_before : Ar) (q_known : Int32) (q_slots : Ar) (q_isSaved : Ar) (q_pad : Ar) (q_length : Int32) (q_letters : Ar) (q_heats : Ar) (q_reactions : Int32) (q_newSplits : Int32) (q_storiesThen : Int32) (q_heatThen : Int32) (q_place : Int32) (q_isWrong : Int32) (q_toldLetter : Ar) (q_toldHeat : Ar) (q_toldStory : Ar) (q_toldWords : Int32) (q_toldStories : Int32) (ro : Int32) (q_s_o : Ar) (hf : f_X4_react Fu q_s = some (ro, q_s_o)) : MI l yX4_react wsX4_react 2 47 [.ref (a 0)] D y (w_X4 y a q_s q_aside q_before q_known q_slots q_isSaved q_pad q_length q_letters q_heats q_reactions q_newSplits q_storiesThen q_heatThen q_place q_isWrong q_toldLetter q_toldHeat q_toldStory q_toldWords q_toldStories) sz ro (w_X4 y a q_s_o q_aside q_before q_known q_slots q_isSaved q_pad q_length q_letters q_heats q_reactions q_newSplits q_storiesThen q_heatThen q_place q_isWrong q_toldLetter q_toldHeat q_toldStory q_toldWords q_toldStories) := by
  refine M_i (cc := cX4_react) (maxL := 3) (own := RX4) (by decide) rfl rfl (Nat.le_of_ble_eq_true rfl) ?_
  intro p e s m args below meth c A Q F hK hA H locs hG hret ls hl
  have hx := F.1
  have hb := F.2.1
  have hl : lv_has ls 3 [(0, .ref (a 0))] := hl
  have k0 := F.2.2.2.2 (.fieldLink RX4 7 "HeatedStoriesModel" "s" "[I") (List.mem_of_getElem? (i := 1) rfl)
  have k1 : ∀ w ∈ wsX40, w ∈ wsX4_react := (fun w h => List.mem_cons_of_mem _ (List.mem_append_right _ (h)))
  unfold f_X4_react at hf
  refine lv_iconst (v := nI 0) hx hb dX4_react_0 rfl ?_
  refine lv_istore_n (lv' := [(1, .int (nI 0)), (0, .ref (a 0))]) hx hb dX4_react_1 rfl hl (by decide) rfl (fun ls hl => ?_)
  refine lv_iconst (v := nI 0) hx hb dX4_react_2 rfl ?_
  refine lv_istore_n (lv' := [(2, .int (nI 0)), (1, .int (nI 0)), (0, .ref (a 0))]) hx hb dX4_react_3 rfl hl (by decide) rfl (fun ls hl => ?_)
  obtain ⟨k_4, ek_4, hf⟩ := jn_e hf
  have hk_4 : ∀ (v9 : Int32) (q_s_10 : Ar) (H : Heap) (locs : List Loc) (ls : Array Slot), k_4 v9 q_s_10 = some (ro, q_s_o) → GG D A s.heap (w_X4 y a q_s_10 q_aside q_before q_known q_slots q_isSaved q_pad q_length q_letters q_heats q_reactions q_newSplits q_storiesThen q_heatThen q_place q_isWrong q_toldLetter q_toldHeat q_toldStory q_toldWords q_toldStories) H locs → lv_has ls 3 [(1, .int v9)] → W p l e (RM 2 47) s m args below meth c H locs 0 0 Q (F0 m 52 ls []) := by
    intro v9 q_s_10 H locs ls hf hG hl
    rw [ek_4] at hf
    refine lv_iload_n hx hb dX4_react_52 rfl (lv_at hl 0 rfl) ?_
    have hf := so_e hf
    have e0 : v9 = ro := congrArg (fun z => z.1) hf
    have e1 : q_s_10 = q_s_o := congrArg (fun z => z.2) hf
    exact hret _ _ _ _ _ e0 (by rw [← e1]; exact hG) dX4_react_53
  have hL4 : ∀ (fu : Nat) (x1 : Int32) (x2 : Int32) (q_s_3 : Ar) (H : Heap) (locs : List Loc) (ls : Array Slot), f_X4_react_L4 Fu k_4 fu x1 x2 q_s_3 = some (ro, q_s_o) → GG D A s.heap (w_X4 y a q_s_3 q_aside q_before q_known q_slots q_isSaved q_pad q_length q_letters q_heats q_reactions q_newSplits q_storiesThen q_heatThen q_place q_isWrong q_toldLetter q_toldHeat q_toldStory q_toldWords q_toldStories) H locs → lv_has ls 3 [(0, .ref (a 0)), (1, .int x1), (2, .int x2)] → W p l e (RM 2 47) s m args below meth c H locs 0 0 Q (F0 m 4 ls []) := by
    intro fu
    induction fu with
    | zero => intro x1 x2 q_s_3 H locs ls hf hG hl; exact no_e hf
    | succ fu ih =>
      intro x1 x2 q_s_3 H locs ls hf hG hl
      rw [f_X4_react_L4_s] at hf
      refine lv_iload_n hx hb dX4_react_4 rfl (lv_at hl 2 rfl) ?_
      refine lv_aload_n hx hb dX4_react_5 rfl (lv_at hl 0 rfl) ?_
      refine w_get4 F hK hG k1 0 rfl 0 (by decide) k0 rfl dX4_react_6 ?_
      refine lv_iconst (v := nI 4) hx hb dX4_react_9 rfl ?_
      refine w_ialdk F hK hG 1 rfl (Nat.le_of_ble_eq_true rfl) (Nat.le_of_ble_eq_true rfl) dX4_react_10 ?_
      refine lv_icmp_ge (tgt := 52) hx hb dX4_react_11 (by decide) (fun c4 => ?_) (fun c4 => ?_)
      · have hf := it_e c4 hf
        exact hk_4 x1 q_s_3 _ _ ls hf hG (lv_sub hl [1] rfl)
      · have hf := if_e c4 hf
        refine lv_aload_n hx hb dX4_react_14 rfl (lv_at hl 0 rfl) ?_
        refine w_get4 F hK hG k1 0 rfl 0 (by decide) k0 rfl dX4_react_15 ?_
        refine lv_sipush (v := nI 195) hx hb dX4_react_18 rfl ?_
        refine lv_iload_n hx hb dX4_react_21 rfl (lv_at hl 2 rfl) ?_
        refine lv_iadd hx hb dX4_react_22 ?_
        obtain ⟨g5, hf⟩ := gd_e hf
        refine w_iald F hK hG 1 rfl g5 dX4_react_23 ?_
        refine lv_aload_n hx hb dX4_react_24 rfl (lv_at hl 0 rfl) ?_
        refine w_get4 F hK hG k1 0 rfl 0 (by decide) k0 rfl dX4_react_25 ?_
        refine lv_iconst (v := nI 0) hx hb dX4_react_28 rfl ?_
        refine w_ialdk F hK hG 1 rfl (Nat.le_of_ble_eq_true rfl) (Nat.le_of_ble_eq_true rfl) dX4_react_29 ?_
        refine lv_icmp_lt (tgt := 46) hx hb dX4_react_30 (by decide) (fun c6 => ?_) (fun c6 => ?_)
        · have hf := it_e c6 hf
          refine lv_iinc (v := x2 + (nI 1)) (lv' := [(2, .int (x2 + (nI 1))), (0, .ref (a 0)), (1, .int x1)]) hx hb dX4_react_46 hl (k := 2) rfl rfl (by decide) rfl (fun ls hl => ?_)
          refine lv_goto (tgt := 4) hx hb dX4_react_49 (by decide) ?_
          exact ih x1 (x2 + (nI 1)) q_s_3 _ _ ls hf hG (lv_sub hl [1, 2, 0] rfl)
        · have hf := if_e c6 hf
          refine lv_aload_n hx hb dX4_react_33 rfl (lv_at hl 0 rfl) ?_
          refine lv_iload_n hx hb dX4_react_34 rfl (lv_at hl 2 rfl) ?_
          obtain ⟨q_s_7, h8, hf⟩ := bd1_e hf
          refine k_Wv F hK hA hG (c_X4_reactOne l D y a H.size Fu q_s_3 q_aside q_before q_known q_slots q_isSaved q_pad q_length q_letters q_heats q_reactions q_newSplits q_storiesThen q_heatThen q_place q_isWrong q_toldLetter q_toldHeat q_toldStory q_toldWords q_toldStories x2 q_s_7 h8) (cwV 1 F.2.2.2.2 gX4_react_X4_reactOne rfl rfl rfl (by decide +kernel) ⟨Nat.le_of_ble_eq_true rfl, Nat.le_of_ble_eq_true rfl⟩) 0 rfl rfl rfl rfl rfl hl.1 (Nat.le_of_ble_eq_true rfl) dX4_react_35 ⟨Nat.le_refl 0, Nat.le_refl 0⟩ (fun H locs hG => ?_)
          refine lv_iinc (v := x1 + (nI 1)) (lv' := [(1, .int (x1 + (nI 1))), (0, .ref (a 0)), (2, .int x2)]) hx hb dX4_react_38 hl (k := 1) rfl rfl (by decide) rfl (fun ls hl => ?_)
          refine lv_iconst (v := nI 0) hx hb dX4_react_41 rfl ?_
          refine lv_istore_n (lv' := [(2, .int (nI 0)), (1, .int (x1 + (nI 1))), (0, .ref (a 0))]) hx hb dX4_react_42 rfl hl (by decide) rfl (fun ls hl => ?_)
          refine lv_goto (tgt := 4) hx hb dX4_react_43 (by decide) ?_
          exact ih (x1 + (nI 1)) (nI 0) q_s_7 _ _ ls hf hG (lv_sub hl [2, 1, 0] rfl)
  exact hL4 Fu (nI 0) (nI 0) q_s _ _ ls hf hG (lv_sub hl [2, 1, 0] rfl)
