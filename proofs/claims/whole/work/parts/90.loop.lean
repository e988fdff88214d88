/-! THE LAW: its loop, and its start -/
theorem REL_init : REL 0 zA zA 0 se0 zA zA zA zA zA 0 0 0 0 0 (fun _ => sv0) 0 0 (fun _ => sv0) se0 zA 0 zA zA zA 0 := by
  have z : (0 : Int32) = nI 0 := nI_0.symm
  have s0 : ∀ i, i < 3 → se0 i = nI (if i = 0 then 20 else if i = 1 then 3 else 2) := fun i hi => by
    rcases (show i = 0 ∨ i = 1 ∨ i = 2 by omega) with rfl | rfl | rfl <;> rfl
  have s1 : ∀ i, 3 ≤ i → se0 i = 0 := fun i hi => by
    unfold se0
    rw [upd_ne (by omega), upd_ne (by omega), upd_ne (by omega)]
  refine ⟨Sh.mk (fun i => if i = 0 then 20 else if i = 1 then 3 else 2) 0 (fun _ => 0) (fun _ => 0) (fun _ => 0) zA zA 0 0 0 0, fun _ => Sh.mk (fun _ => 0) 0 (fun _ => 0) (fun _ => 0) (fun _ => 0) zA zA 0 0 0 0, 0, 0, fun _ => Sh.mk (fun _ => 0) 0 (fun _ => 0) (fun _ => 0) (fun _ => 0) zA zA 0 0 0 0, 0, ⟨⟨Nat.zero_le _, rfl, fun k hk => absurd hk (Nat.not_lt_zero _), Nat.zero_le _⟩, ⟨?_, ?_, ?_, ?_⟩, fun p hp => absurd hp (Nat.not_lt_zero _)⟩, Nat.le_refl _, ⟨s0, fun p hp => absurd hp (Nat.not_lt_zero _), fun p hp => absurd hp (Nat.not_lt_zero _), fun k hk => z, fun k hk => absurd hk (Nat.not_lt_zero _), fun k hk => absurd hk (Nat.not_lt_zero _), z, rfl, z, rfl, rfl⟩, ⟨s0, (s1 3 (by omega)).trans z, (s1 4 (by omega)).trans z, s1 5 (by omega), (s1 6 (by omega)).trans z, s1 7 (by omega), s1 8 (by omega), fun k hk => absurd hk (Nat.not_lt_zero _), fun k hk => absurd hk (Nat.not_lt_zero _), fun k hk => absurd hk (Nat.not_lt_zero _), fun k hk => absurd hk (Nat.not_lt_zero _), fun k hk => absurd hk (Nat.not_lt_zero _)⟩, ⟨by omega, by omega, fun j hj => absurd hj (Nat.not_lt_zero _)⟩, z, z, z, fun j hj => Or.inl ⟨z, z⟩, PR.wipe _ _, z, z⟩
  · show 10 ≤ (if (0 : Nat) = 0 then 20 else if (0 : Nat) = 1 then 3 else 2)
    decide
  · show (if (0 : Nat) = 0 then 20 else if (0 : Nat) = 1 then 3 else 2) ≤ 99
    decide
  · show (if (1 : Nat) = 0 then 20 else if (1 : Nat) = 1 then 3 else 2) ≤ 4
    decide
  · show (if (2 : Nat) = 0 then 20 else if (2 : Nat) = 1 then 3 else 2) ≤ 20
    decide
theorem len_sub {L : Nat} (h : L ≤ 2560) : (Int32.ofNat L - nI 5).toInt = (L : Int) - 5 := by
  have e1 : (Int32.ofNat L).toInt = L := nI_toInt (by omega)
  have e2 : (nI 5).toInt = 5 := nI_toInt (by omega)
  rw [Int32.toInt_sub, e1, e2]
  apply Int.bmod_eq_of_le <;> omega
set_option maxHeartbeats 4000000 in
set_option maxRecDepth 100000 in
theorem law_loop {p : Program} {l : Launch} {e : Env} {s : State} {m : MethodId} {below : List Frame} {meth : Method} {c : Code} {Q : State → Prop} {D : va_G} {y : Nat → ClassId} {b L : Nat} {xs : Nat → Int32} {cells slots : Nat} (hc : cells ≤ room_1.cells ∧ slots ≤ room_1.slots) (C0 : LC p s m c b L xs D y) {Fu : Nat} (hF : 100000000 ≤ Fu) {u : UX3} {v : Nat → Nat}
    (out : ∀ (H : Heap) (locs : List Loc) (ls : Array Slot), va_S (lA s) s.heap H locs → W p l e room_1 s m #[Value.ref b] below meth c H locs cells slots Q (F0 m 835 ls [])) :
    ∀ (n i M : Nat) (H : Heap) (locs : List Loc) (ls : Array Slot), L < i + 5 * n → i ≤ L → M + 12 * n ≤ 900000 → lv_has ls 4 [(0, .ref b), (1, .ref (u.1 0)), (2, .ref (v 0)), (3, .int (nI i))] → LInv D y s u v M H locs → W p l e room_1 s m #[Value.ref b] below meth c H locs cells slots Q (F0 m 18 ls []) := by
  obtain ⟨F, hK, hZ, hX, hbl, hL⟩ := id C0
  have hx := F.1
  have hb := F.2.1
  have hbA : ¬ lA s b := Nat.not_le.mpr hbl
  intro n
  induction n with
  | zero => intro i M H locs ls h1 h2; omega
  | succ n ih =>
    intro i M H locs ls h1 h2 h3 hl inv
    refine lv_iload_n hx hb dL_law_18 rfl (lv_at hl 3 rfl) ?_
    refine lv_aload_n hx hb dL_law_19 rfl (lv_at hl 0 rfl) ?_
    refine va_slen hx hb hX hbl hbA inv.locs dL_law_20 ?_
    refine lv_iconst (v := nI 5) hx hb dL_law_21 rfl ?_
    refine lv_isub hx hb dL_law_22 ?_
    refine lv_icmp_gt (tgt := 835) hx hb dL_law_23 (by decide) (fun _ => out H locs ls inv.locs) (fun hlt => ?_)
    have hi : i + 5 ≤ L := by
      have h4 : ¬ (Int32.ofNat L - nI 5).toInt < (nI i).toInt := fun h => hlt (Int32.lt_iff_toInt_lt.mpr h)
      rw [len_sub hL, nI_toInt (by omega)] at h4
      omega
    refine lv_aload_n hx hb dL_law_26 rfl (lv_at hl 0 rfl) ?_
    refine lv_iload_n hx hb dL_law_27 rfl (lv_at hl 3 rfl) ?_
    refine w_sldn hx hb hX hbl hbA inv.locs (show i < L by omega) (by omega) dL_law_28 ?_
    refine lv_bipush (v := nI 31) hx hb dL_law_29 rfl ?_
    refine lv_iand hx hb dL_law_31 ?_
    have tail : ∀ (H : Heap) (locs : List Loc), LInv D y s u v (M + 12) H locs → W p l e room_1 s m #[Value.ref b] below meth c H locs cells slots Q (F0 m 829 ls []) := fun H locs inv => by
      refine lv_iinc (v := nI (i + 5)) (lv' := [(3, .int (nI (i + 5))), (0, .ref b), (1, .ref (u.1 0)), (2, .ref (v 0))]) hx hb dL_law_829 hl (k := 3) rfl (by show nI i + nI 5 = nI (i + 5); exact nI_add _ _) (by decide) rfl (fun ls hl => ?_)
      refine lv_goto (tgt := 18) hx hb dL_law_832 (by decide) ?_
      exact ih (i + 5) (M + 12) H locs ls (by omega) (by omega) (by omega) (lv_sub hl [1, 2, 3, 0] rfl) inv
    generalize (xs i &&& nI 31) = x
    by_cases hk : ∃ k, k < 23 ∧ x = nI k
    · obtain ⟨k, hk1, rfl⟩ := hk
      rcases (show k = 0 ∨ k = 1 ∨ k = 2 ∨ k = 3 ∨ k = 4 ∨ k = 5 ∨ k = 6 ∨ k = 7 ∨ k = 8 ∨ k = 9 ∨ k = 10 ∨ k = 11 ∨ k = 12 ∨ k = 13 ∨ k = 14 ∨ k = 15 ∨ k = 16 ∨ k = 17 ∨ k = 18 ∨ k = 19 ∨ k = 20 ∨ k = 21 ∨ k = 22 by omega) with rfl | rfl | rfl | rfl | rfl | rfl | rfl | rfl | rfl | rfl | rfl | rfl | rfl | rfl | rfl | rfl | rfl | rfl | rfl | rfl | rfl | rfl | rfl
      · refine lv_tableIn (off := 108) (tgt := 140) hx hb dL_law_32 (by decide) (by decide) rfl (by decide) ?_
        exact lc_set hc C0 hF (by omega) hi hl inv tail
      · refine lv_tableIn (off := 141) (tgt := 173) hx hb dL_law_32 (by decide) (by decide) rfl (by decide) ?_
        exact lc_write hc C0 hF (by omega) hi hl inv tail
      · refine lv_tableIn (off := 154) (tgt := 186) hx hb dL_law_32 (by decide) (by decide) rfl (by decide) ?_
        exact lc_heat hc C0 hF (by omega) hi hl inv tail
      · refine lv_tableIn (off := 197) (tgt := 229) hx hb dL_law_32 (by decide) (by decide) rfl (by decide) ?_
        exact lc_read hc C0 hF (by omega) hi hl inv tail
      · refine lv_tableIn (off := 230) (tgt := 262) hx hb dL_law_32 (by decide) (by decide) rfl (by decide) ?_
        exact lc_fuse hc C0 hF (by omega) hi hl inv tail
      · refine lv_tableIn (off := 263) (tgt := 295) hx hb dL_law_32 (by decide) (by decide) rfl (by decide) ?_
        exact lc_pass hc C0 hF (by omega) hi hl inv tail
      · refine lv_tableIn (off := 286) (tgt := 318) hx hb dL_law_32 (by decide) (by decide) rfl (by decide) ?_
        exact lc_burn hc C0 hF (by omega) hi hl inv tail
      · refine lv_tableIn (off := 309) (tgt := 341) hx hb dL_law_32 (by decide) (by decide) rfl (by decide) ?_
        exact lc_word hc C0 hF (by omega) hi hl inv tail
      · refine lv_tableIn (off := 352) (tgt := 384) hx hb dL_law_32 (by decide) (by decide) rfl (by decide) ?_
        exact lc_story hc C0 hF (by omega) hi hl inv tail
      · refine lv_tableIn (off := 385) (tgt := 417) hx hb dL_law_32 (by decide) (by decide) rfl (by decide) ?_
        exact lc_count hc C0 hF (by omega) hi hl inv tail
      · refine lv_tableIn (off := 408) (tgt := 440) hx hb dL_law_32 (by decide) (by decide) rfl (by decide) ?_
        exact lc_letter hc C0 hF (by omega) hi hl inv tail
      · refine lv_tableIn (off := 441) (tgt := 473) hx hb dL_law_32 (by decide) (by decide) rfl (by decide) ?_
        exact lc_sideBySide hc C0 hF (by omega) hi hl inv tail
      · refine lv_tableIn (off := 484) (tgt := 516) hx hb dL_law_32 (by decide) (by decide) rfl (by decide) ?_
        exact lc_common hc C0 hF (by omega) hi hl inv tail
      · refine lv_tableIn (off := 517) (tgt := 549) hx hb dL_law_32 (by decide) (by decide) rfl (by decide) ?_
        exact lc_ifHeated hc C0 hF (by omega) hi hl inv tail
      · refine lv_tableIn (off := 570) (tgt := 602) hx hb dL_law_32 (by decide) (by decide) rfl (by decide) ?_
        exact lc_critical hc C0 hF (by omega) hi hl inv tail
      · refine lv_tableIn (off := 603) (tgt := 635) hx hb dL_law_32 (by decide) (by decide) rfl (by decide) ?_
        exact lc_touchiest hc C0 hF (by omega) hi hl inv tail
      · refine lv_tableIn (off := 636) (tgt := 668) hx hb dL_law_32 (by decide) (by decide) rfl (by decide) ?_
        exact lc_coolestPair hc C0 hF (by omega) hi hl inv tail
      · refine lv_tableIn (off := 659) (tgt := 691) hx hb dL_law_32 (by decide) (by decide) rfl (by decide) ?_
        exact lc_put hc C0 hF (by omega) hi hl inv tail
      · refine lv_tableIn (off := 712) (tgt := 744) hx hb dL_law_32 (by decide) (by decide) rfl (by decide) ?_
        exact lc_wipe hc C0 hF (by omega) hi hl inv tail
      · refine lv_tableIn (off := 725) (tgt := 757) hx hb dL_law_32 (by decide) (by decide) rfl (by decide) ?_
        exact lc_fault hc C0 hF (by omega) hi hl inv tail
      · refine lv_tableIn (off := 738) (tgt := 770) hx hb dL_law_32 (by decide) (by decide) rfl (by decide) ?_
        exact lc_undo hc C0 hF (by omega) hi hl inv tail
      · refine lv_tableIn (off := 751) (tgt := 783) hx hb dL_law_32 (by decide) (by decide) rfl (by decide) ?_
        exact lc_save hc C0 hF (by omega) hi hl inv tail
      · refine lv_tableIn (off := 774) (tgt := 806) hx hb dL_law_32 (by decide) (by decide) rfl (by decide) ?_
        exact lc_restore hc C0 hF (by omega) hi hl inv tail
    · refine lv_tableOut (tgt := 829) hx hb dL_law_32 (tsw 22 (by omega) (fun k hk2 h => hk ⟨k, hk2, h⟩)) (by decide) ?_
      exact tail H locs (inv.more (by omega))
