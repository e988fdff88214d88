set_option maxHeartbeats 4000000 in
set_option maxRecDepth 100000 in
theorem KK_start {s : State} {b : Nat} (hts : ∀ w ∈ lw_tbl, w.before #[Value.ref b] s = true) : ∃ (D : va_G) (y : Nat → ClassId), KK D y s ∧ va_AO RX2 s := by
  have hin : ∀ w ∈ wsL_law, w.before #[Value.ref b] s = true := fun w h => hts w (wsL_law_in w h)
  obtain ⟨c0, iS0, hKn0⟩ := u_known (C := RX0) (T := TX0) (N := 3) (n := 3) hts inl_wsX00 (hin (.instantiable RX0 3) (List.mem_of_getElem? (i := 19) rfl))
  obtain ⟨c1, iS1, hKn1⟩ := u_known (C := RX1) (T := TX1) (N := 2) (n := 2) hts inl_wsX10 (hin (.instantiable RX1 2) (List.mem_of_getElem? (i := 26) rfl))
  obtain ⟨c2, iS2, hKn2⟩ := u_known (C := RX2) (T := TX2) (N := 12) (n := 12) hts inl_wsX20 (hin (.instantiable RX2 12) (List.mem_of_getElem? (i := 14) rfl))
  obtain ⟨c3, iS3, hKn3⟩ := u_known (C := RX3) (T := TX3) (N := 9) (n := 9) hts inl_wsX30 (hin (.instantiable RX3 9) (List.mem_of_getElem? (i := 1) rfl))
  obtain ⟨c4, iS4, hKn4⟩ := u_known (C := RX4) (T := TX4) (N := 21) (n := 21) hts inl_wsX40 (hin (.instantiable RX4 21) (List.mem_of_getElem? (i := 4) rfl))
  obtain ⟨d0, e0, p0, f01, f02, f03⟩ := Cond.arrayClass_spec (hin (.arrayClass .int) (List.mem_of_getElem? (i := 29) rfl))
  obtain ⟨d1, e1, p1, f11, f12, f13⟩ := Cond.arrayClass_spec (hin (.arrayClass .boolean) (List.mem_of_getElem? (i := 23) rfl))
  obtain ⟨d2, e2, p2, f21, f22, f23⟩ := Cond.arrayClass_spec (hin (.arrayClass .char) (List.mem_of_getElem? (i := 52) rfl))
  have hao := (hts (.arrayOver (.object RX2)) (List.mem_of_getElem? (i := 105) rfl))
  obtain ⟨p3, d3, e3, f31, f32, f33, f34, f35⟩ := Cond.arrayOver_spec hao
  refine ⟨(fun k => match k with | 0 => c0 | 1 => c1 | 2 => c2 | 3 => c3 | _ => c4, fun k => match k with | 0 => iS0 | 1 => iS1 | 2 => iS2 | 3 => iS3 | _ => iS4), fun k => match k with | 0 => d0 | 1 => d1 | 2 => d2 | _ => d3, ⟨⟨?_, ?_⟩, ?_⟩, va_AO.of hao⟩
  · intro k q hq
    match k, hq with
    | 0, hq => cases hq; exact hKn0
    | 1, hq => cases hq; exact hKn1
    | 2, hq => cases hq; exact hKn2
    | 3, hq => cases hq; exact hKn3
    | 4, hq => cases hq; exact hKn4
    | k + 5, hq => simp [vwCl] at hq
  · intro k q hq
    match k, hq with
    | 0, hq => cases hq; exact ⟨fun n z => ⟨(fun k h => by cases h), e0, f02, p0, f03⟩, f01⟩
    | 1, hq => cases hq; exact ⟨fun n z => ⟨(fun k h => by cases h), e1, f12, p1, f13⟩, f11⟩
    | 2, hq => cases hq; exact ⟨fun n z => ⟨(fun k h => by cases h), e2, f22, p2, f23⟩, f21⟩
    | 3, hq => cases hq; exact ⟨fun n z => ⟨(fun k h => by cases h), e3, f33, p3, f34⟩, e3, p3, f33, f34, f31, f35⟩
    | k + 4, hq => simp [tyL] at hq
  · exact ⟨va_tabs (A := #[Value.ref b]) (A' := #[]) rfl rfl (hts (.methodLinkNest RX2 59 yX3_isWithin RX3) (List.mem_of_getElem? (i := 267) rfl)), va_tabs (A := #[Value.ref b]) (A' := #[]) rfl rfl (hts (.methodLinkNest RX1 17 yX3_isWithin RX3) (List.mem_of_getElem? (i := 202) rfl)), va_tabs (A := #[Value.ref b]) (A' := #[]) rfl rfl (hts (.methodLinkNest RX0 17 yX2_init RX3) (List.mem_of_getElem? (i := 106) rfl)), va_tabs (A := #[Value.ref b]) (A' := #[]) rfl rfl (hts (.methodLinkNest RX3 9 yX2_init RX3) (List.mem_of_getElem? (i := 46) rfl)), va_tabs (A := #[Value.ref b]) (A' := #[]) rfl rfl (hts (.methodLinkNest RX3 36 yX1_init RX3) (List.mem_of_getElem? (i := 120) rfl))⟩
set_option maxHeartbeats 4000000 in
set_option maxRecDepth 100000 in
theorem ZT_start {s : State} {b : Nat} (hts : ∀ w ∈ lw_tbl, w.before #[Value.ref b] s = true) (hgv : (Jvm.Cond.and given_1 narrow_1).before #[Value.ref b] s = true) : ZT (lA s) s s.heap := by
  have hin : ∀ w ∈ wsL_law, w.before #[Value.ref b] s = true := fun w h => hts w (wsL_law_in w h)
  have hs := flat_of_before _ hgv
  have hA : ∀ a : Nat, a < s.heap.size → ¬ lA s a := fun a h => Nat.not_le.mpr h
  have LOWEST_e : ∀ j : Nat, j < 3 → (Term.elem (.static "HeatedStories" "LOWEST" "[I") (.int (Int32.ofNat j))).eval #[Value.ref b] s none [] s = some ((fun k => .int (if k = 0 then nI 10 else nI 0)) j) := fun j hj => by
    rcases (show j = 0 ∨ j = 1 ∨ j = 2 by omega) with rfl | rfl | rfl
    · exact va_eqt (z := 10) (hs (Cond.eq (.elem (.static "HeatedStories" "LOWEST" "[I") (.int 0)) (.int 10)) (by decide +kernel))
    · exact va_eqt (z := 0) (hs (Cond.eq (.elem (.static "HeatedStories" "LOWEST" "[I") (.int 1)) (.int 0)) (by decide +kernel))
    · exact va_eqt (z := 0) (hs (Cond.eq (.elem (.static "HeatedStories" "LOWEST" "[I") (.int 2)) (.int 0)) (by decide +kernel))
  obtain ⟨LOWEST_t, LOWEST_v, LOWEST_T⟩ := va_Tof (tm := (.static "HeatedStories" "LOWEST" "[I")) (ty := .int) (N := 3) (f := (fun k => .int (if k = 0 then nI 10 else nI 0))) (A := lA s) (by omega) (hs (Cond.arrayOf (.static "HeatedStories" "LOWEST" "[I") .int) (by decide +kernel)) (va_eqt (z := 3) (hs (Cond.eq (.length (.static "HeatedStories" "LOWEST" "[I")) (.int 3)) (by decide +kernel))) LOWEST_e hA
  have HIGHEST_e : ∀ j : Nat, j < 3 → (Term.elem (.static "HeatedStories" "HIGHEST" "[I") (.int (Int32.ofNat j))).eval #[Value.ref b] s none [] s = some ((fun k => .int (if k = 0 then nI 99 else if k = 1 then nI 4 else nI 20)) j) := fun j hj => by
    rcases (show j = 0 ∨ j = 1 ∨ j = 2 by omega) with rfl | rfl | rfl
    · exact va_eqt (z := 99) (hs (Cond.eq (.elem (.static "HeatedStories" "HIGHEST" "[I") (.int 0)) (.int 99)) (by decide +kernel))
    · exact va_eqt (z := 4) (hs (Cond.eq (.elem (.static "HeatedStories" "HIGHEST" "[I") (.int 1)) (.int 4)) (by decide +kernel))
    · exact va_eqt (z := 20) (hs (Cond.eq (.elem (.static "HeatedStories" "HIGHEST" "[I") (.int 2)) (.int 20)) (by decide +kernel))
  obtain ⟨HIGHEST_t, HIGHEST_v, HIGHEST_T⟩ := va_Tof (tm := (.static "HeatedStories" "HIGHEST" "[I")) (ty := .int) (N := 3) (f := (fun k => .int (if k = 0 then nI 99 else if k = 1 then nI 4 else nI 20))) (A := lA s) (by omega) (hs (Cond.arrayOf (.static "HeatedStories" "HIGHEST" "[I") .int) (by decide +kernel)) (va_eqt (z := 3) (hs (Cond.eq (.length (.static "HeatedStories" "HIGHEST" "[I")) (.int 3)) (by decide +kernel))) HIGHEST_e hA
  exact ⟨LOWEST_t, HIGHEST_t, va_Zref (hts (.laysStatic "HeatedStories" "LOWEST" "[I") (List.mem_of_getElem? (i := 170) rfl)) (hin (.initialized RX3) (List.mem_of_getElem? (i := 2) rfl)) LOWEST_v hA, LOWEST_T, va_Zref (hts (.laysStatic "HeatedStories" "HIGHEST" "[I") (List.mem_of_getElem? (i := 172) rfl)) (hin (.initialized RX3) (List.mem_of_getElem? (i := 2) rfl)) HIGHEST_v hA, HIGHEST_T⟩
set_option maxHeartbeats 4000000 in
set_option maxRecDepth 100000 in
theorem whole_start {p : Program} {e : Env} {s : State} {m : MethodId} {below : List Frame} {meth : Method} {c : Code} (l : Launch) (hflags : l.flags = flags0) {b L : Nat} {xs : Nat → Int32} (hL : L ≤ 2560) (C0 : lw_At p s m meth c b L xs) : W p l e room_1 s m #[Value.ref b] below meth c s.heap [] 0 0 (lw_Z below #[Value.ref b] s) (entryFrame m ([Value.ref b] : List Value).toArray 4) := by
  obtain ⟨hx, hb, hr, hml, hown, hts, hX, hbl, hlocks, hgv⟩ := C0
  have hA : ∀ q : Nat, s.heap.size ≤ q → lA s q := fun _ h => h
  obtain ⟨D, y, hK, hO⟩ := KK_start hts
  have F : CallFix p m c cL_law 4 s #[Value.ref b] wsL_law RL := ⟨hx, hb, hml, hown, fun w h => hts w (wsL_law_in w h)⟩
  have CC : LC p s m c b L xs D y := ⟨F, hK, ZT_start hts hgv, hX, hbl, hL⟩
  have hG : GG D (lA s) s.heap [] s.heap [] := ⟨fun k q h => by simp at h, ⟨fun i j p q h => by simp at h, fun k q h => by simp at h⟩, va_S.rf⟩
  have hl := lv_entry ([.ref b]) (n := 4) (Nat.le_of_ble_eq_true rfl)
  rw [lg_entry_eq]
  generalize (lg_sl ([.ref b]) ++ List.replicate (4 - (lg_sl ([.ref b])).length) Slot.unset).toArray = ls at hl ⊢
  have hl : lv_has ls 4 [(0, .ref b)] := hl
  refine w_new F hK hA hG (ci := 3) inlX3 tyX3 tyX3_ok (F.2.2.2.2 (.classLink RL 7 RX3) (List.mem_of_getElem? (i := 0) rfl)) (F.2.2.2.2 (.instantiable RX3 9) (List.mem_of_getElem? (i := 1) rfl)) (F.2.2.2.2 (.initialized RX3) (List.mem_of_getElem? (i := 2) rfl)) rfl fr3 (Nat.le_of_ble_eq_true rfl) (Nat.le_of_ble_eq_true rfl) dL_law_0 (fun q H locs hG => ?_)
  refine lv_dup hx hb dL_law_3 rfl ?_
  refine k_N F hK hO hA hG (c_X3_init l D y q H.size) (cwI 0 F.2.2.2.2 gL_law_X3_init rfl rfl rfl (F.2.2.2.2 (.initialized RX3) (List.mem_of_getElem? (i := 2) rfl)) (F.2.2.2.2 (.methodLink RL 9 yX3_init) (List.mem_of_getElem? (i := 7) rfl)) (F.2.2.2.2 (.instanceMethod yX3_init) (List.mem_of_getElem? (i := 8) rfl)) rfl (by decide +kernel) ⟨Nat.le_of_ble_eq_true rfl, Nat.le_of_ble_eq_true rfl⟩) rfl hl.1 (Nat.le_of_ble_eq_true rfl) dL_law_4 ⟨Nat.le_of_ble_eq_true rfl, Nat.le_of_ble_eq_true rfl⟩ (fun u H locs hu hG2 => ?_)
  subst hu
  refine lv_astore_n (lv' := [(1, .ref (u.1 0)), (0, .ref b)]) hx hb dL_law_7 rfl hl (by decide) rfl (fun ls hl => ?_)
  refine w_new F hK hA hG2 (ci := 4) inlX4 tyX4 tyX4_ok (F.2.2.2.2 (.classLink RL 10 RX4) (List.mem_of_getElem? (i := 3) rfl)) (F.2.2.2.2 (.instantiable RX4 21) (List.mem_of_getElem? (i := 4) rfl)) (F.2.2.2.2 (.initialized RX4) (List.mem_of_getElem? (i := 5) rfl)) rfl fr4 (Nat.le_of_ble_eq_true rfl) (Nat.le_of_ble_eq_true rfl) dL_law_8 (fun q H locs hG3 => ?_)
  refine lv_dup hx hb dL_law_11 rfl ?_
  refine k_N F hK hO hA hG3 (c_X4_init l D y q H.size) (cwI 0 F.2.2.2.2 gL_law_X4_init rfl rfl rfl (F.2.2.2.2 (.initialized RX4) (List.mem_of_getElem? (i := 5) rfl)) (F.2.2.2.2 (.methodLink RL 12 yX4_init) (List.mem_of_getElem? (i := 54) rfl)) (F.2.2.2.2 (.instanceMethod yX4_init) (List.mem_of_getElem? (i := 55) rfl)) rfl (by decide +kernel) ⟨Nat.le_of_ble_eq_true rfl, Nat.le_of_ble_eq_true rfl⟩) rfl hl.1 (Nat.le_of_ble_eq_true rfl) dL_law_12 ⟨Nat.le_of_ble_eq_true rfl, Nat.le_of_ble_eq_true rfl⟩ (fun v H locs hv hG4 => ?_)
  subst hv
  refine lv_astore_n (lv' := [(2, .ref (v 0)), (1, .ref (u.1 0)), (0, .ref b)]) hx hb dL_law_15 rfl hl (by decide) rfl (fun ls hl => ?_)
  refine lv_iconst (v := nI 0) hx hb dL_law_16 rfl ?_
  refine lv_istore_n (lv' := [(3, .int (nI 0)), (2, .ref (v 0)), (1, .ref (u.1 0)), (0, .ref b)]) hx hb dL_law_17 rfl hl (by decide) rfl (fun ls hl => ?_)
  have inv : LInv D y s u v 0 H locs := by
    have hG5 := hG4.perm List.perm_append_comm
    rw [List.append_nil] at hG5
    obtain ⟨a, pa, na, ta, ha, hsb, sl, ssb⟩ := u
    exact ⟨zA, zA, zA, zA, zA, 0, se0, zA, zA, zA, zA, zA, zA, 0, 0, 0, 0, 0, se0, zA, zA, zA, zA, zA, zA, 0, 0, 0, 0, 0, fun _ => sv0, 0, 0, fun _ => sv0, se0, zA, zA, 0, zA, zA, zA, 0, zA, zA, 0, 0, 0, 0, 0, 0, zA, zA, zA, 0, 0, REL_init, hG5⟩
  refine law_loop ⟨Nat.le_of_ble_eq_true rfl, Nat.le_of_ble_eq_true rfl⟩ CC (Fu := 100000000) (Nat.le_refl _) (fun H locs ls hS => ?_) 520 0 0 H locs ls (by omega) (Nat.zero_le _) (by omega) (lv_sub hl [3, 2, 1, 0] rfl) inv
  refine lv_iconst (v := 1) hx hb dL_law_835 (by decide) ?_
  refine va_forget (fun q hq => hS.2.2 q hq) ?_
  refine W.widen (k := 600000) (n := 7302250) (Nat.le_of_ble_eq_true rfl) (Nat.le_of_ble_eq_true rfl) ?_
  exact lw_ret hx hb hr hlocks dL_law_836
