theorem dJ7_fill_53178_0 : decode cJ7_fill_53178 0 = .ok (.iconst 0, 1) := by decide +kernel
theorem dJ7_fill_53178_1 : decode cJ7_fill_53178 1 = .ok (.istore_n 2, 1) := by decide +kernel
theorem dJ7_fill_53178_2 : decode cJ7_fill_53178 2 = .ok (.aload_n 0, 1) := by decide +kernel
theorem dJ7_fill_53178_3 : decode cJ7_fill_53178 3 = .ok (.arraylength, 1) := by decide +kernel
theorem dJ7_fill_53178_4 : decode cJ7_fill_53178 4 = .ok (.istore_n 3, 1) := by decide +kernel
theorem dJ7_fill_53178_5 : decode cJ7_fill_53178 5 = .ok (.iload_n 2, 1) := by decide +kernel
theorem dJ7_fill_53178_6 : decode cJ7_fill_53178 6 = .ok (.iload_n 3, 1) := by decide +kernel
theorem dJ7_fill_53178_7 : decode cJ7_fill_53178 7 = .ok (.if_icmp .ge 13, 3) := by decide +kernel
theorem dJ7_fill_53178_10 : decode cJ7_fill_53178 10 = .ok (.aload_n 0, 1) := by decide +kernel
theorem dJ7_fill_53178_11 : decode cJ7_fill_53178 11 = .ok (.iload_n 2, 1) := by decide +kernel
theorem dJ7_fill_53178_12 : decode cJ7_fill_53178 12 = .ok (.iload_n 1, 1) := by decide +kernel
theorem dJ7_fill_53178_13 : decode cJ7_fill_53178 13 = .ok (.iastore, 1) := by decide +kernel
theorem dJ7_fill_53178_14 : decode cJ7_fill_53178 14 = .ok (.iinc 2 1, 3) := by decide +kernel
theorem dJ7_fill_53178_17 : decode cJ7_fill_53178 17 = .ok (.goto (-12), 3) := by decide +kernel
theorem dJ7_fill_53178_20 : decode cJ7_fill_53178 20 = .ok (.return_, 1) := by decide +kernel
/-! Arrays.fill over ints -/
theorem arrI_congr {cA : ClassId} {N : Nat} {f g : Ar} (h : ∀ j, j < N → f j = g j) : vp_cell cA (N, .inl f) = vp_cell cA (N, .inl g) := by
  show arrV cA N (fun j => .int (f j)) = arrV cA N (fun j => .int (g j))
  simp only [arrV]
  congr 1
  apply Array.ext
  · simp
  · intro i h1 h2
    have hi : i < N := by simpa using h1
    simp only [Array.getElem_ofFn]
    rw [h i hi]
theorem GG.arr1 {D : va_G} {A : Nat → Prop} {H0 H : Heap} {locs : List Loc} {a N : Nat} {cA : ClassId} {f g : Ar} (h : ∀ j, j < N → f j = g j) (hG : GG D A H0 [(a, .inl (cA, N, .inl f))] H locs) : GG D A H0 [(a, .inl (cA, N, .inl g))] H locs := by
  refine ⟨va_P.of (fun q hq => ?_), hG.2.1.addr rfl, hG.2.2⟩
  simp only [List.mem_singleton] at hq
  subst hq
  have h1 : va_at D vwCl (a, .inl (cA, N, .inl f)) H := hG.1.mem (List.mem_singleton.mpr rfl)
  exact Eq.trans h1 (congrArg some (arrI_congr h))
set_option maxHeartbeats 4000000 in
set_option maxRecDepth 100000 in
theorem c_J7_fill (l : Launch) (D : va_G) (y : Nat → ClassId) (a N sz : Nat) (f : Ar) (v : Int32) (hN : N < 2 ^ 31 := by decide) : MV l yJ7_fill_53178 wsJ7_fill_53178 0 0 [.ref a, .int v] D y [(a, .inl (y 0, N, .inl f))] sz [(a, .inl (y 0, N, .inl (fun _ => v)))] := by
  refine M_v (cc := cJ7_fill_53178) (maxL := 4) (own := RJ7) (by decide) rfl rfl (Nat.le_of_ble_eq_true rfl) ?_
  intro p e s m args below meth c A Q F hK hA H locs hG hret ls hl
  have hx := F.1
  have hb := F.2.1
  have hl : lv_has ls 4 [(0, .ref a), (1, .int v)] := hl
  refine lv_iconst (v := nI 0) hx hb dJ7_fill_53178_0 rfl ?_
  refine lv_istore_n (lv' := [(2, .int (nI 0)), (0, .ref a), (1, .int v)]) hx hb dJ7_fill_53178_1 rfl hl (by decide) rfl (fun ls hl => ?_)
  refine lv_aload_n hx hb dJ7_fill_53178_2 rfl (lv_at hl 1 rfl) ?_
  refine va_alen hx hb hK.1 hG.1 0 0 rfl rfl (v := nI N) rfl dJ7_fill_53178_3 ?_
  refine lv_istore_n (lv' := [(3, .int (nI N)), (2, .int (nI 0)), (0, .ref a), (1, .int v)]) hx hb dJ7_fill_53178_4 rfl hl (by decide) rfl (fun ls hl => ?_)
  have hL : ∀ (n i : Nat) (g : Ar) (H : Heap) (locs : List Loc) (ls : Array Slot), i ≤ N → N - i < n → (∀ j, j < i → g j = v) → GG D A s.heap [(a, .inl (y 0, N, .inl g))] H locs → lv_has ls 4 [(3, .int (nI N)), (2, .int (nI i)), (0, .ref a), (1, .int v)] → W p l e (RM 0 0) s m args below meth c H locs 0 0 Q (F0 m 5 ls []) := by
    intro n
    induction n with
    | zero => intro i g H locs ls h1 h2; omega
    | succ n ih =>
      intro i g H locs ls h1 h2 hg hG hl
      refine lv_iload_n hx hb dJ7_fill_53178_5 rfl (lv_at hl 1 rfl) ?_
      refine lv_iload_n hx hb dJ7_fill_53178_6 rfl (lv_at hl 0 rfl) ?_
      refine lv_icmp_ge (tgt := 20) hx hb dJ7_fill_53178_7 (by decide) (fun c1 => ?_) (fun c1 => ?_)
      · have hi : i = N := by
          have := (nI_leI (a := N) (b := i) hN (by omega)).mp c1
          omega
        subst hi
        exact hret H locs _ _ (hG.arr1 hg) dJ7_fill_53178_20
      · have hi : i < N := by
          rcases Nat.lt_or_ge i N with q | q
          · exact q
          · exact absurd (nI_le q (by omega)) c1
        refine lv_aload_n hx hb dJ7_fill_53178_10 rfl (lv_at hl 2 rfl) ?_
        refine lv_iload_n hx hb dJ7_fill_53178_11 rfl (lv_at hl 1 rfl) ?_
        refine lv_iload_n hx hb dJ7_fill_53178_12 rfl (lv_at hl 3 rfl) ?_
        refine w_iast F hK hG 0 rfl (ix_nI hi hN) [(a, .inl (y 0, N, .inl (upd g (nI i).toNatClampNeg v)))] rfl dJ7_fill_53178_13 (fun H locs hG => ?_)
        refine lv_iinc (v := nI (i + 1)) (lv' := [(2, .int (nI (i + 1))), (3, .int (nI N)), (0, .ref a), (1, .int v)]) hx hb dJ7_fill_53178_14 hl (k := 1) rfl (nI_1 i) (by decide) rfl (fun ls hl => ?_)
        refine lv_goto (tgt := 5) hx hb dJ7_fill_53178_17 (by decide) ?_
        refine ih (i + 1) _ _ _ _ (by omega) (by omega) (fun j hj => ?_) hG (lv_sub hl [1, 0, 2, 3] rfl)
        rw [nI_clamp (by omega)]
        unfold upd
        by_cases hji : j = i
        · rw [if_pos hji]
        · rw [if_neg hji]; exact hg j (by omega)
  exact hL (N + 1) 0 f _ _ _ (Nat.zero_le _) (by omega) (fun j hj => absurd hj (by omega)) hG hl
