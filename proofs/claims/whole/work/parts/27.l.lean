/-! CONSTRUCTORS: the ones with loops -/
theorem refs_congr {cA : ClassId} {N : Nat} {f g : Nat → Option Nat} (h : ∀ j, j < N → f j = g j) : vp_cell cA (N, .inr (.inr (.inr (.inr f)))) = vp_cell cA (N, .inr (.inr (.inr (.inr g)))) := by
  rw [vp_cell_q, vp_cell_q]
  simp only [arrV]
  congr 1
  apply Array.ext
  · simp
  · intro i h1 h2
    have hi : i < N := by simpa using h1
    simp only [Array.getElem_ofFn]
    rw [h i hi]
theorem GG.refs {D : va_G} {A : Nat → Prop} {H0 H : Heap} {locs : List Loc} {a N : Nat} {cA : ClassId} {x : Nat × va_E} {ws : va_W} {f g : Nat → Option Nat} (h : ∀ j, j < N → f j = g j) (hG : GG D A H0 (x :: (a, .inl (cA, N, .inr (.inr (.inr (.inr f))))) :: ws) H locs) : GG D A H0 (x :: (a, .inl (cA, N, .inr (.inr (.inr (.inr g))))) :: ws) H locs := by
  refine ⟨va_P.of (fun q hq => ?_), hG.2.1.addr rfl, hG.2.2⟩
  rcases List.mem_cons.mp hq with e | hq
  · rw [e]; exact hG.1.mem List.mem_cons_self
  · rcases List.mem_cons.mp hq with e | hq
    · subst e
      have h1 : va_at D vwCl (a, .inl (cA, N, .inr (.inr (.inr (.inr f))))) H := hG.1.mem (List.mem_cons_of_mem _ List.mem_cons_self)
      exact Eq.trans h1 (congrArg some (refs_congr h))
    · exact hG.1.mem (List.mem_cons_of_mem _ (List.mem_cons_of_mem _ hq))
def rfA (ad : Nat → Nat → Nat) (i : Nat) : Nat → Option Nat := fun k => if k < i then some (ad k 0) else none
theorem rfA_s (ad : Nat → Nat → Nat) (i : Nat) (a : Nat → Nat) : va_up (rfA ad i) i (some (a 0)) = rfA (va_up ad i a) (i + 1) := by
  funext k
  unfold rfA va_up
  by_cases h : k = i
  · rw [if_pos h, if_pos (by omega), h, if_pos rfl]
  · rw [if_neg h]
    show (if k < i then some (ad k 0) else none) = _
    by_cases h2 : k < i
    · rw [if_pos h2, if_pos (by omega), if_neg h]
    · rw [if_neg h2, if_neg (by omega)]
theorem rfA_e (ad : Nat → Nat → Nat) (i : Nat) : ∀ j, j < i → rfA ad i j = some (ad j 0) := fun j hj => by unfold rfA; rw [if_pos hj]
theorem poolS_s (y : Nat → ClassId) (ad : Nat → Nat → Nat) (i : Nat) (a : Nat → Nat) : poolS y (va_up ad i a) (fun _ => sv0) (i + 1) = poolS y ad (fun _ => sv0) i ++ w_sv y a sv0 := by
  have key : ∀ (l : List Nat), (∀ j ∈ l, j ≠ i) → l.flatMap (fun j => w_sv y (va_up ad i a j) sv0) = l.flatMap (fun j => w_sv y (ad j) sv0) := by
    intro l
    induction l with
    | nil => intro _; rfl
    | cons b l ih =>
      intro hl
      rw [List.flatMap_cons, List.flatMap_cons, ih (fun j hj => hl j (List.mem_cons_of_mem _ hj)), va_up_ne _ _ (hl b List.mem_cons_self)]
  unfold poolS
  rw [List.range_succ, List.flatMap_append, key _ (fun j hj => by have := List.mem_range.mp hj; omega)]
  simp only [List.flatMap_cons, List.flatMap_nil, List.append_nil, va_up_self]
theorem fr2 : ∀ j, j < 12 → defaultValue (tyX2 j) = vp_V [.null, .null, .null, .null, .null, .null, .null, .int 0, .int 0, .int 0, .int 0, .int 0] j := fun j hj => match j, hj with
  | 0, _ => rfl | 1, _ => rfl | 2, _ => rfl | 3, _ => rfl | 4, _ => rfl | 5, _ => rfl | 6, _ => rfl | 7, _ => rfl | 8, _ => rfl | 9, _ => rfl | 10, _ => rfl | 11, _ => rfl | n + 12, h => absurd h (by omega)
theorem fr0 : ∀ j, j < 3 → defaultValue (tyX0 j) = vp_V [.null, .int 0, .int 0] j := fun j hj => match j, hj with
  | 0, _ => rfl | 1, _ => rfl | 2, _ => rfl | n + 3, h => absurd h (by omega)
theorem fr1 : ∀ j, j < 2 → defaultValue (tyX1 j) = vp_V [.null, .int 0] j := fun j hj => match j, hj with
  | 0, _ => rfl | 1, _ => rfl | n + 2, h => absurd h (by omega)
theorem fr3 : ∀ j, j < 9 → defaultValue (tyX3 j) = vp_V [.null, .null, .null, .null, .null, .null, .null, .null, .null] j := fun j hj => match j, hj with
  | 0, _ => rfl | 1, _ => rfl | 2, _ => rfl | 3, _ => rfl | 4, _ => rfl | 5, _ => rfl | 6, _ => rfl | 7, _ => rfl | 8, _ => rfl | n + 9, h => absurd h (by omega)
theorem fr4 : ∀ j, j < 21 → defaultValue (tyX4 j) = vp_V [.null, .null, .null, .int 0, .null, .null, .null, .int 0, .null, .null, .int 0, .int 0, .int 0, .int 0, .int 0, .int 0, .null, .null, .null, .int 0, .int 0] j := fun j hj => match j, hj with
  | 0, _ => rfl | 1, _ => rfl | 2, _ => rfl | 3, _ => rfl | 4, _ => rfl | 5, _ => rfl | 6, _ => rfl | 7, _ => rfl | 8, _ => rfl | 9, _ => rfl | 10, _ => rfl | 11, _ => rfl | 12, _ => rfl | 13, _ => rfl | 14, _ => rfl | 15, _ => rfl | 16, _ => rfl | 17, _ => rfl | 18, _ => rfl | 19, _ => rfl | 20, _ => rfl | n + 21, h => absurd h (by omega)
section WQ
variable {p : Program} {l : Launch} {e : Env} {R : Room} {s : State} {m : MethodId} {args : Array Value} {below : List Frame} {meth : Method} {c : Code} {H : Heap} {locs : List Loc} {cells slots : Nat} {Q : State → Prop}
variable {cc : ByteArray} {nL pc : Nat} {ls : Array Slot} {rest : List Value} {Ts : List Cond} {own : String} {D : va_G} {y : Nat → ClassId} {A : Nat → Prop} {H0 : Heap} {ws : va_W}
theorem w_astq2 (F : CallFix p m c cc nL s args Ts own) (hK : KK D y s) (hG : GG D A H0 ws H locs) (q0 qk : Nat) {a n v i : Nat} {vs : List Value} {f : Nat → Option Nat} (ha : ws[q0]? = some (a, .inl (y 3, n, .inr (.inr (.inr (.inr f)))))) (hv : ws[qk]? = some (v, .inr (2, vs))) (hi : i < n) (hn : n < 1000) (ws2 : va_W) (hw : ws.set q0 (a, .inl (y 3, n, .inr (.inr (.inr (.inr (va_up f i (some v))))))) = ws2) (hdg : decode cc pc = .ok (.aastore, 1))
    (kk : ∀ (H : Heap) (locs : List Loc), GG D A H0 ws2 H locs → W p l e R s m args below meth c H locs cells slots Q (F0 m (pc + 1) ls rest)) : W p l e R s m args below meth c H locs cells slots Q (F0 m pc ls (.ref v :: .int (nI i) :: .ref a :: rest)) := by
  have e : (nI i).toNatClampNeg = i := nI_clamp (by omega)
  exact va_astq F.1 F.2.1 hK.1 hG.1 hG.2.1 hG.2.2 q0 3 qk 2 ha rfl hv rfl (ix_in (ix_nI hi (by omega))) hdg (fun H1 l1 h1 h2 h3 => kk H1 l1 (by rw [e] at h1 h2; rw [← hw]; exact ⟨h1, h2, h3⟩))
end WQ
set_option maxHeartbeats 4000000 in
set_option maxRecDepth 100000 in
theorem X0_loop {p : Program} {l : Launch} {e : Env} {s : State} {m : MethodId} {args : Array Value} {below : List Frame} {meth : Method} {c : Code} {Q : State → Prop} {D : va_G} {y : Nat → ClassId} {A : Nat → Prop} (F : CallFix p m c cX0_init 2 s args wsX0_init RX0) (hK : KK D y s) (hO : va_AO RX2 s) (hA : ∀ q, s.heap.size ≤ q → A q) (a0 ar : Nat)
    (out : ∀ (ad : Nat → Nat → Nat) (H : Heap) (locs : List Loc) (ls : Array Slot), GG D A s.heap ((a0, .inr (0, [.ref ar, .int 0, .int 0])) :: (ar, .inl (y 3, 6, .inr (.inr (.inr (.inr (rfA ad 6)))))) :: poolS y ad (fun _ => sv0) 6) H locs → W p l e (RC 2 32 49 2274) s m args below meth c H locs 49 2274 Q (F0 m 40 ls [])) :
    ∀ (n i : Nat) (ad : Nat → Nat → Nat) (H : Heap) (locs : List Loc) (ls : Array Slot), i + n = 6 → lv_has ls 2 [(0, .ref a0), (1, .int (nI i))] → GG D A s.heap ((a0, .inr (0, [.ref ar, .int 0, .int 0])) :: (ar, .inl (y 3, 6, .inr (.inr (.inr (.inr (rfA ad i)))))) :: poolS y ad (fun _ => sv0) i) H locs → W p l e (RC 2 32 49 2274) s m args below meth c H locs (1 + 8 * i) (6 + 378 * i) Q (F0 m 15 ls []) := by
  have hx := F.1
  have hb := F.2.1
  have h0 : ∀ w ∈ wsX00, w ∈ wsX0_init := (fun w h => List.mem_cons_of_mem _ (List.mem_append_left _ (List.mem_append_right _ (h))))
  have h2 : ∀ w ∈ wsX20, w ∈ wsX0_init := (fun w h => List.mem_cons_of_mem _ (List.mem_append_right _ (h)))
  intro n
  induction n with
  | zero =>
    intro i ad H locs ls hi hl hG
    have e : i = 6 := by omega
    subst e
    refine lv_iload_n hx hb dX0_init_15 rfl (lv_at hl 1 rfl) ?_
    refine lv_bipush (v := nI 6) hx hb dX0_init_16 rfl ?_
    refine lv_icmp_ge (tgt := 40) hx hb dX0_init_18 (by decide) (fun _ => ?_) (fun h => absurd (Int32.le_refl _) h)
    exact out ad H locs ls hG
  | succ n ih =>
    intro i ad H locs ls hi hl hG
    refine lv_iload_n hx hb dX0_init_15 rfl (lv_at hl 1 rfl) ?_
    refine lv_bipush (v := nI 6) hx hb dX0_init_16 rfl ?_
    refine lv_icmp_ge (tgt := 40) hx hb dX0_init_18 (by decide) (fun h => absurd ((nI_leI (by omega) (by omega)).mp h) (by omega)) (fun _ => ?_)
    refine lv_aload_n hx hb dX0_init_21 rfl (lv_at hl 0 rfl) ?_
    refine w_get0 F hK hG h0 0 rfl 0 (by decide) (F.2.2.2.2 (.fieldLink RX0 11 "HeatedStories$History" "states" "[LHeatedStories$Shelf;") (List.mem_of_getElem? (i := 5) rfl)) rfl dX0_init_22 ?_
    refine lv_iload_n hx hb dX0_init_25 rfl (lv_at hl 1 rfl) ?_
    refine w_new F hK hA hG (ci := 2) h2 tyX2 tyX2_ok (F.2.2.2.2 (.classLink RX0 9 RX2) (List.mem_of_getElem? (i := 4) rfl)) (F.2.2.2.2 (.instantiable RX2 12) (List.mem_of_getElem? (i := 6) rfl)) (F.2.2.2.2 (.initialized RX2) (List.mem_of_getElem? (i := 7) rfl)) rfl fr2 (by show _ ≤ 49; omega) (by show _ ≤ 2274; omega) dX0_init_26 (fun q H locs hG => ?_)
    refine lv_dup hx hb dX0_init_29 rfl ?_
    refine k_NN F hK hO hA hG (c_X2_init l D y q H.size) ⟨va_cnB 0 F.2.2.2.2 gX0_init_X2_init_n17 rfl rfl rfl hK.2.2.2.1 (F.2.2.2.2 (.initialized RX2) (List.mem_of_getElem? (i := 7) rfl)) (by decide +kernel) ⟨Nat.le_of_ble_eq_true rfl, Nat.le_of_ble_eq_true rfl⟩, rfl, (F.2.2.2.2 (.instanceMethod yX2_init) (List.mem_of_getElem? (i := 8) rfl))⟩ rfl hl.1 (Nat.le_of_ble_eq_true rfl) dX0_init_30 ⟨by show _ ≤ 49; omega, by show _ ≤ 2274; omega⟩ (fun a H locs ha hG2 => ?_)
    subst ha
    refine w_astq2 F hK hG2 9 0 rfl rfl (show i < 6 by omega) (by omega) (w_sv y a sv0 ++ ((a0, .inr (0, [.ref ar, .int 0, .int 0])) :: (ar, .inl (y 3, 6, .inr (.inr (.inr (.inr (va_up (rfA ad i) i (some (a 0)))))))) :: poolS y ad (fun _ => sv0) i)) rfl dX0_init_33 (fun H locs hG => ?_)
    have hG : GG D A s.heap ((a0, .inr (0, [.ref ar, .int 0, .int 0])) :: (ar, .inl (y 3, 6, .inr (.inr (.inr (.inr (rfA (va_up ad i a) (i + 1))))))) :: poolS y (va_up ad i a) (fun _ => sv0) (i + 1)) H locs := by
      rw [← rfA_s, poolS_s]
      exact hG.perm List.perm_append_comm
    refine lv_iinc (v := nI (i + 1)) (lv' := [(1, .int (nI (i + 1))), (0, .ref a0)]) hx hb dX0_init_34 hl (k := 1) rfl (by show nI i + nI 1 = nI (i + 1); exact nI_add _ _) (by decide) rfl (fun ls hl => ?_)
    refine lv_goto (tgt := 15) hx hb dX0_init_37 (by decide) ?_
    have key := ih (i + 1) (va_up ad i a) H locs ls (by omega) (lv_sub hl [1, 0] rfl) hG
    rw [show 1 + 8 * (i + 1) = 1 + 8 * i + 1 + 7 by omega, show 6 + 378 * (i + 1) = 6 + 378 * i + 12 + 366 by omega] at key
    exact key
set_option maxHeartbeats 4000000 in
set_option maxRecDepth 100000 in
theorem c_X0_init (l : Launch) (D : va_G) (y : Nat → ClassId) (a0 sz : Nat) : MC l yX0_init wsX0_init 2 32 49 2274 a0 D y [(a0, .inr (0, [.null, .int 0, .int 0]))] sz (fun u : (Nat → Nat) × (Nat → Nat → Nat) => u.1 0 = a0) (fun u => w_X0 y u.1 u.2 (fun _ => sv0) 0 0) := by
  refine M_c (cc := cX0_init) (maxL := 2) (own := RX0) (by decide) rfl rfl (Nat.le_of_ble_eq_true rfl) rfl ?_
  intro p e s m args below meth c A Q F hK hO hnm hA H locs hG hret ls hl
  have hx := F.1
  have hb := F.2.1
  have hl : lv_has ls 2 [(0, .ref a0)] := hl
  have h0 : ∀ w ∈ wsX00, w ∈ wsX0_init := (fun w h => List.mem_cons_of_mem _ (List.mem_append_left _ (List.mem_append_right _ (h))))
  refine lv_aload_n hx hb dX0_init_0 rfl (lv_at hl 0 rfl) ?_
  refine W.objInit hx hb F.2.2.2.1 (F.2.2.2.2 (.methodLink RX0 3 objectInit) (List.mem_of_getElem? (i := 1) rfl)) (F.2.2.2.2 (.instanceMethod objectInit) (List.mem_of_getElem? (i := 2) rfl)) (F.2.2.2.2 (.code objectInit ⟨#[0xb1]⟩ 1 none) (List.mem_of_getElem? (i := 3) rfl)) rfl (by rw [F.2.2.1]; exact hl.1) rfl dX0_init_1 (Nat.le_of_ble_eq_true rfl) (Nat.le_of_ble_eq_true rfl) ?_
  refine W.eq (g2 := F0 m 4 ls []) rfl ?_
  refine lv_aload_n hx hb dX0_init_4 rfl (lv_at hl 0 rfl) ?_
  refine lv_bipush (v := nI 6) hx hb dX0_init_5 rfl ?_
  refine w_newq F hK hO hA hG 6 (by omega) (F.2.2.2.2 (.classLink RX0 9 RX2) (List.mem_of_getElem? (i := 4) rfl)) (Nat.le_of_ble_eq_true rfl) (Nat.le_of_ble_eq_true rfl) dX0_init_7 (fun ar H locs hG => ?_)
  refine w_putF0 F hK hG h0 0 rfl 0 (by decide) (F.2.2.2.2 (.fieldLink RX0 11 "HeatedStories$History" "states" "[LHeatedStories$Shelf;") (List.mem_of_getElem? (i := 5) rfl)) rfl hnm rfl rfl rfl (Nat.le_of_ble_eq_true rfl) ([(a0, .inr (0, [.ref ar, .int 0, .int 0])), (ar, .inl (y 3, 6, .inr (.inr (.inr (.inr (fun _ => none))))))]) rfl dX0_init_10 (fun H locs hG => ?_)
  refine lv_iconst (v := nI 0) hx hb dX0_init_13 rfl ?_
  refine lv_istore_n (lv' := [(1, .int (nI 0)), (0, .ref a0)]) hx hb dX0_init_14 rfl hl (by decide) rfl (fun ls hl => ?_)
  have hG : GG D A s.heap ((a0, .inr (0, [.ref ar, .int 0, .int 0])) :: (ar, .inl (y 3, 6, .inr (.inr (.inr (.inr (rfA (fun _ _ => 0) 0)))))) :: poolS y (fun _ _ => 0) (fun _ => sv0) 0) H locs := hG.refs (fun j hj => by unfold rfA; rw [if_neg (by omega)])
  refine X0_loop F hK hO hA a0 ar (fun ad H locs ls hG => ?_) 6 0 _ H locs ls rfl (lv_sub hl [1, 0] rfl) hG
  exact hret (adL [a0, ar], ad) H locs 40 ls rfl (hG.refs (rfA_e ad 6)) dX0_init_40
