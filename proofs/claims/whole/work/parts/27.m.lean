/-! CONSTRUCTORS: HeatedStories -/
def bkX3 (o : Nat × va_E) (slc : va_W) (g0 g1 g2 g3 g4 g5 g6 g7 g8 : va_W) : Nat → va_W := fun k => match k with
  | 0 => [o] | 1 => slc | 2 => g0 | 3 => g1 | 4 => g2 | 5 => g3 | 6 => g4 | 7 => g5 | 8 => g6 | 9 => g7 | _ => g8
set_option maxHeartbeats 4000000 in
set_option maxRecDepth 100000 in
theorem X3_loop {p : Program} {l : Launch} {e : Env} {s : State} {m : MethodId} {args : Array Value} {below : List Frame} {meth : Method} {c : Code} {Q : State → Prop} {D : va_G} {y : Nat → ClassId} {A : Nat → Prop} (F : CallFix p m c cX3_init 2 s args wsX3_init RX3) (hK : KK D y s) (hO : va_AO RX2 s) (hA : ∀ q, s.heap.size ≤ q → A q) (a0 sl : Nat) (f0 f1 f2 f4 f5 f6 f7 f8 : Value) (rst : va_W)
    (out : ∀ (ad : Nat → Nat → Nat) (H : Heap) (locs : List Loc) (ls : Array Slot), GG D A s.heap ((a0, .inr (3, [f0, f1, f2, .ref sl, f4, f5, f6, f7, f8])) :: (sl, .inl (y 3, 2, .inr (.inr (.inr (.inr (rfA ad 2)))))) :: (poolS y ad (fun _ => sv0) 2 ++ rst)) H locs → W p l e (RC 3 53 89 4029) s m args below meth c H locs 89 4029 Q (F0 m 114 ls [])) :
    ∀ (n i : Nat) (ad : Nat → Nat → Nat) (H : Heap) (locs : List Loc) (ls : Array Slot), i + n = 2 → lv_has ls 2 [(0, .ref a0), (1, .int (nI i))] → GG D A s.heap ((a0, .inr (3, [f0, f1, f2, .ref sl, f4, f5, f6, f7, f8])) :: (sl, .inl (y 3, 2, .inr (.inr (.inr (.inr (rfA ad i)))))) :: (poolS y ad (fun _ => sv0) i ++ rst)) H locs → W p l e (RC 3 53 89 4029) s m args below meth c H locs (73 + 8 * i) (3273 + 378 * i) Q (F0 m 90 ls []) := by
  have hx := F.1
  have hb := F.2.1
  have h0 : ∀ w ∈ wsX30, w ∈ wsX3_init := (fun w h => List.mem_cons_of_mem _ (List.mem_append_left _ (List.mem_append_left _ (List.mem_append_right _ (h)))))
  have h2 : ∀ w ∈ wsX20, w ∈ wsX3_init := (fun w h => List.mem_cons_of_mem _ (List.mem_append_left _ (List.mem_append_left _ (List.mem_append_left _ (List.mem_append_right _ (h))))))
  intro n
  induction n with
  | zero =>
    intro i ad H locs ls hi hl hG
    have e : i = 2 := by omega
    subst e
    refine lv_iload_n hx hb dX3_init_90 rfl (lv_at hl 1 rfl) ?_
    refine lv_iconst (v := nI 2) hx hb dX3_init_91 rfl ?_
    refine lv_icmp_ge (tgt := 114) hx hb dX3_init_92 (by decide) (fun _ => ?_) (fun h => absurd (Int32.le_refl _) h)
    exact out ad H locs ls hG
  | succ n ih =>
    intro i ad H locs ls hi hl hG
    refine lv_iload_n hx hb dX3_init_90 rfl (lv_at hl 1 rfl) ?_
    refine lv_iconst (v := nI 2) hx hb dX3_init_91 rfl ?_
    refine lv_icmp_ge (tgt := 114) hx hb dX3_init_92 (by decide) (fun h => absurd ((nI_leI (by omega) (by omega)).mp h) (by omega)) (fun _ => ?_)
    refine lv_aload_n hx hb dX3_init_95 rfl (lv_at hl 0 rfl) ?_
    refine w_get3 F hK hG h0 0 rfl 3 (by decide) (F.2.2.2.2 (.fieldLink RX3 26 "HeatedStories" "slots" "[LHeatedStories$Shelf;") (List.mem_of_getElem? (i := 13) rfl)) rfl dX3_init_96 ?_
    refine lv_iload_n hx hb dX3_init_99 rfl (lv_at hl 1 rfl) ?_
    refine w_new F hK hA hG (ci := 2) h2 tyX2 tyX2_ok (F.2.2.2.2 (.classLink RX3 7 RX2) (List.mem_of_getElem? (i := 4) rfl)) (F.2.2.2.2 (.instantiable RX2 12) (List.mem_of_getElem? (i := 5) rfl)) (F.2.2.2.2 (.initialized RX2) (List.mem_of_getElem? (i := 6) rfl)) rfl fr2 (by show _ ≤ 89; omega) (by show _ ≤ 4029; omega) dX3_init_100 (fun q H locs hG => ?_)
    refine lv_dup hx hb dX3_init_103 rfl ?_
    refine k_NN F hK hO hA hG (c_X2_init l D y q H.size) ⟨va_cnB 0 F.2.2.2.2 gX3_init_X2_init_n9 rfl rfl rfl hK.2.2.2.2.1 (F.2.2.2.2 (.initialized RX2) (List.mem_of_getElem? (i := 6) rfl)) (by decide +kernel) ⟨Nat.le_of_ble_eq_true rfl, Nat.le_of_ble_eq_true rfl⟩, rfl, (F.2.2.2.2 (.instanceMethod yX2_init) (List.mem_of_getElem? (i := 24) rfl))⟩ rfl hl.1 (Nat.le_of_ble_eq_true rfl) dX3_init_104 ⟨by show _ ≤ 89; omega, by show _ ≤ 4029; omega⟩ (fun a H locs ha hG2 => ?_)
    subst ha
    refine w_astq2 F hK hG2 9 0 rfl rfl (show i < 2 by omega) (by omega) (w_sv y a sv0 ++ ((a0, .inr (3, [f0, f1, f2, .ref sl, f4, f5, f6, f7, f8])) :: (sl, .inl (y 3, 2, .inr (.inr (.inr (.inr (va_up (rfA ad i) i (some (a 0)))))))) :: (poolS y ad (fun _ => sv0) i ++ rst))) rfl dX3_init_107 (fun H locs hG => ?_)
    have hG : GG D A s.heap ((a0, .inr (3, [f0, f1, f2, .ref sl, f4, f5, f6, f7, f8])) :: (sl, .inl (y 3, 2, .inr (.inr (.inr (.inr (rfA (va_up ad i a) (i + 1))))))) :: (poolS y (va_up ad i a) (fun _ => sv0) (i + 1) ++ rst)) H locs := by
      rw [← rfA_s, poolS_s, List.append_assoc]
      refine hG.perm (List.perm_append_comm.trans (List.Perm.cons _ (List.Perm.cons _ ?_)))
      show ((poolS y ad (fun _ => sv0) i ++ rst) ++ w_sv y a sv0).Perm (poolS y ad (fun _ => sv0) i ++ (w_sv y a sv0 ++ rst))
      rw [List.append_assoc]
      exact List.Perm.append_left _ List.perm_append_comm
    refine lv_iinc (v := nI (i + 1)) (lv' := [(1, .int (nI (i + 1))), (0, .ref a0)]) hx hb dX3_init_108 hl (k := 1) rfl (by show nI i + nI 1 = nI (i + 1); exact nI_add _ _) (by decide) rfl (fun ls hl => ?_)
    refine lv_goto (tgt := 90) hx hb dX3_init_111 (by decide) ?_
    have key := ih (i + 1) (va_up ad i a) H locs ls (by omega) (lv_sub hl [1, 0] rfl) hG
    rw [show 73 + 8 * (i + 1) = 73 + 8 * i + 1 + 7 by omega, show 3273 + 378 * (i + 1) = 3273 + 378 * i + 12 + 366 by omega] at key
    exact key
abbrev UX3 : Type := (Nat → Nat) × (Nat → Nat) × (Nat → Nat) × (Nat → Nat) × (Nat → Nat) × (Nat → Nat → Nat) × Nat × (Nat → Nat → Nat)
def W3 (y : Nat → ClassId) (u : UX3) : va_W := w_X3 y u.1 u.2.1 u.2.2.1 u.2.2.2.1 u.2.2.2.2.1 u.2.2.2.2.2.2.1 zA zA zA zA ++ (w_X1 y u.2.1 zA 0 ++ (w_sv y u.2.2.1 sv0 ++ (w_sv y u.2.2.2.1 sv0 ++ (w_X0 y u.2.2.2.2.1 u.2.2.2.2.2.1 (fun _ => sv0) 0 0 ++ w_SL y u.2.2.2.2.2.2.1 u.2.2.2.2.2.2.2 (fun _ => sv0)))))
set_option maxHeartbeats 4000000 in
set_option maxRecDepth 100000 in
theorem c_X3_init (l : Launch) (D : va_G) (y : Nat → ClassId) (a0 sz : Nat) : MC l yX3_init wsX3_init 3 53 89 4029 a0 D y [(a0, .inr (3, [.null, .null, .null, .null, .null, .null, .null, .null, .null]))] sz (fun u : UX3 => u.1 0 = a0) (W3 y) := by
  refine M_c (cc := cX3_init) (maxL := 2) (own := RX3) (by decide) rfl rfl (Nat.le_of_ble_eq_true rfl) rfl ?_
  intro p e s m args below meth c A Q F hK hO hnm hA H locs hG hret ls hl
  have hx := F.1
  have hb := F.2.1
  have hl : lv_has ls 2 [(0, .ref a0)] := hl
  have h0 : ∀ w ∈ wsX30, w ∈ wsX3_init := (fun w h => List.mem_cons_of_mem _ (List.mem_append_left _ (List.mem_append_left _ (List.mem_append_right _ (h)))))
  have h2 : ∀ w ∈ wsX20, w ∈ wsX3_init := (fun w h => List.mem_cons_of_mem _ (List.mem_append_left _ (List.mem_append_left _ (List.mem_append_left _ (List.mem_append_right _ (h))))))
  have h00 : ∀ w ∈ wsX00, w ∈ wsX3_init := (fun w h => List.mem_cons_of_mem _ (List.mem_append_left _ (List.mem_append_right _ (h))))
  have h01 : ∀ w ∈ wsX10, w ∈ wsX3_init := (fun w h => List.mem_cons_of_mem _ (List.mem_append_right _ (h)))
  refine lv_aload_n hx hb dX3_init_0 rfl (lv_at hl 0 rfl) ?_
  refine W.objInit hx hb F.2.2.2.1 (F.2.2.2.2 (.methodLink RX3 1 objectInit) (List.mem_of_getElem? (i := 1) rfl)) (F.2.2.2.2 (.instanceMethod objectInit) (List.mem_of_getElem? (i := 2) rfl)) (F.2.2.2.2 (.code objectInit ⟨#[0xb1]⟩ 1 none) (List.mem_of_getElem? (i := 3) rfl)) rfl (by rw [F.2.2.1]; exact hl.1) rfl dX3_init_1 (Nat.le_of_ble_eq_true rfl) (Nat.le_of_ble_eq_true rfl) ?_
  refine W.eq (g2 := F0 m 4 ls []) rfl ?_
  -- now
  refine lv_aload_n hx hb dX3_init_4 rfl (lv_at hl 0 rfl) ?_
  refine w_new F hK hA hG (ci := 2) h2 tyX2 tyX2_ok (F.2.2.2.2 (.classLink RX3 7 RX2) (List.mem_of_getElem? (i := 4) rfl)) (F.2.2.2.2 (.instantiable RX2 12) (List.mem_of_getElem? (i := 5) rfl)) (F.2.2.2.2 (.initialized RX2) (List.mem_of_getElem? (i := 6) rfl)) rfl fr2 (Nat.le_of_ble_eq_true rfl) (Nat.le_of_ble_eq_true rfl) dX3_init_5 (fun q H locs hG1 => ?_)
  refine lv_dup hx hb dX3_init_8 rfl ?_
  refine k_NN F hK hO hA hG1 (c_X2_init l D y q H.size) ⟨va_cnB 0 F.2.2.2.2 gX3_init_X2_init_n9 rfl rfl rfl hK.2.2.2.2.1 (F.2.2.2.2 (.initialized RX2) (List.mem_of_getElem? (i := 6) rfl)) (by decide +kernel) ⟨Nat.le_of_ble_eq_true rfl, Nat.le_of_ble_eq_true rfl⟩, rfl, (F.2.2.2.2 (.instanceMethod yX2_init) (List.mem_of_getElem? (i := 24) rfl))⟩ rfl hl.1 (Nat.le_of_ble_eq_true rfl) dX3_init_9 ⟨Nat.le_of_ble_eq_true rfl, Nat.le_of_ble_eq_true rfl⟩ (fun na H locs ha hG2 => ?_)
  subst ha
  have hG3 := hG2.perm List.perm_append_comm
  refine w_putF3 F hK hG3 h0 0 rfl 0 (by decide) (F.2.2.2.2 (.fieldLink RX3 10 "HeatedStories" "now" "LHeatedStories$Shelf;") (List.mem_of_getElem? (i := 7) rfl)) rfl hnm rfl rfl rfl (Nat.le_of_ble_eq_true rfl) ((a0, .inr (3, [.ref (na 0), .null, .null, .null, .null, .null, .null, .null, .null])) :: w_sv y na sv0) rfl dX3_init_12 (fun H locs hG4 => ?_)
  clear hG3 hG2 hG1 hG
  -- trial
  refine lv_aload_n hx hb dX3_init_15 rfl (lv_at hl 0 rfl) ?_
  refine w_new F hK hA hG4 (ci := 2) h2 tyX2 tyX2_ok (F.2.2.2.2 (.classLink RX3 7 RX2) (List.mem_of_getElem? (i := 4) rfl)) (F.2.2.2.2 (.instantiable RX2 12) (List.mem_of_getElem? (i := 5) rfl)) (F.2.2.2.2 (.initialized RX2) (List.mem_of_getElem? (i := 6) rfl)) rfl fr2 (Nat.le_of_ble_eq_true rfl) (Nat.le_of_ble_eq_true rfl) dX3_init_16 (fun q H locs hG1 => ?_)
  refine lv_dup hx hb dX3_init_19 rfl ?_
  refine k_NN F hK hO hA hG1 (c_X2_init l D y q H.size) ⟨va_cnB 0 F.2.2.2.2 gX3_init_X2_init_n9 rfl rfl rfl hK.2.2.2.2.1 (F.2.2.2.2 (.initialized RX2) (List.mem_of_getElem? (i := 6) rfl)) (by decide +kernel) ⟨Nat.le_of_ble_eq_true rfl, Nat.le_of_ble_eq_true rfl⟩, rfl, (F.2.2.2.2 (.instanceMethod yX2_init) (List.mem_of_getElem? (i := 24) rfl))⟩ rfl hl.1 (Nat.le_of_ble_eq_true rfl) dX3_init_20 ⟨Nat.le_of_ble_eq_true rfl, Nat.le_of_ble_eq_true rfl⟩ (fun ta H locs ha hG2 => ?_)
  subst ha
  have hG3 := hG2.perm List.perm_append_comm
  refine w_putF3 F hK hG3 h0 0 rfl 1 (by decide) (F.2.2.2.2 (.fieldLink RX3 16 "HeatedStories" "trial" "LHeatedStories$Shelf;") (List.mem_of_getElem? (i := 8) rfl)) rfl hnm rfl rfl rfl (Nat.le_of_ble_eq_true rfl) ((a0, .inr (3, [.ref (na 0), .ref (ta 0), .null, .null, .null, .null, .null, .null, .null])) :: (w_sv y na sv0 ++ w_sv y ta sv0)) rfl dX3_init_23 (fun H locs hG => ?_)
  clear hG3 hG2 hG1 hG4
  -- history
  refine lv_aload_n hx hb dX3_init_26 rfl (lv_at hl 0 rfl) ?_
  refine w_new F hK hA hG (ci := 0) h00 tyX0 tyX0_ok (F.2.2.2.2 (.classLink RX3 19 RX0) (List.mem_of_getElem? (i := 9) rfl)) (F.2.2.2.2 (.instantiable RX0 3) (List.mem_of_getElem? (i := 10) rfl)) (F.2.2.2.2 (.initialized RX0) (List.mem_of_getElem? (i := 11) rfl)) rfl fr0 (Nat.le_of_ble_eq_true rfl) (Nat.le_of_ble_eq_true rfl) dX3_init_27 (fun q H locs hG1 => ?_)
  refine lv_dup hx hb dX3_init_30 rfl ?_
  refine k_N F hK hO hA hG1 (c_X0_init l D y q H.size) (cwI 0 F.2.2.2.2 gX3_init_X0_init rfl rfl rfl (F.2.2.2.2 (.initialized RX0) (List.mem_of_getElem? (i := 11) rfl)) (F.2.2.2.2 (.methodLink RX3 21 yX0_init) (List.mem_of_getElem? (i := 34) rfl)) (F.2.2.2.2 (.instanceMethod yX0_init) (List.mem_of_getElem? (i := 35) rfl)) rfl (by decide +kernel) ⟨Nat.le_of_ble_eq_true rfl, Nat.le_of_ble_eq_true rfl⟩) rfl hl.1 (Nat.le_of_ble_eq_true rfl) dX3_init_31 ⟨Nat.le_of_ble_eq_true rfl, Nat.le_of_ble_eq_true rfl⟩ (fun uh H locs ha hG2 => ?_)
  obtain ⟨ha0, hsb⟩ := uh
  have ha : ha0 0 = q := ha
  subst ha
  have hG3 := hG2.perm List.perm_append_comm
  refine w_putF3 F hK hG3 h0 0 rfl 2 (by decide) (F.2.2.2.2 (.fieldLink RX3 22 "HeatedStories" "history" "LHeatedStories$History;") (List.mem_of_getElem? (i := 12) rfl)) rfl hnm rfl rfl rfl (Nat.le_of_ble_eq_true rfl) ((a0, .inr (3, [.ref (na 0), .ref (ta 0), .ref (ha0 0), .null, .null, .null, .null, .null, .null])) :: ((w_sv y na sv0 ++ w_sv y ta sv0) ++ w_X0 y ha0 hsb (fun _ => sv0) 0 0)) rfl dX3_init_34 (fun H locs hG4 => ?_)
  clear hG3 hG2 hG1 hG
  -- slots, saved
  refine lv_aload_n hx hb dX3_init_37 rfl (lv_at hl 0 rfl) ?_
  refine lv_iconst (v := nI 2) hx hb dX3_init_38 rfl ?_
  refine w_newq F hK hO hA hG4 2 (by omega) (F.2.2.2.2 (.classLink RX3 7 RX2) (List.mem_of_getElem? (i := 4) rfl)) (Nat.le_of_ble_eq_true rfl) (Nat.le_of_ble_eq_true rfl) dX3_init_39 (fun sl H locs hG => ?_)
  refine w_putF3 F hK hG h0 0 rfl 3 (by decide) (F.2.2.2.2 (.fieldLink RX3 26 "HeatedStories" "slots" "[LHeatedStories$Shelf;") (List.mem_of_getElem? (i := 13) rfl)) rfl hnm rfl rfl rfl (Nat.le_of_ble_eq_true rfl) ((a0, .inr (3, [.ref (na 0), .ref (ta 0), .ref (ha0 0), .ref sl, .null, .null, .null, .null, .null])) :: (((w_sv y na sv0 ++ w_sv y ta sv0) ++ w_X0 y ha0 hsb (fun _ => sv0) 0 0) ++ [(sl, .inl (y 3, 2, .inr (.inr (.inr (.inr (fun _ => none))))))])) rfl dX3_init_42 (fun H locs hG => ?_)
  refine lv_aload_n hx hb dX3_init_45 rfl (lv_at hl 0 rfl) ?_
  refine lv_iconst (v := nI 2) hx hb dX3_init_46 rfl ?_
  refine w_newz F hK hA hG 2 (by omega) (F.2.2.2.2 (.arrayClass .boolean) (List.mem_of_getElem? (i := 14) rfl)) (Nat.le_of_ble_eq_true rfl) (Nat.le_of_ble_eq_true rfl) dX3_init_47 (fun sd H locs hG => ?_)
  refine w_putF3 F hK hG h0 0 rfl 4 (by decide) (F.2.2.2.2 (.fieldLink RX3 30 "HeatedStories" "saved" "[Z") (List.mem_of_getElem? (i := 15) rfl)) rfl hnm rfl rfl rfl (Nat.le_of_ble_eq_true rfl) ((a0, .inr (3, [.ref (na 0), .ref (ta 0), .ref (ha0 0), .ref sl, .ref sd, .null, .null, .null, .null])) :: ((((w_sv y na sv0 ++ w_sv y ta sv0) ++ w_X0 y ha0 hsb (fun _ => sv0) 0 0) ++ [(sl, .inl (y 3, 2, .inr (.inr (.inr (.inr (fun _ => none))))))]) ++ [(sd, .inl (y 1, 2, .inl zA))])) rfl dX3_init_49 (fun H locs hG5 => ?_)
  -- pad
  refine lv_aload_n hx hb dX3_init_52 rfl (lv_at hl 0 rfl) ?_
  refine w_new F hK hA hG5 (ci := 1) h01 tyX1 tyX1_ok (F.2.2.2.2 (.classLink RX3 34 RX1) (List.mem_of_getElem? (i := 16) rfl)) (F.2.2.2.2 (.instantiable RX1 2) (List.mem_of_getElem? (i := 17) rfl)) (F.2.2.2.2 (.initialized RX1) (List.mem_of_getElem? (i := 18) rfl)) rfl fr1 (Nat.le_of_ble_eq_true rfl) (Nat.le_of_ble_eq_true rfl) dX3_init_53 (fun q H locs hG1 => ?_)
  refine lv_dup hx hb dX3_init_56 rfl ?_
  refine k_NN F hK hO hA hG1 (c_X1_init l D y q H.size) ⟨va_cnB 0 F.2.2.2.2 gX3_init_X1_init_n36 rfl rfl rfl hK.2.2.2.2.2 (F.2.2.2.2 (.initialized RX1) (List.mem_of_getElem? (i := 18) rfl)) (by decide +kernel) ⟨Nat.le_of_ble_eq_true rfl, Nat.le_of_ble_eq_true rfl⟩, rfl, (F.2.2.2.2 (.instanceMethod yX1_init) (List.mem_of_getElem? (i := 40) rfl))⟩ rfl hl.1 (Nat.le_of_ble_eq_true rfl) dX3_init_57 ⟨Nat.le_of_ble_eq_true rfl, Nat.le_of_ble_eq_true rfl⟩ (fun pa H locs ha hG2 => ?_)
  subst ha
  have hG3 := hG2.perm List.perm_append_comm
  refine w_putF3 F hK hG3 h0 0 rfl 5 (by decide) (F.2.2.2.2 (.fieldLink RX3 37 "HeatedStories" "pad" "LHeatedStories$Pad;") (List.mem_of_getElem? (i := 19) rfl)) rfl hnm rfl rfl rfl (Nat.le_of_ble_eq_true rfl) ((a0, .inr (3, [.ref (na 0), .ref (ta 0), .ref (ha0 0), .ref sl, .ref sd, .ref (pa 0), .null, .null, .null])) :: (((((w_sv y na sv0 ++ w_sv y ta sv0) ++ w_X0 y ha0 hsb (fun _ => sv0) 0 0) ++ [(sl, .inl (y 3, 2, .inr (.inr (.inr (.inr (fun _ => none))))))]) ++ [(sd, .inl (y 1, 2, .inl zA))]) ++ w_X1 y pa zA 0)) rfl dX3_init_60 (fun H locs hG => ?_)
  clear hG3 hG2 hG1 hG5
  -- the rows that calls use again
  refine lv_aload_n hx hb dX3_init_63 rfl (lv_at hl 0 rfl) ?_
  refine lv_sipush (v := nI 150) hx hb dX3_init_64 rfl ?_
  refine w_newi F hK hA hG 150 (by omega) (F.2.2.2.2 (.arrayClass .int) (List.mem_of_getElem? (i := 20) rfl)) (Nat.le_of_ble_eq_true rfl) (Nat.le_of_ble_eq_true rfl) dX3_init_67 (fun r1 H locs hG => ?_)
  refine w_putF3 F hK hG h0 0 rfl 6 (by decide) (F.2.2.2.2 (.fieldLink RX3 41 "HeatedStories" "runs" "[I") (List.mem_of_getElem? (i := 21) rfl)) rfl hnm rfl rfl rfl (Nat.le_of_ble_eq_true rfl) ((a0, .inr (3, [.ref (na 0), .ref (ta 0), .ref (ha0 0), .ref sl, .ref sd, .ref (pa 0), .ref r1, .null, .null])) :: ((((((w_sv y na sv0 ++ w_sv y ta sv0) ++ w_X0 y ha0 hsb (fun _ => sv0) 0 0) ++ [(sl, .inl (y 3, 2, .inr (.inr (.inr (.inr (fun _ => none))))))]) ++ [(sd, .inl (y 1, 2, .inl zA))]) ++ w_X1 y pa zA 0) ++ [(r1, .inl (y 0, 150, .inl zA))])) rfl dX3_init_69 (fun H locs hG => ?_)
  refine lv_aload_n hx hb dX3_init_72 rfl (lv_at hl 0 rfl) ?_
  refine lv_bipush (v := nI 12) hx hb dX3_init_73 rfl ?_
  refine w_newi F hK hA hG 12 (by omega) (F.2.2.2.2 (.arrayClass .int) (List.mem_of_getElem? (i := 20) rfl)) (Nat.le_of_ble_eq_true rfl) (Nat.le_of_ble_eq_true rfl) dX3_init_75 (fun r2 H locs hG => ?_)
  refine w_putF3 F hK hG h0 0 rfl 7 (by decide) (F.2.2.2.2 (.fieldLink RX3 45 "HeatedStories" "themes" "[I") (List.mem_of_getElem? (i := 22) rfl)) rfl hnm rfl rfl rfl (Nat.le_of_ble_eq_true rfl) ((a0, .inr (3, [.ref (na 0), .ref (ta 0), .ref (ha0 0), .ref sl, .ref sd, .ref (pa 0), .ref r1, .ref r2, .null])) :: (((((((w_sv y na sv0 ++ w_sv y ta sv0) ++ w_X0 y ha0 hsb (fun _ => sv0) 0 0) ++ [(sl, .inl (y 3, 2, .inr (.inr (.inr (.inr (fun _ => none))))))]) ++ [(sd, .inl (y 1, 2, .inl zA))]) ++ w_X1 y pa zA 0) ++ [(r1, .inl (y 0, 150, .inl zA))]) ++ [(r2, .inl (y 0, 12, .inl zA))])) rfl dX3_init_77 (fun H locs hG => ?_)
  refine lv_aload_n hx hb dX3_init_80 rfl (lv_at hl 0 rfl) ?_
  refine lv_bipush (v := nI 12) hx hb dX3_init_81 rfl ?_
  refine w_newi F hK hA hG 12 (by omega) (F.2.2.2.2 (.arrayClass .int) (List.mem_of_getElem? (i := 20) rfl)) (Nat.le_of_ble_eq_true rfl) (Nat.le_of_ble_eq_true rfl) dX3_init_83 (fun r3 H locs hG => ?_)
  refine w_putF3 F hK hG h0 0 rfl 8 (by decide) (F.2.2.2.2 (.fieldLink RX3 48 "HeatedStories" "storyHeats" "[I") (List.mem_of_getElem? (i := 23) rfl)) rfl hnm rfl rfl rfl (Nat.le_of_ble_eq_true rfl) ((a0, .inr (3, [.ref (na 0), .ref (ta 0), .ref (ha0 0), .ref sl, .ref sd, .ref (pa 0), .ref r1, .ref r2, .ref r3])) :: ((((((((w_sv y na sv0 ++ w_sv y ta sv0) ++ w_X0 y ha0 hsb (fun _ => sv0) 0 0) ++ [(sl, .inl (y 3, 2, .inr (.inr (.inr (.inr (fun _ => none))))))]) ++ [(sd, .inl (y 1, 2, .inl zA))]) ++ w_X1 y pa zA 0) ++ [(r1, .inl (y 0, 150, .inl zA))]) ++ [(r2, .inl (y 0, 12, .inl zA))]) ++ [(r3, .inl (y 0, 12, .inl zA))])) rfl dX3_init_85 (fun H locs hG => ?_)
  refine lv_iconst (v := nI 0) hx hb dX3_init_88 rfl ?_
  refine lv_istore_n (lv' := [(1, .int (nI 0)), (0, .ref a0)]) hx hb dX3_init_89 rfl hl (by decide) rfl (fun ls hl => ?_)
  have hG : GG D A s.heap ((a0, .inr (3, [.ref (na 0), .ref (ta 0), .ref (ha0 0), .ref sl, .ref sd, .ref (pa 0), .ref r1, .ref r2, .ref r3])) :: (sl, .inl (y 3, 2, .inr (.inr (.inr (.inr (fun _ => none)))))) :: ([] ++ (w_sv y na sv0 ++ (w_sv y ta sv0 ++ (w_X0 y ha0 hsb (fun _ => sv0) 0 0 ++ ([(sd, .inl (y 1, 2, .inl zA))] ++ (w_X1 y pa zA 0 ++ ([(r1, .inl (y 0, 150, .inl zA))] ++ ([(r2, .inl (y 0, 12, .inl zA))] ++ [(r3, .inl (y 0, 12, .inl zA))]))))))))) H locs :=
    GG.blk (bkX3 (a0, .inr (3, [.ref (na 0), .ref (ta 0), .ref (ha0 0), .ref sl, .ref sd, .ref (pa 0), .ref r1, .ref r2, .ref r3])) [(sl, .inl (y 3, 2, .inr (.inr (.inr (.inr (fun _ => none))))))] [] (w_sv y na sv0) (w_sv y ta sv0) (w_X0 y ha0 hsb (fun _ => sv0) 0 0) [(sd, .inl (y 1, 2, .inl zA))] (w_X1 y pa zA 0) [(r1, .inl (y 0, 150, .inl zA))] [(r2, .inl (y 0, 12, .inl zA))] [(r3, .inl (y 0, 12, .inl zA))])
      [0, 3, 4, 5, 1, 6, 7, 8, 9, 10] [0, 1, 3, 4, 5, 6, 7, 8, 9, 10] (blkp _ _ rfl) _ _ (by simp only [List.append_assoc]; rfl) rfl hG
  have hG := GG.refs (g := rfA (fun _ _ => 0) 0) (fun j hj => by unfold rfA; rw [if_neg (by omega)]) hG
  refine X3_loop F hK hO hA a0 sl _ _ _ _ _ _ _ _ _ (fun ad H locs ls hG => ?_) 2 0 (fun _ _ => 0) H locs ls rfl (lv_sub hl [1, 0] rfl) hG
  have hG := GG.refs (g := fun k => some (ad k 0)) (rfA_e ad 2) hG
  have hG : GG D A s.heap (W3 y (adL [a0, sd, r1, r2, r3], pa, na, ta, ha0, hsb, sl, ad)) H locs :=
    GG.blk (bkX3 (a0, .inr (3, [.ref (na 0), .ref (ta 0), .ref (ha0 0), .ref sl, .ref sd, .ref (pa 0), .ref r1, .ref r2, .ref r3])) [(sl, .inl (y 3, 2, .inr (.inr (.inr (.inr (fun k => some (ad k 0)))))))] (poolS y ad (fun _ => sv0) 2) (w_sv y na sv0) (w_sv y ta sv0) (w_X0 y ha0 hsb (fun _ => sv0) 0 0) [(sd, .inl (y 1, 2, .inl zA))] (w_X1 y pa zA 0) [(r1, .inl (y 0, 150, .inl zA))] [(r2, .inl (y 0, 12, .inl zA))] [(r3, .inl (y 0, 12, .inl zA))])
      [0, 1, 2, 3, 4, 5, 6, 7, 8, 9, 10] [0, 6, 8, 9, 10, 7, 3, 4, 5, 1, 2] (blkp _ _ rfl) _ _ rfl rfl hG
  exact hret (adL [a0, sd, r1, r2, r3], pa, na, ta, ha0, hsb, sl, ad) H locs 114 ls rfl hG dX3_init_114
