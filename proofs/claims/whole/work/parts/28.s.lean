/-! X3.set: two rows of the class that nobody writes -/
def ZT (A : Nat → Prop) (U : State) (H : Heap) : Prop := ∃ t1 t2 : Nat, va_Z "HeatedStories" "LOWEST" "[I" (.ref t1) A U H ∧ va_T .int t1 3 (fun k => .int (if k = 0 then nI 10 else nI 0)) A U H ∧ va_Z "HeatedStories" "HIGHEST" "[I" (.ref t2) A U H ∧ va_T .int t2 3 (fun k => .int (if k = 0 then nI 99 else if k = 1 then nI 4 else nI 20)) A U H
theorem ZT.moved {A : Nat → Prop} {u U : State} {H : Heap} (hvm : u.vm.Alike U.vm) (h : ZT A u H) : ZT A U H := by
  obtain ⟨t1, t2, a, b, c, d⟩ := h
  exact ⟨t1, t2, a.moved hvm, b.moved hvm, c.moved hvm, d.moved hvm⟩
theorem ZT.kept {A : Nat → Prop} {U : State} {H H1 : Heap} (h : ZT A U H) (hq : ∀ a : Nat, a < H.size → ¬ A a → H1[a]? = H[a]?) : ZT A U H1 := by
  obtain ⟨t1, t2, a, b, c, d⟩ := h
  exact ⟨t1, t2, a.kept hq, b.kept hq, c.kept hq, d.kept hq⟩
theorem ZT.narrow {A B : Nat → Prop} {U : State} {H : Heap} (h : ZT A U H) (hAB : ∀ q, B q → A q) : ZT B U H := by
  obtain ⟨t1, t2, a, b, c, d⟩ := h
  exact ⟨t1, t2, a.narrow hAB, b.narrow hAB, c.narrow hAB, d.narrow hAB⟩
def PreZ (D : va_G) (y : Nat → ClassId) (ws : va_W) (sz : Nat) : State → Prop := fun U => Pre1 D y ws sz U ∧ ZT (va_A ws sz) U U.heap
abbrev MZ (l : Launch) (yn : MethodName) (wn : List Cond) (fr lo : Nat) (av : List Value) (D : va_G) (y : Nat → ClassId) (ws : va_W) (sz : Nat) (r : Int32) (ws' : va_W) : Prop :=
  Met l yn wn ({ frames := fr, cells := 0, slots := 0, locals := lo }) (va_Pc av (PreZ D y ws sz)) (PoI D r ws ws' sz) 0 0 (va_A ws sz)
theorem preZ_blind {av : List Value} {D : va_G} {y : Nat → ClassId} {ws : va_W} {sz : Nat} : FrameBlind (va_Pc av (PreZ D y ws sz)) := fun a U g mk q =>
  ⟨q.1, ⟨q.2.1.1, q.2.1.2.1, ⟨va_K.moved (u := U) (U := U.calling g mk a) (Vm.Alike.refl U.vm) q.2.1.2.2.1.1, NWs.same (u := U) (U := U.calling g mk a) rfl q.2.1.2.2.1.2⟩, q.2.1.2.2.2⟩, ZT.moved (u := U) (U := U.calling g mk a) (Vm.Alike.refl U.vm) q.2.2⟩
theorem preZ_of {D : va_G} {y : Nat → ClassId} {s : State} {wc : va_W} {H : Heap} (hK : KK D y s) (hZ : ZT (va_A wc H.size) s H) (av : List Value) (hP : va_P D vwCl wc H) (hD : va_D (fun _ => True) wc) : ∀ U : State, U.heap = H → s.WarmedH U.vm → va_Pc av (PreZ D y wc H.size) av.toArray U := fun U hU hW => ⟨rfl, ⟨by rw [hU], by rw [hU]; exact hP, ⟨va_K.moved hW.alike hK.1, hK.2.warm hW⟩, hD⟩, by rw [hU]; exact ZT.moved hW.alike hZ⟩
theorem M_iz {l : Launch} {yn : MethodName} {wn wn' : List Cond} {fr lo maxL sz : Nat} {av : List Value} {D : va_G} {y : Nat → ClassId} {ws ws' : va_W} {r : Int32} {cc : ByteArray} {own : String} (hy : plainName yn.cls = true) (hw : wn = .code yn cc maxL (some .int) :: wn') (hown : yn.cls = own) (hle : (lg_sl av).length ≤ maxL)
    (body : ∀ (p : Program) (e : Env) (s : State) (m : MethodId) (args : Array Value) (below : List Frame) (meth : Method) (c : Code) (A : Nat → Prop) (Q : State → Prop), CallFix p m c cc maxL s args wn own → KK D y s → ZT A s s.heap → (∀ q, s.heap.size ≤ q → A q) → ∀ (H : Heap) (locs : List Loc), GG D A s.heap ws H locs →
      (∀ (v : Int32) (H : Heap) (locs : List Loc) (pc : Nat) (ls : Array Slot), v = r → GG D A s.heap ws' H locs → decode cc pc = .ok (.ireturn, 1) → W p l e (RM fr lo) s m args below meth c H locs 0 0 Q (F0 m pc ls [.int v])) →
      ∀ ls, lv_has ls maxL (lv_args 0 av) → W p l e (RM fr lo) s m args below meth c H locs 0 0 Q (F0 m 0 ls [])) : MZ l yn wn fr lo av D y ws sz r ws' := by
  refine Met.ofW (cc := cc) (maxL := maxL) (ret := some .int) hy hw ?_
  intro p e s m args below meth c s₁ B hml hv
  obtain ⟨rfl, ⟨hsz, hP, hK, hD0⟩, hZ⟩ := hv
  have hts := atoms_spec (ws := wn) B.pre
  have hl := lv_entry av (n := maxL) hle
  rw [lg_entry_eq]
  subst hsz
  refine body p e s m _ below meth c (va_A ws s.heap.size) _ ⟨B.exec, B.bytes, hml, by rw [← hown]; exact findClass_of_methodNamed B.named, hts⟩ hK hZ (fun q h => Or.inr h) _ _ ⟨hP, hD0.self, va_S.rf⟩ (fun v H locs pc ls e hG hd => ?_) _ hl
  exact W.iret B.exec B.bytes B.returns (fun t ht hW => ⟨⟨v, (), rfl, e, (show va_P D vwCl ws' t.heap by rw [ht]; exact hG.1)⟩, hG.2.2.F ht⟩) hG.2.2.2.2 hd
set_option maxHeartbeats 4000000 in
set_option maxRecDepth 100000 in
theorem c_X3_set (l : Launch) (D : va_G) (y : Nat → ClassId) (a pa na ta ha : Nat → Nat) (hsb : Nat → Nat → Nat) (sl : Nat) (ssb : Nat → Nat → Nat) (sz : Nat) (Fu : Nat) (q_saved : Ar) (q_runs : Ar) (q_themes : Ar) (q_storyHeats : Ar) (p_characters : Ar) (p_length : Int32) (n_settings : Ar) (n_letters : Ar) (n_heats : Ar) (n_starts : Ar) (n_families : Ar) (n_generations : Ar) (n_tally : Ar) (n_stories : Int32) (n_nextFamily : Int32) (n_splits : Int32) (n_boilings : Int32) (n_fizzles : Int32) (t_settings : Ar) (t_letters : Ar) (t_heats : Ar) (t_starts : Ar) (t_families : Ar) (t_generations : Ar) (t_tally : Ar) (t_stories : Int32) (t_nextFamily : Int32) (t_splits : Int32) (t_boilings : Int32) (t_fizzles : Int32) (h_v : Nat → SV) (h_oldest h_size : Int32) (s_v : Nat → SV) (p1 : Int32) (p2 : Int32) (ro : Int32) (n_settings_o : Ar) (h_v_o : Nat → SV) (h_oldest_o h_size_o : Int32) (hf : f_X3_set Fu n_settings n_letters n_heats n_starts n_families n_generations n_stories n_nextFamily n_splits n_boilings n_fizzles h_v h_oldest h_size p1 p2 = some (ro, n_settings_o, h_v_o, h_oldest_o, h_size_o)) : MZ l yX3_set wsX3_set 4 110 [.ref (a 0), .int p1, .int p2] D y (w_X3 y a pa na ta ha sl q_saved q_runs q_themes q_storyHeats ++ (w_X1 y pa p_characters p_length ++ (w_X2 y na n_settings n_letters n_heats n_starts n_families n_generations n_tally n_stories n_nextFamily n_splits n_boilings n_fizzles ++ (w_X2 y ta t_settings t_letters t_heats t_starts t_families t_generations t_tally t_stories t_nextFamily t_splits t_boilings t_fizzles ++ (w_X0 y ha hsb h_v h_oldest h_size ++ (w_SL y sl ssb s_v)))))) sz ro (w_X3 y a pa na ta ha sl q_saved q_runs q_themes q_storyHeats ++ (w_X1 y pa p_characters p_length ++ (w_X2 y na n_settings_o n_letters n_heats n_starts n_families n_generations n_tally n_stories n_nextFamily n_splits n_boilings n_fizzles ++ (w_X2 y ta t_settings t_letters t_heats t_starts t_families t_generations t_tally t_stories t_nextFamily t_splits t_boilings t_fizzles ++ (w_X0 y ha hsb h_v_o h_oldest_o h_size_o ++ (w_SL y sl ssb s_v)))))) := by
  refine M_iz (cc := cX3_set) (maxL := 4) (own := RX3) (by decide) rfl rfl (Nat.le_of_ble_eq_true rfl) ?_
  intro p e s m args below meth c A Q F hK hZ hA H locs hG hret ls hl
  have hx := F.1
  have hb := F.2.1
  have hl : lv_has ls 4 [(0, .ref (a 0)), (1, .int p1), (2, .int p2)] := hl
  have k0 : ∀ w ∈ wsX30, w ∈ wsX3_set := (fun w h => List.mem_cons_of_mem _ (List.mem_append_left _ (List.mem_append_left _ (List.mem_append_right _ (h)))))
  have k2 : ∀ w ∈ wsX20, w ∈ wsX3_set := (fun w h => List.mem_cons_of_mem _ (List.mem_append_left _ (List.mem_append_right _ (h))))
  obtain ⟨t1, t2, z1, z2, z3, z4⟩ := hZ
  unfold f_X3_set at hf
  refine lv_iload_n hx hb dX3_set_0 rfl (lv_at hl 1 rfl) ?_
  refine lv_iconst (v := nI 0) hx hb dX3_set_1 rfl ?_
  refine lv_iconst (v := nI 2) hx hb dX3_set_2 rfl ?_
  obtain ⟨r1, h2, hf⟩ := bd1_e hf
  refine k_Si F hK hA hG (c_X3_isWithin l D y H.size Fu p1 (nI 0) (nI 2) r1 h2) (va_cwS 3 F.2.2.2.2 gX3_set_X3_isWithin rfl rfl rfl (by decide +kernel) ⟨Nat.le_of_ble_eq_true rfl, Nat.le_of_ble_eq_true rfl⟩) rfl rfl hl.1 (Nat.le_of_ble_eq_true rfl) dX3_set_3 ⟨Nat.le_refl 0, Nat.le_refl 0⟩ (fun H locs hG => ?_)
  refine lv_if_eq (tgt := 26) hx hb dX3_set_6 (by decide) (fun c3 => ?_) (fun c3 => ?_)
  · have hf := it_e c3 hf
    refine lv_bipush (v := -2) hx hb dX3_set_26 rfl ?_
    have hf := so_e hf
    have e0 : (-2) = ro := congrArg (fun z => z.1) hf
    have e1 : n_settings = n_settings_o := congrArg (fun z => z.2.1) hf
    have e2 : h_v = h_v_o := congrArg (fun z => z.2.2.1) hf
    have e3 : h_oldest = h_oldest_o := congrArg (fun z => z.2.2.2.1) hf
    have e4 : h_size = h_size_o := congrArg (fun z => z.2.2.2.2) hf
    exact hret _ _ _ _ _ e0 (by rw [← e1, ← e2, ← e3, ← e4]; exact hG) dX3_set_28
  · have hf := if_e c3 hf
    obtain ⟨g1, hf⟩ := gd_e hf
    refine lv_iload_n hx hb dX3_set_9 rfl (lv_at hl 2 rfl) ?_
    refine va_gets hx hb z1 hG.2.2 F.2.2.2.1 (F.2.2.2.2 (.fieldLink RX3 55 "HeatedStories" "LOWEST" "[I") (List.mem_of_getElem? (i := 1) rfl)) (fun _ h => h) dX3_set_10 ?_
    refine lv_iload_n hx hb dX3_set_13 rfl (lv_at hl 1 rfl) ?_
    refine va_ti hx hb z2 hG.2.2 (ix_in g1) rfl dX3_set_14 ?_
    refine va_gets hx hb z3 hG.2.2 F.2.2.2.1 (F.2.2.2.2 (.fieldLink RX3 58 "HeatedStories" "HIGHEST" "[I") (List.mem_of_getElem? (i := 2) rfl)) (fun _ h => h) dX3_set_15 ?_
    refine lv_iload_n hx hb dX3_set_18 rfl (lv_at hl 1 rfl) ?_
    refine va_ti hx hb z4 hG.2.2 (ix_in g1) rfl dX3_set_19 ?_
    obtain ⟨r2, h4, hf⟩ := bd1_e hf
    refine k_Si F hK hA hG (c_X3_isWithin l D y H.size Fu p2 (if p1.toNatClampNeg = 0 then nI 10 else nI 0) (if p1.toNatClampNeg = 0 then nI 99 else if p1.toNatClampNeg = 1 then nI 4 else nI 20) r2 h4) (va_cwS 3 F.2.2.2.2 gX3_set_X3_isWithin rfl rfl rfl (by decide +kernel) ⟨Nat.le_of_ble_eq_true rfl, Nat.le_of_ble_eq_true rfl⟩) rfl rfl hl.1 (Nat.le_of_ble_eq_true rfl) dX3_set_20 ⟨Nat.le_refl 0, Nat.le_refl 0⟩ (fun H locs hG => ?_)
    refine lv_if_ne (tgt := 29) hx hb dX3_set_23 (by decide) (fun c5 => ?_) (fun c5 => ?_)
    · have hf := if_e c5 hf
      refine lv_aload_n hx hb dX3_set_29 rfl (lv_at hl 0 rfl) ?_
      refine w_get3 F hK hG k0 0 rfl 2 (by decide) (F.2.2.2.2 (.fieldLink RX3 22 "HeatedStories" "history" "LHeatedStories$History;") (List.mem_of_getElem? (i := 3) rfl)) rfl dX3_set_30 ?_
      refine lv_aload_n hx hb dX3_set_33 rfl (lv_at hl 0 rfl) ?_
      refine w_get3 F hK hG k0 0 rfl 0 (by decide) (F.2.2.2.2 (.fieldLink RX3 10 "HeatedStories" "now" "LHeatedStories$Shelf;") (List.mem_of_getElem? (i := 4) rfl)) rfl dX3_set_34 ?_
      obtain ⟨h_v_7, h_oldest_8, h_size_9, h10, hf⟩ := bd3_e hf
      have hG : GG D A s.heap ((w_X0 y ha hsb h_v h_oldest h_size ++ (w_X2 y na n_settings n_letters n_heats n_starts n_families n_generations n_tally n_stories n_nextFamily n_splits n_boilings n_fizzles)) ++ (w_X3 y a pa na ta ha sl q_saved q_runs q_themes q_storyHeats ++ (w_X1 y pa p_characters p_length ++ (w_X2 y ta t_settings t_letters t_heats t_starts t_families t_generations t_tally t_stories t_nextFamily t_splits t_boilings t_fizzles ++ (w_SL y sl ssb s_v))))) H locs := GG.blk (fun k => match k with | 0 => w_X3 y a pa na ta ha sl q_saved q_runs q_themes q_storyHeats | 1 => w_X1 y pa p_characters p_length | 2 => w_X2 y na n_settings n_letters n_heats n_starts n_families n_generations n_tally n_stories n_nextFamily n_splits n_boilings n_fizzles | 3 => w_X2 y ta t_settings t_letters t_heats t_starts t_families t_generations t_tally t_stories t_nextFamily t_splits t_boilings t_fizzles | 4 => w_X0 y ha hsb h_v h_oldest h_size | _ => w_SL y sl ssb s_v) [0, 1, 2, 3, 4, 5] [4, 2, 0, 1, 3, 5] (blkp _ _ rfl) _ _ rfl (List.append_assoc (w_X0 y ha hsb h_v h_oldest h_size) (w_X2 y na n_settings n_letters n_heats n_starts n_families n_generations n_tally n_stories n_nextFamily n_splits n_boilings n_fizzles) (w_X3 y a pa na ta ha sl q_saved q_runs q_themes q_storyHeats ++ (w_X1 y pa p_characters p_length ++ (w_X2 y ta t_settings t_letters t_heats t_starts t_families t_generations t_tally t_stories t_nextFamily t_splits t_boilings t_fizzles ++ (w_SL y sl ssb s_v))))).symm hG
      refine k_Pv F hK hA hG (c_X0_record l D y ha na hsb H.size Fu h_v h_oldest h_size n_settings n_letters n_heats n_starts n_families n_generations n_tally n_stories n_nextFamily n_splits n_boilings n_fizzles h_v_7 h_oldest_8 h_size_9 h10) (cwV 1 F.2.2.2.2 gX3_set_X0_record rfl rfl rfl (by decide +kernel) ⟨Nat.le_of_ble_eq_true rfl, Nat.le_of_ble_eq_true rfl⟩) 0 rfl rfl (adr_app (adr_X0 ..) rfl) rfl rfl hl.1 (Nat.le_of_ble_eq_true rfl) dX3_set_37 ⟨Nat.le_refl 0, Nat.le_refl 0⟩ (fun H locs hG => ?_)
      have hG : GG D A s.heap (w_X3 y a pa na ta ha sl q_saved q_runs q_themes q_storyHeats ++ (w_X1 y pa p_characters p_length ++ (w_X2 y na n_settings n_letters n_heats n_starts n_families n_generations n_tally n_stories n_nextFamily n_splits n_boilings n_fizzles ++ (w_X2 y ta t_settings t_letters t_heats t_starts t_families t_generations t_tally t_stories t_nextFamily t_splits t_boilings t_fizzles ++ (w_X0 y ha hsb h_v_7 h_oldest_8 h_size_9 ++ (w_SL y sl ssb s_v)))))) H locs := GG.blk (fun k => match k with | 0 => w_X3 y a pa na ta ha sl q_saved q_runs q_themes q_storyHeats | 1 => w_X1 y pa p_characters p_length | 2 => w_X2 y na n_settings n_letters n_heats n_starts n_families n_generations n_tally n_stories n_nextFamily n_splits n_boilings n_fizzles | 3 => w_X2 y ta t_settings t_letters t_heats t_starts t_families t_generations t_tally t_stories t_nextFamily t_splits t_boilings t_fizzles | 4 => w_X0 y ha hsb h_v_7 h_oldest_8 h_size_9 | _ => w_SL y sl ssb s_v) [4, 2, 0, 1, 3, 5] [0, 1, 2, 3, 4, 5] (blkp _ _ rfl) _ _ (List.append_assoc (w_X0 y ha hsb h_v_7 h_oldest_8 h_size_9) (w_X2 y na n_settings n_letters n_heats n_starts n_families n_generations n_tally n_stories n_nextFamily n_splits n_boilings n_fizzles) (w_X3 y a pa na ta ha sl q_saved q_runs q_themes q_storyHeats ++ (w_X1 y pa p_characters p_length ++ (w_X2 y ta t_settings t_letters t_heats t_starts t_families t_generations t_tally t_stories t_nextFamily t_splits t_boilings t_fizzles ++ (w_SL y sl ssb s_v))))) rfl hG
      refine lv_aload_n hx hb dX3_set_40 rfl (lv_at hl 0 rfl) ?_
      refine w_get3 F hK hG k0 0 rfl 0 (by decide) (F.2.2.2.2 (.fieldLink RX3 10 "HeatedStories" "now" "LHeatedStories$Shelf;") (List.mem_of_getElem? (i := 4) rfl)) rfl dX3_set_41 ?_
      refine w_get2 F hK hG k2 7 rfl 0 (by decide) (F.2.2.2.2 (.fieldLink RX3 65 "HeatedStories$Shelf" "settings" "[I") (List.mem_of_getElem? (i := 5) rfl)) rfl dX3_set_44 ?_
      refine lv_iload_n hx hb dX3_set_47 rfl (lv_at hl 1 rfl) ?_
      refine w_iald F hK hG 8 rfl g1 dX3_set_48 ?_
      refine lv_istore_n (lv' := [(3, .int (n_settings p1.toNatClampNeg)), (0, .ref (a 0)), (1, .int p1), (2, .int p2)]) hx hb dX3_set_49 rfl hl (by decide) rfl (fun ls hl => ?_)
      refine lv_aload_n hx hb dX3_set_50 rfl (lv_at hl 1 rfl) ?_
      refine w_get3 F hK hG k0 0 rfl 0 (by decide) (F.2.2.2.2 (.fieldLink RX3 10 "HeatedStories" "now" "LHeatedStories$Shelf;") (List.mem_of_getElem? (i := 4) rfl)) rfl dX3_set_51 ?_
      refine w_get2 F hK hG k2 7 rfl 0 (by decide) (F.2.2.2.2 (.fieldLink RX3 65 "HeatedStories$Shelf" "settings" "[I") (List.mem_of_getElem? (i := 5) rfl)) rfl dX3_set_54 ?_
      refine lv_iload_n hx hb dX3_set_57 rfl (lv_at hl 2 rfl) ?_
      refine lv_iload_n hx hb dX3_set_58 rfl (lv_at hl 3 rfl) ?_
      refine w_iast F hK hG 8 rfl g1 (w_X3 y a pa na ta ha sl q_saved q_runs q_themes q_storyHeats ++ (w_X1 y pa p_characters p_length ++ (w_X2 y na (upd n_settings p1.toNatClampNeg p2) n_letters n_heats n_starts n_families n_generations n_tally n_stories n_nextFamily n_splits n_boilings n_fizzles ++ (w_X2 y ta t_settings t_letters t_heats t_starts t_families t_generations t_tally t_stories t_nextFamily t_splits t_boilings t_fizzles ++ (w_X0 y ha hsb h_v_7 h_oldest_8 h_size_9 ++ (w_SL y sl ssb s_v)))))) rfl dX3_set_59 (fun H locs hG => ?_)
      refine lv_iload_n hx hb dX3_set_60 rfl (lv_at hl 0 rfl) ?_
      have hf := so_e hf
      have e0 : n_settings p1.toNatClampNeg = ro := congrArg (fun z => z.1) hf
      have e1 : upd n_settings p1.toNatClampNeg p2 = n_settings_o := congrArg (fun z => z.2.1) hf
      have e2 : h_v_7 = h_v_o := congrArg (fun z => z.2.2.1) hf
      have e3 : h_oldest_8 = h_oldest_o := congrArg (fun z => z.2.2.2.1) hf
      have e4 : h_size_9 = h_size_o := congrArg (fun z => z.2.2.2.2) hf
      exact hret _ _ _ _ _ e0 (by rw [← e1, ← e2, ← e3, ← e4]; exact hG) dX3_set_61
    · have hf := it_e c5 hf
      refine lv_bipush (v := -2) hx hb dX3_set_26 rfl ?_
      have hf := so_e hf
      have e0 : (-2) = ro := congrArg (fun z => z.1) hf
      have e1 : n_settings = n_settings_o := congrArg (fun z => z.2.1) hf
      have e2 : h_v = h_v_o := congrArg (fun z => z.2.2.1) hf
      have e3 : h_oldest = h_oldest_o := congrArg (fun z => z.2.2.2.1) hf
      have e4 : h_size = h_size_o := congrArg (fun z => z.2.2.2.2) hf
      exact hret _ _ _ _ _ e0 (by rw [← e1, ← e2, ← e3, ← e4]; exact hG) dX3_set_28
