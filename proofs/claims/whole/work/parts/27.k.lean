/-! CONSTRUCTORS: tools -/
abbrev RC (fr lo mc ms : Nat) : Room := { frames := fr, cells := mc, slots := ms, locals := lo }
def PreA (D : va_G) (y : Nat → ClassId) (ws : va_W) (sz : Nat) : State → Prop := fun U => Pre1 D y ws sz U ∧ va_AO RX2 U
abbrev MC (l : Launch) (yn : MethodName) (wn : List Cond) (fr lo mc ms : Nat) (b : Nat) (D : va_G) (y : Nat → ClassId) (ws : va_W) (sz : Nat) {U : Type} (post : U → Prop) (Bw : U → va_W) : Prop :=
  Met l yn wn (RC fr lo mc ms) (va_Pc [.ref b] (PreA D y ws sz)) (va_Qv post (fun u t => va_P D vwCl (Bw u) t.heap ∧ va_D (va_A ws sz) (Bw u)) (va_A ws sz)) mc ms (va_A ws sz)
theorem preA_blind {av : List Value} {D : va_G} {y : Nat → ClassId} {ws : va_W} {sz : Nat} : FrameBlind (va_Pc av (PreA D y ws sz)) := fun a U g mk q =>
  ⟨q.1, ⟨q.2.1.1, q.2.1.2.1, ⟨va_K.moved (u := U) (U := U.calling g mk a) (Vm.Alike.refl U.vm) q.2.1.2.2.1.1, NWs.same (u := U) (U := U.calling g mk a) rfl q.2.1.2.2.1.2⟩, q.2.1.2.2.2⟩, va_AO.moved (u := U) (U := U.calling g mk a) (Vm.Alike.refl U.vm) q.2.2⟩
theorem preA_of {D : va_G} {y : Nat → ClassId} {s : State} {wc : va_W} {H : Heap} (hK : KK D y s) (hO : va_AO RX2 s) (av : List Value) (hP : va_P D vwCl wc H) (hD : va_D (fun _ => True) wc) : ∀ U : State, U.heap = H → s.WarmedH U.vm → va_Pc av (PreA D y wc H.size) av.toArray U := fun U hU hW => ⟨rfl, ⟨by rw [hU], by rw [hU]; exact hP, ⟨va_K.moved hW.alike hK.1, hK.2.warm hW⟩, hD⟩, va_AO.moved hW.alike hO⟩
theorem M_c {l : Launch} {yn : MethodName} {wn wn' : List Cond} {fr lo mc ms maxL sz b : Nat} {D : va_G} {y : Nat → ClassId} {ws : va_W} {U : Type} {post : U → Prop} {Bw : U → va_W} {cc : ByteArray} {own : String} (hy : plainName yn.cls = true) (hw : wn = .code yn cc maxL none :: wn') (hown : yn.cls = own) (hle : (lg_sl [.ref b]).length ≤ maxL) (hnm : yn.name = "<init>")
    (body : ∀ (p : Program) (e : Env) (s : State) (m : MethodId) (args : Array Value) (below : List Frame) (meth : Method) (c : Code) (A : Nat → Prop) (Q : State → Prop), CallFix p m c cc maxL s args wn own → KK D y s → va_AO RX2 s → meth.name = "<init>" → (∀ q, s.heap.size ≤ q → A q) → ∀ (H : Heap) (locs : List Loc), GG D A s.heap ws H locs →
      (∀ (u : U) (H : Heap) (locs : List Loc) (pc : Nat) (ls : Array Slot), post u → GG D A s.heap (Bw u) H locs → decode cc pc = .ok (.return_, 1) → W p l e (RC fr lo mc ms) s m args below meth c H locs mc ms Q (F0 m pc ls [])) →
      ∀ ls, lv_has ls maxL (lv_args 0 [.ref b]) → W p l e (RC fr lo mc ms) s m args below meth c H locs 0 0 Q (F0 m 0 ls [])) : MC l yn wn fr lo mc ms b D y ws sz post Bw := by
  refine Met.ofW (cc := cc) (maxL := maxL) (ret := none) hy hw ?_
  intro p e s m args below meth c s₁ B hml hv
  obtain ⟨rfl, ⟨hsz, hP, hK, hD0⟩, hO⟩ := hv
  have hts := atoms_spec (ws := wn) B.pre
  have hl := lv_entry [.ref b] (n := maxL) hle
  have hin : meth.name = "<init>" := (name_of_methodNamed B.named B.method).1.trans hnm
  rw [lg_entry_eq]
  subst hsz
  refine body p e s m _ below meth c (va_A ws s.heap.size) _ ⟨B.exec, B.bytes, hml, by rw [← hown]; exact findClass_of_methodNamed B.named, hts⟩ hK hO hin (fun q h => Or.inr h) _ _ ⟨hP, hD0.self, va_S.rf⟩ (fun u H locs pc ls hu hG hd => ?_) _ hl
  exact W.vret B.exec B.bytes B.returns (fun t ht hW => ⟨⟨u, rfl, hu, by rw [ht]; exact hG.1, hG.2.1⟩, hG.2.2.F ht⟩) hG.2.2.2.2 hd
/-- behind a call over the cells wc that makes new ones -/
theorem GG.callN {D : va_G} {A : Nat → Prop} {H0 H H1 : Heap} {wc wu rst : va_W} {locs locs1 : List Loc} (hG : GG D A H0 (wc ++ rst) H locs) (hA : ∀ q, H0.size ≤ q → A q)
    (hk : ∀ q : Nat, q < H.size → ¬ va_A wc H.size q → H1[q]? = H[q]?) (hP1 : va_P D vwCl wu H1) (hD1 : va_D (va_A wc H.size) wu) (hS1 : va_S A H0 H1 locs1) : GG D A H0 (wu ++ rst) H1 locs1 := by
  have h := va_D.iff.mp hG.2.1
  rw [List.map_append, List.nodup_append] at h
  have h1 := va_D.iff.mp hD1
  have hin := (hG.pre hA).2.2
  have key : ∀ q ∈ rst, ¬ va_A wc H.size q.1 := fun q hq hA => by
    have h3 := (hG.1.mem (List.mem_append_right _ hq)).lt
    rcases hA with ⟨k, e, h4⟩ | h4
    · exact h.1.2.2 q.1 (List.mem_map.mpr ⟨_, List.mem_of_getElem? h4, rfl⟩) q.1 (List.mem_map.mpr ⟨q, hq, rfl⟩) rfl
    · omega
  refine ⟨va_P.of (fun q hq => ?_), va_D.iff.mpr ⟨?_, fun q hq => ?_⟩, hS1⟩
  · rcases List.mem_append.mp hq with a | a
    · exact hP1.mem a
    · have h3 := hG.1.mem (List.mem_append_right wc a)
      exact h3.kept (hk q.1 h3.lt (key q a))
  · rw [List.map_append, List.nodup_append]
    refine ⟨h1.1, h.1.2.1, fun a ha b hb e => ?_⟩
    obtain ⟨q, hq, rfl⟩ := List.mem_map.mp hb
    obtain ⟨u, hu, e2⟩ := List.mem_map.mp ha
    refine key q hq ?_
    rw [← e, ← e2]
    exact h1.2 u hu
  · rcases List.mem_append.mp hq with a | a
    · exact hin _ (h1.2 q a)
    · exact h.2 q (List.mem_append_right _ a)
section CT
variable {p : Program} {l : Launch} {e : Env} {R : Room} {s : State} {m : MethodId} {args : Array Value} {below : List Frame} {meth : Method} {c : Code} {H : Heap} {locs : List Loc} {cells slots : Nat} {Q : State → Prop}
variable {cc : ByteArray} {nL pc : Nat} {ls : Array Slot} {rest : List Value} {Ts : List Cond} {own : String} {D : va_G} {y : Nat → ClassId} {A : Nat → Prop} {H0 : Heap} {ws : va_W}
variable {yn : MethodName} {wn : List Cond} {fr lo mc ms : Nat} {wc rst : va_W} {b : Nat} {bytes : ByteArray} {maxL index : Nat} {st0 : List Value}
theorem k_N (F : CallFix p m c cc nL s args Ts own) (hK : KK D y s) (hO : va_AO RX2 s) (hA : ∀ q, H0.size ≤ q → A q) (hG : GG D A H0 (wc ++ rst) H locs) {U : Type} {post : U → Prop} {Bw : U → va_W}
    (hM : MC l yn wn fr lo mc ms b D y wc H.size post Bw) (cw : CallB R s args own index yn bytes maxL none wn (RC fr lo mc ms) mc ms 0 ∧ yn.name = "<init>" ∧ (Cond.instanceMethod yn).before args s = true)
    (hst : st0 = .ref b :: rest) (hsz : ls.size = nL) (hcat : (rest.map fun v => v.category).sum ≤ 8) (hdg : decode cc pc = .ok (.invokespecial index, 3)) (hf : cells + mc ≤ R.cells ∧ slots + ms ≤ R.slots)
    (kk : ∀ (u : U) (H : Heap) (locs : List Loc), post u → GG D A H0 (Bw u ++ rst) H locs → W p l e R s m args below meth c H locs (cells + mc) (slots + ms) Q (F0 m (pc + 3) ls rest)) : W p l e R s m args below meth c H locs cells slots Q (F0 m pc ls st0) := by
  obtain ⟨hPc, hDc, hFc⟩ := hG.pre hA
  refine va_callv (va_runI (As := []) (rest := rest) F hM cw ⟨preA_blind, preA_of hK hO _ hPc hDc⟩ rfl rfl hsz hst (lv_room hcat) hdg hf) hG.2.2 (fun q _ h => hFc q h) hFc (fun u t H1 locs1 ht hvm hw hB hz hk hS => ?_)
  exact kk u H1 locs1 hw (hG.callN hA hk (ht ▸ hB.1) hB.2 hS)
theorem k_NN (F : CallFix p m c cc nL s args Ts own) (hK : KK D y s) (hO : va_AO RX2 s) (hA : ∀ q, H0.size ≤ q → A q) (hG : GG D A H0 (wc ++ rst) H locs) {U : Type} {post : U → Prop} {Bw : U → va_W} {host : String}
    (hM : MC l yn wn fr lo mc ms b D y wc H.size post Bw) (cw : va_CN R s args own index yn host bytes maxL none wn (RC fr lo mc ms) mc ms 0 ∧ yn.name = "<init>" ∧ (Cond.instanceMethod yn).before args s = true)
    (hst : st0 = .ref b :: rest) (hsz : ls.size = nL) (hcat : (rest.map fun v => v.category).sum ≤ 8) (hdg : decode cc pc = .ok (.invokespecial index, 3)) (hf : cells + mc ≤ R.cells ∧ slots + ms ≤ R.slots)
    (kk : ∀ (u : U) (H : Heap) (locs : List Loc), post u → GG D A H0 (Bw u ++ rst) H locs → W p l e R s m args below meth c H locs (cells + mc) (slots + ms) Q (F0 m (pc + 3) ls rest)) : W p l e R s m args below meth c H locs cells slots Q (F0 m pc ls st0) := by
  obtain ⟨hPc, hDc, hFc⟩ := hG.pre hA
  refine va_callv (va_runIN (As := []) (rest := rest) F hM cw ⟨preA_blind, preA_of hK hO _ hPc hDc⟩ rfl rfl hsz hst (lv_room hcat) hdg hf) hG.2.2 (fun q _ h => hFc q h) hFc (fun u t H1 locs1 ht hvm hw hB hz hk hS => ?_)
  exact kk u H1 locs1 hw (hG.callN hA hk (ht ▸ hB.1) hB.2 hS)
/-- a new object stands first -/
theorem w_new (F : CallFix p m c cc nL s args Ts own) (hK : KK D y s) (hA : ∀ q, H0.size ≤ q → A q) (hG : GG D A H0 ws H locs) {C : String} {T : u_T} {N ci index : Nat} (hin : ∀ w ∈ u_ws C T N, w ∈ Ts) (ty : Nat → FieldType) (hty : ∀ k, k < N → parseFieldDescriptor (T k).2.2.1 = some (ty k)) (hcl : (Cond.classLink own index C).before args s = true) (hinst : (Cond.instantiable C N).before args s = true) (hini : (Cond.initialized C).before args s = true)
    (hc : vwCl[ci]? = some (C, T, N)) {fs : List Value} (hfs : ∀ j, j < N → defaultValue (ty j) = vp_V fs j) (hcells : cells + 1 ≤ R.cells) (hslots : slots + N ≤ R.slots) (hdg : decode cc pc = .ok (.new index, 3))
    (kk : ∀ (q : Nat) (H : Heap) (locs : List Loc), GG D A H0 ([(q, .inr (ci, fs))] ++ ws) H locs → W p l e R s m args below meth c H locs (cells + 1) (slots + N) Q (F0 m (pc + 3) ls (.ref q :: rest))) : W p l e R s m args below meth c H locs cells slots Q (F0 m pc ls rest) :=
  va_new F.1 F.2.1 F.2.2.2.2 hin ty hty F.2.2.2.1 hcl hinst hini hK.1 hG.1 hG.2.1 hG.2.2 hA hc hfs hcells hslots hdg (fun q H1 h1 h2 h3 => kk q H1 locs (GG.perm List.perm_append_comm ⟨h1, h2, h3⟩))
theorem tyL_0 {D : va_G} {y : Nat → ClassId} {s : State} (hK : KK D y s) : s.vm.findClass ("[" ++ FieldType.int.toString) = some (y 0) := (hK.1.2 0 (y 0, .int) rfl).2
theorem tyL_1 {D : va_G} {y : Nat → ClassId} {s : State} (hK : KK D y s) : s.vm.findClass ("[" ++ FieldType.boolean.toString) = some (y 1) := (hK.1.2 1 (y 1, .boolean) rfl).2
theorem tyL_2 {D : va_G} {y : Nat → ClassId} {s : State} (hK : KK D y s) : s.vm.findClass ("[" ++ FieldType.char.toString) = some (y 2) := (hK.1.2 2 (y 2, .char) rfl).2
theorem tyL_3 {D : va_G} {y : Nat → ClassId} {s : State} (hK : KK D y s) : s.vm.findClass ("[" ++ (FieldType.object RX2).toString) = some (y 3) := (hK.1.2 3 (y 3, .object RX2) rfl).2.choose_spec.choose_spec.2.2.2
theorem w_newi (F : CallFix p m c cc nL s args Ts own) (hK : KK D y s) (hA : ∀ q, H0.size ≤ q → A q) (hG : GG D A H0 ws H locs) (N : Nat) (hN : N ≤ 10000) (harr : (Cond.arrayClass .int).before args s = true) (hcells : cells + 1 ≤ R.cells) (hslots : slots + N ≤ R.slots) (hdg : decode cc pc = .ok (.newarray .int, 2))
    (kk : ∀ (q : Nat) (H : Heap) (locs : List Loc), GG D A H0 (ws ++ [(q, .inl (y 0, N, .inl (fun _ => 0)))]) H locs → W p l e R s m args below meth c H locs (cells + 1) (slots + N) Q (F0 m (pc + 2) ls (.ref q :: rest))) : W p l e R s m args below meth c H locs cells slots Q (F0 m pc ls (.int (nI N) :: rest)) := by
  refine va_newa (atype := .int) (ty := .int) (a0 := (N, .inl (fun _ => 0))) F.1 F.2.1 harr rfl hK.1 hG.1 hG.2.1 hG.2.2 hA (fun cA => rfl) (nI_pos (by omega)) (nI_clamp (by omega)) (by show N * 4 ≤ 536870912; omega) hcells hslots hdg (fun q cA H1 h0 h1 h2 h3 => ?_)
  have e : cA = y 0 := Option.some.inj ((h0.2 4 (cA, .int) rfl).2.symm.trans (tyL_0 hK))
  subst e
  exact kk q H1 locs ⟨h1, h2, h3⟩
theorem w_newz (F : CallFix p m c cc nL s args Ts own) (hK : KK D y s) (hA : ∀ q, H0.size ≤ q → A q) (hG : GG D A H0 ws H locs) (N : Nat) (hN : N ≤ 10000) (harr : (Cond.arrayClass .boolean).before args s = true) (hcells : cells + 1 ≤ R.cells) (hslots : slots + N ≤ R.slots) (hdg : decode cc pc = .ok (.newarray .boolean, 2))
    (kk : ∀ (q : Nat) (H : Heap) (locs : List Loc), GG D A H0 (ws ++ [(q, .inl (y 1, N, .inl (fun _ => 0)))]) H locs → W p l e R s m args below meth c H locs (cells + 1) (slots + N) Q (F0 m (pc + 2) ls (.ref q :: rest))) : W p l e R s m args below meth c H locs cells slots Q (F0 m pc ls (.int (nI N) :: rest)) := by
  refine va_newa (atype := .boolean) (ty := .boolean) (a0 := (N, .inl (fun _ => 0))) F.1 F.2.1 harr rfl hK.1 hG.1 hG.2.1 hG.2.2 hA (fun cA => rfl) (nI_pos (by omega)) (nI_clamp (by omega)) (by show N * 1 ≤ 536870912; omega) hcells hslots hdg (fun q cA H1 h0 h1 h2 h3 => ?_)
  have e : cA = y 1 := Option.some.inj ((h0.2 4 (cA, .boolean) rfl).2.symm.trans (tyL_1 hK))
  subst e
  exact kk q H1 locs ⟨h1, h2, h3⟩
theorem w_newc (F : CallFix p m c cc nL s args Ts own) (hK : KK D y s) (hA : ∀ q, H0.size ≤ q → A q) (hG : GG D A H0 ws H locs) (N : Nat) (hN : N ≤ 10000) (harr : (Cond.arrayClass .char).before args s = true) (hcells : cells + 1 ≤ R.cells) (hslots : slots + N ≤ R.slots) (hdg : decode cc pc = .ok (.newarray .char, 2))
    (kk : ∀ (q : Nat) (H : Heap) (locs : List Loc), GG D A H0 (ws ++ [(q, .inl (y 2, N, .inl (fun _ => 0)))]) H locs → W p l e R s m args below meth c H locs (cells + 1) (slots + N) Q (F0 m (pc + 2) ls (.ref q :: rest))) : W p l e R s m args below meth c H locs cells slots Q (F0 m pc ls (.int (nI N) :: rest)) := by
  refine va_newa (atype := .char) (ty := .char) (a0 := (N, .inl (fun _ => 0))) F.1 F.2.1 harr rfl hK.1 hG.1 hG.2.1 hG.2.2 hA (fun cA => rfl) (nI_pos (by omega)) (nI_clamp (by omega)) (by show N * 2 ≤ 536870912; omega) hcells hslots hdg (fun q cA H1 h0 h1 h2 h3 => ?_)
  have e : cA = y 2 := Option.some.inj ((h0.2 4 (cA, .char) rfl).2.symm.trans (tyL_2 hK))
  subst e
  exact kk q H1 locs ⟨h1, h2, h3⟩
theorem w_newq (F : CallFix p m c cc nL s args Ts own) (hK : KK D y s) (hO : va_AO RX2 s) (hA : ∀ q, H0.size ≤ q → A q) (hG : GG D A H0 ws H locs) (N : Nat) (hN : N ≤ 10000) {index : Nat} (hcl : (Cond.classLink own index RX2).before args s = true) (hcells : cells + 1 ≤ R.cells) (hslots : slots + N ≤ R.slots) (hdg : decode cc pc = .ok (.anewarray index, 3))
    (kk : ∀ (q : Nat) (H : Heap) (locs : List Loc), GG D A H0 (ws ++ [(q, .inl (y 3, N, .inr (.inr (.inr (.inr (fun _ => none))))))]) H locs → W p l e R s m args below meth c H locs (cells + 1) (slots + N) Q (F0 m (pc + 3) ls (.ref q :: rest))) : W p l e R s m args below meth c H locs cells slots Q (F0 m pc ls (.int (nI N) :: rest)) := by
  refine va_newq (C := RX2) F.1 F.2.1 F.2.2.2.1 hcl hO hK.1 hG.1 hG.2.1 hG.2.2 hA (nI_pos (by omega)) (nI_clamp (by omega)) (by omega) hcells hslots hdg (fun q cA H1 h0 h1 h2 h3 => ?_)
  have e : cA = y 3 := Option.some.inj ((h0.2 4 (cA, .object RX2) rfl).2.choose_spec.choose_spec.2.2.2.symm.trans (tyL_3 hK))
  subst e
  exact kk q H1 locs ⟨h1, h2, h3⟩
theorem w_putF0 (F : CallFix p m c cc nL s args Ts own) (hK : KK D y s) (hG : GG D A H0 ws H locs) (hin : ∀ w ∈ wsX00, w ∈ Ts) (q0 : Nat) {a : Nat} {fs : List Value} (he : ws[q0]? = some (a, .inr (0, fs))) (k : Nat) (hk : k < 3) {index : Nat} (hlink : (Cond.fieldLink own index (TX0 k).1 (TX0 k).2.1 (TX0 k).2.2.1).before args s = true) (hfin : (TX0 k).2.2.2 = true) (hin2 : meth.name = "<init>") (hdecl : (TX0 k).1 = own) {v : Value} (hn : narrow (tyX0 k) v = v) (hfit : fits (tyX0 k) v = true) (hl : k < fs.length) (ws2 : va_W) (hw : ws.set q0 (a, .inr (0, fs.set k v)) = ws2) (hdg : decode cc pc = .ok (.putfield index, 3)) (kk : ∀ (H : Heap) (locs : List Loc), GG D A H0 ws2 H locs → W p l e R s m args below meth c H locs cells slots Q (F0 m (pc + 3) ls rest)) : W p l e R s m args below meth c H locs cells slots Q (F0 m pc ls (v :: .ref a :: rest)) :=
  va_putF (C := RX0) (T := TX0) (N := 3) F.1 F.2.1 F.2.2.2.2 hin tyX0 tyX0_ok nmX0 F.2.2.2.1 hK.1 hG.1 hG.2.1 hG.2.2 q0 he rfl k hk hlink (fun _ h => h) hfin hin2 hdecl (tyX0_ok k hk) hn hfit hl hdg (fun H1 l1 h1 h2 h3 => kk H1 l1 (by rw [← hw]; exact ⟨h1, h2, h3⟩))
theorem w_putF1 (F : CallFix p m c cc nL s args Ts own) (hK : KK D y s) (hG : GG D A H0 ws H locs) (hin : ∀ w ∈ wsX10, w ∈ Ts) (q0 : Nat) {a : Nat} {fs : List Value} (he : ws[q0]? = some (a, .inr (1, fs))) (k : Nat) (hk : k < 2) {index : Nat} (hlink : (Cond.fieldLink own index (TX1 k).1 (TX1 k).2.1 (TX1 k).2.2.1).before args s = true) (hfin : (TX1 k).2.2.2 = true) (hin2 : meth.name = "<init>") (hdecl : (TX1 k).1 = own) {v : Value} (hn : narrow (tyX1 k) v = v) (hfit : fits (tyX1 k) v = true) (hl : k < fs.length) (ws2 : va_W) (hw : ws.set q0 (a, .inr (1, fs.set k v)) = ws2) (hdg : decode cc pc = .ok (.putfield index, 3)) (kk : ∀ (H : Heap) (locs : List Loc), GG D A H0 ws2 H locs → W p l e R s m args below meth c H locs cells slots Q (F0 m (pc + 3) ls rest)) : W p l e R s m args below meth c H locs cells slots Q (F0 m pc ls (v :: .ref a :: rest)) :=
  va_putF (C := RX1) (T := TX1) (N := 2) F.1 F.2.1 F.2.2.2.2 hin tyX1 tyX1_ok nmX1 F.2.2.2.1 hK.1 hG.1 hG.2.1 hG.2.2 q0 he rfl k hk hlink (fun _ h => h) hfin hin2 hdecl (tyX1_ok k hk) hn hfit hl hdg (fun H1 l1 h1 h2 h3 => kk H1 l1 (by rw [← hw]; exact ⟨h1, h2, h3⟩))
theorem w_putF2 (F : CallFix p m c cc nL s args Ts own) (hK : KK D y s) (hG : GG D A H0 ws H locs) (hin : ∀ w ∈ wsX20, w ∈ Ts) (q0 : Nat) {a : Nat} {fs : List Value} (he : ws[q0]? = some (a, .inr (2, fs))) (k : Nat) (hk : k < 12) {index : Nat} (hlink : (Cond.fieldLink own index (TX2 k).1 (TX2 k).2.1 (TX2 k).2.2.1).before args s = true) (hfin : (TX2 k).2.2.2 = true) (hin2 : meth.name = "<init>") (hdecl : (TX2 k).1 = own) {v : Value} (hn : narrow (tyX2 k) v = v) (hfit : fits (tyX2 k) v = true) (hl : k < fs.length) (ws2 : va_W) (hw : ws.set q0 (a, .inr (2, fs.set k v)) = ws2) (hdg : decode cc pc = .ok (.putfield index, 3)) (kk : ∀ (H : Heap) (locs : List Loc), GG D A H0 ws2 H locs → W p l e R s m args below meth c H locs cells slots Q (F0 m (pc + 3) ls rest)) : W p l e R s m args below meth c H locs cells slots Q (F0 m pc ls (v :: .ref a :: rest)) :=
  va_putF (C := RX2) (T := TX2) (N := 12) F.1 F.2.1 F.2.2.2.2 hin tyX2 tyX2_ok nmX2 F.2.2.2.1 hK.1 hG.1 hG.2.1 hG.2.2 q0 he rfl k hk hlink (fun _ h => h) hfin hin2 hdecl (tyX2_ok k hk) hn hfit hl hdg (fun H1 l1 h1 h2 h3 => kk H1 l1 (by rw [← hw]; exact ⟨h1, h2, h3⟩))
theorem w_putF3 (F : CallFix p m c cc nL s args Ts own) (hK : KK D y s) (hG : GG D A H0 ws H locs) (hin : ∀ w ∈ wsX30, w ∈ Ts) (q0 : Nat) {a : Nat} {fs : List Value} (he : ws[q0]? = some (a, .inr (3, fs))) (k : Nat) (hk : k < 9) {index : Nat} (hlink : (Cond.fieldLink own index (TX3 k).1 (TX3 k).2.1 (TX3 k).2.2.1).before args s = true) (hfin : (TX3 k).2.2.2 = true) (hin2 : meth.name = "<init>") (hdecl : (TX3 k).1 = own) {v : Value} (hn : narrow (tyX3 k) v = v) (hfit : fits (tyX3 k) v = true) (hl : k < fs.length) (ws2 : va_W) (hw : ws.set q0 (a, .inr (3, fs.set k v)) = ws2) (hdg : decode cc pc = .ok (.putfield index, 3)) (kk : ∀ (H : Heap) (locs : List Loc), GG D A H0 ws2 H locs → W p l e R s m args below meth c H locs cells slots Q (F0 m (pc + 3) ls rest)) : W p l e R s m args below meth c H locs cells slots Q (F0 m pc ls (v :: .ref a :: rest)) :=
  va_putF (C := RX3) (T := TX3) (N := 9) F.1 F.2.1 F.2.2.2.2 hin tyX3 tyX3_ok nmX3 F.2.2.2.1 hK.1 hG.1 hG.2.1 hG.2.2 q0 he rfl k hk hlink (fun _ h => h) hfin hin2 hdecl (tyX3_ok k hk) hn hfit hl hdg (fun H1 l1 h1 h2 h3 => kk H1 l1 (by rw [← hw]; exact ⟨h1, h2, h3⟩))
theorem w_putF4 (F : CallFix p m c cc nL s args Ts own) (hK : KK D y s) (hG : GG D A H0 ws H locs) (hin : ∀ w ∈ wsX40, w ∈ Ts) (q0 : Nat) {a : Nat} {fs : List Value} (he : ws[q0]? = some (a, .inr (4, fs))) (k : Nat) (hk : k < 21) {index : Nat} (hlink : (Cond.fieldLink own index (TX4 k).1 (TX4 k).2.1 (TX4 k).2.2.1).before args s = true) (hfin : (TX4 k).2.2.2 = true) (hin2 : meth.name = "<init>") (hdecl : (TX4 k).1 = own) {v : Value} (hn : narrow (tyX4 k) v = v) (hfit : fits (tyX4 k) v = true) (hl : k < fs.length) (ws2 : va_W) (hw : ws.set q0 (a, .inr (4, fs.set k v)) = ws2) (hdg : decode cc pc = .ok (.putfield index, 3)) (kk : ∀ (H : Heap) (locs : List Loc), GG D A H0 ws2 H locs → W p l e R s m args below meth c H locs cells slots Q (F0 m (pc + 3) ls rest)) : W p l e R s m args below meth c H locs cells slots Q (F0 m pc ls (v :: .ref a :: rest)) :=
  va_putF (C := RX4) (T := TX4) (N := 21) F.1 F.2.1 F.2.2.2.2 hin tyX4 tyX4_ok nmX4 F.2.2.2.1 hK.1 hG.1 hG.2.1 hG.2.2 q0 he rfl k hk hlink (fun _ h => h) hfin hin2 hdecl (tyX4_ok k hk) hn hfit hl hdg (fun H1 l1 h1 h2 h3 => kk H1 l1 (by rw [← hw]; exact ⟨h1, h2, h3⟩))
end CT
/-- what a new shelf's settings are -/
def se0 : Ar := upd (upd (upd (fun _ => 0) 0 (nI 20)) 1 (nI 3)) 2 (nI 2)
def zA : Ar := fun _ => 0
def sv0 : SV := mkSV se0 zA zA zA zA zA zA 0 0 0 0 0
def adL (q : List Nat) : Nat → Nat := fun k => q.getD k 0
set_option maxHeartbeats 4000000 in
set_option maxRecDepth 100000 in
theorem c_X1_init (l : Launch) (D : va_G) (y : Nat → ClassId) (a0 sz : Nat) : MC l yX1_init wsX1_init 1 12 1 60 a0 D y [(a0, .inr (1, [.null, .int 0]))] sz (fun a : Nat → Nat => a 0 = a0) (fun a => w_X1 y a zA 0) := by
  refine M_c (cc := cX1_init) (maxL := 1) (own := RX1) (by decide) rfl rfl (Nat.le_of_ble_eq_true rfl) rfl ?_
  intro p e s m args below meth c A Q F hK hO hnm hA H locs hG hret ls hl
  have hx := F.1
  have hb := F.2.1
  have hl : lv_has ls 1 [(0, .ref a0)] := hl
  have h0 : ∀ w ∈ wsX10, w ∈ wsX1_init := (fun w h => List.mem_cons_of_mem _ (List.mem_append_right _ (h)))
  refine lv_aload_n hx hb dX1_init_0 rfl (lv_at hl 0 rfl) ?_
  refine W.objInit hx hb F.2.2.2.1 (F.2.2.2.2 (.methodLink RX1 3 objectInit) (List.mem_of_getElem? (i := 1) rfl)) (F.2.2.2.2 (.instanceMethod objectInit) (List.mem_of_getElem? (i := 2) rfl)) (F.2.2.2.2 (.code objectInit ⟨#[0xb1]⟩ 1 none) (List.mem_of_getElem? (i := 3) rfl)) rfl (by rw [F.2.2.1]; exact hl.1) rfl dX1_init_1 (Nat.le_of_ble_eq_true rfl) (Nat.le_of_ble_eq_true rfl) ?_
  refine W.eq (g2 := F0 m 4 ls []) rfl ?_
  refine lv_aload_n hx hb dX1_init_4 rfl (lv_at hl 0 rfl) ?_
  refine lv_bipush (v := nI 60) hx hb dX1_init_5 rfl ?_
  refine w_newc F hK hA hG 60 (by omega) (F.2.2.2.2 (.arrayClass .char) (List.mem_of_getElem? (i := 4) rfl)) (Nat.le_of_ble_eq_true rfl) (Nat.le_of_ble_eq_true rfl) dX1_init_7 (fun q1 H locs hG => ?_)
  refine W.widen (k := 1) (n := 60) (Nat.le_of_ble_eq_true rfl) (Nat.le_of_ble_eq_true rfl) ?_
  have hG : GG D A s.heap [(a0, .inr (1, [.null, .int 0])), (q1, .inl (y 2, 60, .inl zA))] H locs := hG
  refine w_putF1 F hK hG h0 0 rfl 0 (by decide) (F.2.2.2.2 (.fieldLink RX1 11 "HeatedStories$Pad" "characters" "[C") (List.mem_of_getElem? (i := 5) rfl)) rfl hnm rfl rfl rfl (Nat.le_of_ble_eq_true rfl) ([(a0, .inr (1, [.ref q1, .int 0])), (q1, .inl (y 2, 60, .inl zA))]) rfl dX1_init_9 (fun H locs hG => ?_)
  exact hret (adL [a0, q1]) H locs 12 ls rfl hG dX1_init_12
set_option maxHeartbeats 4000000 in
set_option maxRecDepth 100000 in
theorem c_X2_init (l : Launch) (D : va_G) (y : Nat → ClassId) (a0 sz : Nat) : MC l yX2_init wsX2_init 1 12 7 366 a0 D y [(a0, .inr (2, [.null, .null, .null, .null, .null, .null, .null, .int 0, .int 0, .int 0, .int 0, .int 0]))] sz (fun a : Nat → Nat => a 0 = a0) (fun a => w_X2 y a se0 zA zA zA zA zA zA 0 0 0 0 0) := by
  refine M_c (cc := cX2_init) (maxL := 1) (own := RX2) (by decide) rfl rfl (Nat.le_of_ble_eq_true rfl) rfl ?_
  intro p e s m args below meth c A Q F hK hO hnm hA H locs hG hret ls hl
  have hx := F.1
  have hb := F.2.1
  have hl : lv_has ls 1 [(0, .ref a0)] := hl
  have h0 : ∀ w ∈ wsX20, w ∈ wsX2_init := (fun w h => List.mem_cons_of_mem _ (List.mem_append_right _ (h)))
  refine lv_aload_n hx hb dX2_init_0 rfl (lv_at hl 0 rfl) ?_
  refine W.objInit hx hb F.2.2.2.1 (F.2.2.2.2 (.methodLink RX2 3 objectInit) (List.mem_of_getElem? (i := 1) rfl)) (F.2.2.2.2 (.instanceMethod objectInit) (List.mem_of_getElem? (i := 2) rfl)) (F.2.2.2.2 (.code objectInit ⟨#[0xb1]⟩ 1 none) (List.mem_of_getElem? (i := 3) rfl)) rfl (by rw [F.2.2.1]; exact hl.1) rfl dX2_init_1 (Nat.le_of_ble_eq_true rfl) (Nat.le_of_ble_eq_true rfl) ?_
  refine W.eq (g2 := F0 m 4 ls []) rfl ?_
  refine lv_aload_n hx hb dX2_init_4 rfl (lv_at hl 0 rfl) ?_
  refine lv_iconst (v := nI 3) hx hb dX2_init_5 rfl ?_
  refine w_newi F hK hA hG 3 (by omega) (F.2.2.2.2 (.arrayClass .int) (List.mem_of_getElem? (i := 4) rfl)) (Nat.le_of_ble_eq_true rfl) (Nat.le_of_ble_eq_true rfl) dX2_init_6 (fun q1 H locs hG => ?_)
  refine W.widen (k := 1) (n := 3) (Nat.le_of_ble_eq_true rfl) (Nat.le_of_ble_eq_true rfl) ?_
  have hG : GG D A s.heap [(a0, .inr (2, [.null, .null, .null, .null, .null, .null, .null, .int 0, .int 0, .int 0, .int 0, .int 0])), (q1, .inl (y 0, 3, .inl zA))] H locs := hG
  refine lv_dup hx hb dX2_init_8 rfl ?_
  refine lv_iconst (v := nI 0) hx hb dX2_init_9 rfl ?_
  refine lv_bipush (v := nI 20) hx hb dX2_init_10 rfl ?_
  refine w_iast F hK hG 1 rfl (ix_nI (by omega) (by omega)) ([(a0, .inr (2, [.null, .null, .null, .null, .null, .null, .null, .int 0, .int 0, .int 0, .int 0, .int 0])), (q1, .inl (y 0, 3, .inl (upd zA (nI 0).toNatClampNeg (nI 20))))]) rfl dX2_init_12 (fun H locs hG => ?_)
  have hG : GG D A s.heap [(a0, .inr (2, [.null, .null, .null, .null, .null, .null, .null, .int 0, .int 0, .int 0, .int 0, .int 0])), (q1, .inl (y 0, 3, .inl (upd zA 0 (nI 20))))] H locs := hG
  refine lv_dup hx hb dX2_init_13 rfl ?_
  refine lv_iconst (v := nI 1) hx hb dX2_init_14 rfl ?_
  refine lv_iconst (v := nI 3) hx hb dX2_init_15 rfl ?_
  refine w_iast F hK hG 1 rfl (ix_nI (by omega) (by omega)) ([(a0, .inr (2, [.null, .null, .null, .null, .null, .null, .null, .int 0, .int 0, .int 0, .int 0, .int 0])), (q1, .inl (y 0, 3, .inl (upd (upd zA 0 (nI 20)) (nI 1).toNatClampNeg (nI 3))))]) rfl dX2_init_16 (fun H locs hG => ?_)
  have hG : GG D A s.heap [(a0, .inr (2, [.null, .null, .null, .null, .null, .null, .null, .int 0, .int 0, .int 0, .int 0, .int 0])), (q1, .inl (y 0, 3, .inl (upd (upd zA 0 (nI 20)) 1 (nI 3))))] H locs := hG
  refine lv_dup hx hb dX2_init_17 rfl ?_
  refine lv_iconst (v := nI 2) hx hb dX2_init_18 rfl ?_
  refine lv_iconst (v := nI 2) hx hb dX2_init_19 rfl ?_
  refine w_iast F hK hG 1 rfl (ix_nI (by omega) (by omega)) ([(a0, .inr (2, [.null, .null, .null, .null, .null, .null, .null, .int 0, .int 0, .int 0, .int 0, .int 0])), (q1, .inl (y 0, 3, .inl (upd (upd (upd zA 0 (nI 20)) 1 (nI 3)) (nI 2).toNatClampNeg (nI 2))))]) rfl dX2_init_20 (fun H locs hG => ?_)
  have hG : GG D A s.heap [(a0, .inr (2, [.null, .null, .null, .null, .null, .null, .null, .int 0, .int 0, .int 0, .int 0, .int 0])), (q1, .inl (y 0, 3, .inl (upd (upd (upd zA 0 (nI 20)) 1 (nI 3)) 2 (nI 2))))] H locs := hG
  refine w_putF2 F hK hG h0 0 rfl 0 (by decide) (F.2.2.2.2 (.fieldLink RX2 9 "HeatedStories$Shelf" "settings" "[I") (List.mem_of_getElem? (i := 5) rfl)) rfl hnm rfl rfl rfl (Nat.le_of_ble_eq_true rfl) ([(a0, .inr (2, [.ref q1, .null, .null, .null, .null, .null, .null, .int 0, .int 0, .int 0, .int 0, .int 0])), (q1, .inl (y 0, 3, .inl (upd (upd (upd zA 0 (nI 20)) 1 (nI 3)) 2 (nI 2))))]) rfl dX2_init_21 (fun H locs hG => ?_)
  refine lv_aload_n hx hb dX2_init_24 rfl (lv_at hl 0 rfl) ?_
  refine lv_sipush (v := nI 150) hx hb dX2_init_25 rfl ?_
  refine w_newi F hK hA hG 150 (by omega) (F.2.2.2.2 (.arrayClass .int) (List.mem_of_getElem? (i := 4) rfl)) (Nat.le_of_ble_eq_true rfl) (Nat.le_of_ble_eq_true rfl) dX2_init_28 (fun q2 H locs hG => ?_)
  refine W.widen (k := 2) (n := 153) (Nat.le_of_ble_eq_true rfl) (Nat.le_of_ble_eq_true rfl) ?_
  have hG : GG D A s.heap [(a0, .inr (2, [.ref q1, .null, .null, .null, .null, .null, .null, .int 0, .int 0, .int 0, .int 0, .int 0])), (q1, .inl (y 0, 3, .inl (upd (upd (upd zA 0 (nI 20)) 1 (nI 3)) 2 (nI 2)))), (q2, .inl (y 0, 150, .inl zA))] H locs := hG
  refine w_putF2 F hK hG h0 0 rfl 1 (by decide) (F.2.2.2.2 (.fieldLink RX2 15 "HeatedStories$Shelf" "letters" "[I") (List.mem_of_getElem? (i := 6) rfl)) rfl hnm rfl rfl rfl (Nat.le_of_ble_eq_true rfl) ([(a0, .inr (2, [.ref q1, .ref q2, .null, .null, .null, .null, .null, .int 0, .int 0, .int 0, .int 0, .int 0])), (q1, .inl (y 0, 3, .inl (upd (upd (upd zA 0 (nI 20)) 1 (nI 3)) 2 (nI 2)))), (q2, .inl (y 0, 150, .inl zA))]) rfl dX2_init_30 (fun H locs hG => ?_)
  refine lv_aload_n hx hb dX2_init_33 rfl (lv_at hl 0 rfl) ?_
  refine lv_sipush (v := nI 150) hx hb dX2_init_34 rfl ?_
  refine w_newi F hK hA hG 150 (by omega) (F.2.2.2.2 (.arrayClass .int) (List.mem_of_getElem? (i := 4) rfl)) (Nat.le_of_ble_eq_true rfl) (Nat.le_of_ble_eq_true rfl) dX2_init_37 (fun q3 H locs hG => ?_)
  refine W.widen (k := 3) (n := 303) (Nat.le_of_ble_eq_true rfl) (Nat.le_of_ble_eq_true rfl) ?_
  have hG : GG D A s.heap [(a0, .inr (2, [.ref q1, .ref q2, .null, .null, .null, .null, .null, .int 0, .int 0, .int 0, .int 0, .int 0])), (q1, .inl (y 0, 3, .inl (upd (upd (upd zA 0 (nI 20)) 1 (nI 3)) 2 (nI 2)))), (q2, .inl (y 0, 150, .inl zA)), (q3, .inl (y 0, 150, .inl zA))] H locs := hG
  refine w_putF2 F hK hG h0 0 rfl 2 (by decide) (F.2.2.2.2 (.fieldLink RX2 18 "HeatedStories$Shelf" "heats" "[I") (List.mem_of_getElem? (i := 7) rfl)) rfl hnm rfl rfl rfl (Nat.le_of_ble_eq_true rfl) ([(a0, .inr (2, [.ref q1, .ref q2, .ref q3, .null, .null, .null, .null, .int 0, .int 0, .int 0, .int 0, .int 0])), (q1, .inl (y 0, 3, .inl (upd (upd (upd zA 0 (nI 20)) 1 (nI 3)) 2 (nI 2)))), (q2, .inl (y 0, 150, .inl zA)), (q3, .inl (y 0, 150, .inl zA))]) rfl dX2_init_39 (fun H locs hG => ?_)
  refine lv_aload_n hx hb dX2_init_42 rfl (lv_at hl 0 rfl) ?_
  refine lv_bipush (v := nI 13) hx hb dX2_init_43 rfl ?_
  refine w_newi F hK hA hG 13 (by omega) (F.2.2.2.2 (.arrayClass .int) (List.mem_of_getElem? (i := 4) rfl)) (Nat.le_of_ble_eq_true rfl) (Nat.le_of_ble_eq_true rfl) dX2_init_45 (fun q4 H locs hG => ?_)
  refine W.widen (k := 4) (n := 316) (Nat.le_of_ble_eq_true rfl) (Nat.le_of_ble_eq_true rfl) ?_
  have hG : GG D A s.heap [(a0, .inr (2, [.ref q1, .ref q2, .ref q3, .null, .null, .null, .null, .int 0, .int 0, .int 0, .int 0, .int 0])), (q1, .inl (y 0, 3, .inl (upd (upd (upd zA 0 (nI 20)) 1 (nI 3)) 2 (nI 2)))), (q2, .inl (y 0, 150, .inl zA)), (q3, .inl (y 0, 150, .inl zA)), (q4, .inl (y 0, 13, .inl zA))] H locs := hG
  refine w_putF2 F hK hG h0 0 rfl 3 (by decide) (F.2.2.2.2 (.fieldLink RX2 21 "HeatedStories$Shelf" "starts" "[I") (List.mem_of_getElem? (i := 8) rfl)) rfl hnm rfl rfl rfl (Nat.le_of_ble_eq_true rfl) ([(a0, .inr (2, [.ref q1, .ref q2, .ref q3, .ref q4, .null, .null, .null, .int 0, .int 0, .int 0, .int 0, .int 0])), (q1, .inl (y 0, 3, .inl (upd (upd (upd zA 0 (nI 20)) 1 (nI 3)) 2 (nI 2)))), (q2, .inl (y 0, 150, .inl zA)), (q3, .inl (y 0, 150, .inl zA)), (q4, .inl (y 0, 13, .inl zA))]) rfl dX2_init_47 (fun H locs hG => ?_)
  refine lv_aload_n hx hb dX2_init_50 rfl (lv_at hl 0 rfl) ?_
  refine lv_bipush (v := nI 12) hx hb dX2_init_51 rfl ?_
  refine w_newi F hK hA hG 12 (by omega) (F.2.2.2.2 (.arrayClass .int) (List.mem_of_getElem? (i := 4) rfl)) (Nat.le_of_ble_eq_true rfl) (Nat.le_of_ble_eq_true rfl) dX2_init_53 (fun q5 H locs hG => ?_)
  refine W.widen (k := 5) (n := 328) (Nat.le_of_ble_eq_true rfl) (Nat.le_of_ble_eq_true rfl) ?_
  have hG : GG D A s.heap [(a0, .inr (2, [.ref q1, .ref q2, .ref q3, .ref q4, .null, .null, .null, .int 0, .int 0, .int 0, .int 0, .int 0])), (q1, .inl (y 0, 3, .inl (upd (upd (upd zA 0 (nI 20)) 1 (nI 3)) 2 (nI 2)))), (q2, .inl (y 0, 150, .inl zA)), (q3, .inl (y 0, 150, .inl zA)), (q4, .inl (y 0, 13, .inl zA)), (q5, .inl (y 0, 12, .inl zA))] H locs := hG
  refine w_putF2 F hK hG h0 0 rfl 4 (by decide) (F.2.2.2.2 (.fieldLink RX2 24 "HeatedStories$Shelf" "families" "[I") (List.mem_of_getElem? (i := 9) rfl)) rfl hnm rfl rfl rfl (Nat.le_of_ble_eq_true rfl) ([(a0, .inr (2, [.ref q1, .ref q2, .ref q3, .ref q4, .ref q5, .null, .null, .int 0, .int 0, .int 0, .int 0, .int 0])), (q1, .inl (y 0, 3, .inl (upd (upd (upd zA 0 (nI 20)) 1 (nI 3)) 2 (nI 2)))), (q2, .inl (y 0, 150, .inl zA)), (q3, .inl (y 0, 150, .inl zA)), (q4, .inl (y 0, 13, .inl zA)), (q5, .inl (y 0, 12, .inl zA))]) rfl dX2_init_55 (fun H locs hG => ?_)
  refine lv_aload_n hx hb dX2_init_58 rfl (lv_at hl 0 rfl) ?_
  refine lv_bipush (v := nI 12) hx hb dX2_init_59 rfl ?_
  refine w_newi F hK hA hG 12 (by omega) (F.2.2.2.2 (.arrayClass .int) (List.mem_of_getElem? (i := 4) rfl)) (Nat.le_of_ble_eq_true rfl) (Nat.le_of_ble_eq_true rfl) dX2_init_61 (fun q6 H locs hG => ?_)
  refine W.widen (k := 6) (n := 340) (Nat.le_of_ble_eq_true rfl) (Nat.le_of_ble_eq_true rfl) ?_
  have hG : GG D A s.heap [(a0, .inr (2, [.ref q1, .ref q2, .ref q3, .ref q4, .ref q5, .null, .null, .int 0, .int 0, .int 0, .int 0, .int 0])), (q1, .inl (y 0, 3, .inl (upd (upd (upd zA 0 (nI 20)) 1 (nI 3)) 2 (nI 2)))), (q2, .inl (y 0, 150, .inl zA)), (q3, .inl (y 0, 150, .inl zA)), (q4, .inl (y 0, 13, .inl zA)), (q5, .inl (y 0, 12, .inl zA)), (q6, .inl (y 0, 12, .inl zA))] H locs := hG
  refine w_putF2 F hK hG h0 0 rfl 5 (by decide) (F.2.2.2.2 (.fieldLink RX2 27 "HeatedStories$Shelf" "generations" "[I") (List.mem_of_getElem? (i := 10) rfl)) rfl hnm rfl rfl rfl (Nat.le_of_ble_eq_true rfl) ([(a0, .inr (2, [.ref q1, .ref q2, .ref q3, .ref q4, .ref q5, .ref q6, .null, .int 0, .int 0, .int 0, .int 0, .int 0])), (q1, .inl (y 0, 3, .inl (upd (upd (upd zA 0 (nI 20)) 1 (nI 3)) 2 (nI 2)))), (q2, .inl (y 0, 150, .inl zA)), (q3, .inl (y 0, 150, .inl zA)), (q4, .inl (y 0, 13, .inl zA)), (q5, .inl (y 0, 12, .inl zA)), (q6, .inl (y 0, 12, .inl zA))]) rfl dX2_init_63 (fun H locs hG => ?_)
  refine lv_aload_n hx hb dX2_init_66 rfl (lv_at hl 0 rfl) ?_
  refine lv_bipush (v := nI 26) hx hb dX2_init_67 rfl ?_
  refine w_newi F hK hA hG 26 (by omega) (F.2.2.2.2 (.arrayClass .int) (List.mem_of_getElem? (i := 4) rfl)) (Nat.le_of_ble_eq_true rfl) (Nat.le_of_ble_eq_true rfl) dX2_init_69 (fun q7 H locs hG => ?_)
  refine W.widen (k := 7) (n := 366) (Nat.le_of_ble_eq_true rfl) (Nat.le_of_ble_eq_true rfl) ?_
  have hG : GG D A s.heap [(a0, .inr (2, [.ref q1, .ref q2, .ref q3, .ref q4, .ref q5, .ref q6, .null, .int 0, .int 0, .int 0, .int 0, .int 0])), (q1, .inl (y 0, 3, .inl (upd (upd (upd zA 0 (nI 20)) 1 (nI 3)) 2 (nI 2)))), (q2, .inl (y 0, 150, .inl zA)), (q3, .inl (y 0, 150, .inl zA)), (q4, .inl (y 0, 13, .inl zA)), (q5, .inl (y 0, 12, .inl zA)), (q6, .inl (y 0, 12, .inl zA)), (q7, .inl (y 0, 26, .inl zA))] H locs := hG
  refine w_putF2 F hK hG h0 0 rfl 6 (by decide) (F.2.2.2.2 (.fieldLink RX2 30 "HeatedStories$Shelf" "tally" "[I") (List.mem_of_getElem? (i := 11) rfl)) rfl hnm rfl rfl rfl (Nat.le_of_ble_eq_true rfl) ([(a0, .inr (2, [.ref q1, .ref q2, .ref q3, .ref q4, .ref q5, .ref q6, .ref q7, .int 0, .int 0, .int 0, .int 0, .int 0])), (q1, .inl (y 0, 3, .inl (upd (upd (upd zA 0 (nI 20)) 1 (nI 3)) 2 (nI 2)))), (q2, .inl (y 0, 150, .inl zA)), (q3, .inl (y 0, 150, .inl zA)), (q4, .inl (y 0, 13, .inl zA)), (q5, .inl (y 0, 12, .inl zA)), (q6, .inl (y 0, 12, .inl zA)), (q7, .inl (y 0, 26, .inl zA))]) rfl dX2_init_71 (fun H locs hG => ?_)
  exact hret (adL [a0, q1, q2, q3, q4, q5, q6, q7]) H locs 74 ls rfl hG dX2_init_74
set_option maxHeartbeats 4000000 in
set_option maxRecDepth 100000 in
theorem c_X4_init (l : Launch) (D : va_G) (y : Nat → ClassId) (a0 sz : Nat) : MC l yX4_init wsX4_init 1 12 11 3995 a0 D y [(a0, .inr (4, [.null, .null, .null, .int 0, .null, .null, .null, .int 0, .null, .null, .int 0, .int 0, .int 0, .int 0, .int 0, .int 0, .null, .null, .null, .int 0, .int 0]))] sz (fun a : Nat → Nat => a 0 = a0) (fun a => w_X4 y a se0 zA zA 0 zA zA zA 0 zA zA 0 0 0 0 0 0 zA zA zA 0 0) := by
  refine M_c (cc := cX4_init) (maxL := 1) (own := RX4) (by decide) rfl rfl (Nat.le_of_ble_eq_true rfl) rfl ?_
  intro p e s m args below meth c A Q F hK hO hnm hA H locs hG hret ls hl
  have hx := F.1
  have hb := F.2.1
  have hl : lv_has ls 1 [(0, .ref a0)] := hl
  have h0 : ∀ w ∈ wsX40, w ∈ wsX4_init := (fun w h => List.mem_cons_of_mem _ (List.mem_append_right _ (h)))
  refine lv_aload_n hx hb dX4_init_0 rfl (lv_at hl 0 rfl) ?_
  refine W.objInit hx hb F.2.2.2.1 (F.2.2.2.2 (.methodLink RX4 1 objectInit) (List.mem_of_getElem? (i := 1) rfl)) (F.2.2.2.2 (.instanceMethod objectInit) (List.mem_of_getElem? (i := 2) rfl)) (F.2.2.2.2 (.code objectInit ⟨#[0xb1]⟩ 1 none) (List.mem_of_getElem? (i := 3) rfl)) rfl (by rw [F.2.2.1]; exact hl.1) rfl dX4_init_1 (Nat.le_of_ble_eq_true rfl) (Nat.le_of_ble_eq_true rfl) ?_
  refine W.eq (g2 := F0 m 4 ls []) rfl ?_
  refine lv_aload_n hx hb dX4_init_4 rfl (lv_at hl 0 rfl) ?_
  refine lv_sipush (v := nI 345) hx hb dX4_init_5 rfl ?_
  refine w_newi F hK hA hG 345 (by omega) (F.2.2.2.2 (.arrayClass .int) (List.mem_of_getElem? (i := 4) rfl)) (Nat.le_of_ble_eq_true rfl) (Nat.le_of_ble_eq_true rfl) dX4_init_8 (fun q1 H locs hG => ?_)
  refine W.widen (k := 1) (n := 345) (Nat.le_of_ble_eq_true rfl) (Nat.le_of_ble_eq_true rfl) ?_
  have hG : GG D A s.heap [(a0, .inr (4, [.null, .null, .null, .int 0, .null, .null, .null, .int 0, .null, .null, .int 0, .int 0, .int 0, .int 0, .int 0, .int 0, .null, .null, .null, .int 0, .int 0])), (q1, .inl (y 0, 345, .inl zA))] H locs := hG
  refine w_putF4 F hK hG h0 0 rfl 0 (by decide) (F.2.2.2.2 (.fieldLink RX4 7 "HeatedStoriesModel" "s" "[I") (List.mem_of_getElem? (i := 5) rfl)) rfl hnm rfl rfl rfl (Nat.le_of_ble_eq_true rfl) ([(a0, .inr (4, [.ref q1, .null, .null, .int 0, .null, .null, .null, .int 0, .null, .null, .int 0, .int 0, .int 0, .int 0, .int 0, .int 0, .null, .null, .null, .int 0, .int 0])), (q1, .inl (y 0, 345, .inl zA))]) rfl dX4_init_10 (fun H locs hG => ?_)
  refine lv_aload_n hx hb dX4_init_13 rfl (lv_at hl 0 rfl) ?_
  refine lv_sipush (v := nI 345) hx hb dX4_init_14 rfl ?_
  refine w_newi F hK hA hG 345 (by omega) (F.2.2.2.2 (.arrayClass .int) (List.mem_of_getElem? (i := 4) rfl)) (Nat.le_of_ble_eq_true rfl) (Nat.le_of_ble_eq_true rfl) dX4_init_17 (fun q2 H locs hG => ?_)
  refine W.widen (k := 2) (n := 690) (Nat.le_of_ble_eq_true rfl) (Nat.le_of_ble_eq_true rfl) ?_
  have hG : GG D A s.heap [(a0, .inr (4, [.ref q1, .null, .null, .int 0, .null, .null, .null, .int 0, .null, .null, .int 0, .int 0, .int 0, .int 0, .int 0, .int 0, .null, .null, .null, .int 0, .int 0])), (q1, .inl (y 0, 345, .inl zA)), (q2, .inl (y 0, 345, .inl zA))] H locs := hG
  refine w_putF4 F hK hG h0 0 rfl 1 (by decide) (F.2.2.2.2 (.fieldLink RX4 13 "HeatedStoriesModel" "aside" "[I") (List.mem_of_getElem? (i := 6) rfl)) rfl hnm rfl rfl rfl (Nat.le_of_ble_eq_true rfl) ([(a0, .inr (4, [.ref q1, .ref q2, .null, .int 0, .null, .null, .null, .int 0, .null, .null, .int 0, .int 0, .int 0, .int 0, .int 0, .int 0, .null, .null, .null, .int 0, .int 0])), (q1, .inl (y 0, 345, .inl zA)), (q2, .inl (y 0, 345, .inl zA))]) rfl dX4_init_19 (fun H locs hG => ?_)
  refine lv_aload_n hx hb dX4_init_22 rfl (lv_at hl 0 rfl) ?_
  refine lv_sipush (v := nI 2070) hx hb dX4_init_23 rfl ?_
  refine w_newi F hK hA hG 2070 (by omega) (F.2.2.2.2 (.arrayClass .int) (List.mem_of_getElem? (i := 4) rfl)) (Nat.le_of_ble_eq_true rfl) (Nat.le_of_ble_eq_true rfl) dX4_init_26 (fun q3 H locs hG => ?_)
  refine W.widen (k := 3) (n := 2760) (Nat.le_of_ble_eq_true rfl) (Nat.le_of_ble_eq_true rfl) ?_
  have hG : GG D A s.heap [(a0, .inr (4, [.ref q1, .ref q2, .null, .int 0, .null, .null, .null, .int 0, .null, .null, .int 0, .int 0, .int 0, .int 0, .int 0, .int 0, .null, .null, .null, .int 0, .int 0])), (q1, .inl (y 0, 345, .inl zA)), (q2, .inl (y 0, 345, .inl zA)), (q3, .inl (y 0, 2070, .inl zA))] H locs := hG
  refine w_putF4 F hK hG h0 0 rfl 2 (by decide) (F.2.2.2.2 (.fieldLink RX4 16 "HeatedStoriesModel" "before" "[I") (List.mem_of_getElem? (i := 7) rfl)) rfl hnm rfl rfl rfl (Nat.le_of_ble_eq_true rfl) ([(a0, .inr (4, [.ref q1, .ref q2, .ref q3, .int 0, .null, .null, .null, .int 0, .null, .null, .int 0, .int 0, .int 0, .int 0, .int 0, .int 0, .null, .null, .null, .int 0, .int 0])), (q1, .inl (y 0, 345, .inl zA)), (q2, .inl (y 0, 345, .inl zA)), (q3, .inl (y 0, 2070, .inl zA))]) rfl dX4_init_28 (fun H locs hG => ?_)
  refine lv_aload_n hx hb dX4_init_31 rfl (lv_at hl 0 rfl) ?_
  refine lv_sipush (v := nI 690) hx hb dX4_init_32 rfl ?_
  refine w_newi F hK hA hG 690 (by omega) (F.2.2.2.2 (.arrayClass .int) (List.mem_of_getElem? (i := 4) rfl)) (Nat.le_of_ble_eq_true rfl) (Nat.le_of_ble_eq_true rfl) dX4_init_35 (fun q4 H locs hG => ?_)
  refine W.widen (k := 4) (n := 3450) (Nat.le_of_ble_eq_true rfl) (Nat.le_of_ble_eq_true rfl) ?_
  have hG : GG D A s.heap [(a0, .inr (4, [.ref q1, .ref q2, .ref q3, .int 0, .null, .null, .null, .int 0, .null, .null, .int 0, .int 0, .int 0, .int 0, .int 0, .int 0, .null, .null, .null, .int 0, .int 0])), (q1, .inl (y 0, 345, .inl zA)), (q2, .inl (y 0, 345, .inl zA)), (q3, .inl (y 0, 2070, .inl zA)), (q4, .inl (y 0, 690, .inl zA))] H locs := hG
  refine w_putF4 F hK hG h0 0 rfl 4 (by decide) (F.2.2.2.2 (.fieldLink RX4 19 "HeatedStoriesModel" "slots" "[I") (List.mem_of_getElem? (i := 8) rfl)) rfl hnm rfl rfl rfl (Nat.le_of_ble_eq_true rfl) ([(a0, .inr (4, [.ref q1, .ref q2, .ref q3, .int 0, .ref q4, .null, .null, .int 0, .null, .null, .int 0, .int 0, .int 0, .int 0, .int 0, .int 0, .null, .null, .null, .int 0, .int 0])), (q1, .inl (y 0, 345, .inl zA)), (q2, .inl (y 0, 345, .inl zA)), (q3, .inl (y 0, 2070, .inl zA)), (q4, .inl (y 0, 690, .inl zA))]) rfl dX4_init_37 (fun H locs hG => ?_)
  refine lv_aload_n hx hb dX4_init_40 rfl (lv_at hl 0 rfl) ?_
  refine lv_iconst (v := nI 2) hx hb dX4_init_41 rfl ?_
  refine w_newz F hK hA hG 2 (by omega) (F.2.2.2.2 (.arrayClass .boolean) (List.mem_of_getElem? (i := 9) rfl)) (Nat.le_of_ble_eq_true rfl) (Nat.le_of_ble_eq_true rfl) dX4_init_42 (fun q5 H locs hG => ?_)
  refine W.widen (k := 5) (n := 3452) (Nat.le_of_ble_eq_true rfl) (Nat.le_of_ble_eq_true rfl) ?_
  have hG : GG D A s.heap [(a0, .inr (4, [.ref q1, .ref q2, .ref q3, .int 0, .ref q4, .null, .null, .int 0, .null, .null, .int 0, .int 0, .int 0, .int 0, .int 0, .int 0, .null, .null, .null, .int 0, .int 0])), (q1, .inl (y 0, 345, .inl zA)), (q2, .inl (y 0, 345, .inl zA)), (q3, .inl (y 0, 2070, .inl zA)), (q4, .inl (y 0, 690, .inl zA)), (q5, .inl (y 1, 2, .inl zA))] H locs := hG
  refine w_putF4 F hK hG h0 0 rfl 5 (by decide) (F.2.2.2.2 (.fieldLink RX4 22 "HeatedStoriesModel" "isSaved" "[Z") (List.mem_of_getElem? (i := 10) rfl)) rfl hnm rfl rfl rfl (Nat.le_of_ble_eq_true rfl) ([(a0, .inr (4, [.ref q1, .ref q2, .ref q3, .int 0, .ref q4, .ref q5, .null, .int 0, .null, .null, .int 0, .int 0, .int 0, .int 0, .int 0, .int 0, .null, .null, .null, .int 0, .int 0])), (q1, .inl (y 0, 345, .inl zA)), (q2, .inl (y 0, 345, .inl zA)), (q3, .inl (y 0, 2070, .inl zA)), (q4, .inl (y 0, 690, .inl zA)), (q5, .inl (y 1, 2, .inl zA))]) rfl dX4_init_44 (fun H locs hG => ?_)
  refine lv_aload_n hx hb dX4_init_47 rfl (lv_at hl 0 rfl) ?_
  refine lv_bipush (v := nI 60) hx hb dX4_init_48 rfl ?_
  refine w_newi F hK hA hG 60 (by omega) (F.2.2.2.2 (.arrayClass .int) (List.mem_of_getElem? (i := 4) rfl)) (Nat.le_of_ble_eq_true rfl) (Nat.le_of_ble_eq_true rfl) dX4_init_50 (fun q6 H locs hG => ?_)
  refine W.widen (k := 6) (n := 3512) (Nat.le_of_ble_eq_true rfl) (Nat.le_of_ble_eq_true rfl) ?_
  have hG : GG D A s.heap [(a0, .inr (4, [.ref q1, .ref q2, .ref q3, .int 0, .ref q4, .ref q5, .null, .int 0, .null, .null, .int 0, .int 0, .int 0, .int 0, .int 0, .int 0, .null, .null, .null, .int 0, .int 0])), (q1, .inl (y 0, 345, .inl zA)), (q2, .inl (y 0, 345, .inl zA)), (q3, .inl (y 0, 2070, .inl zA)), (q4, .inl (y 0, 690, .inl zA)), (q5, .inl (y 1, 2, .inl zA)), (q6, .inl (y 0, 60, .inl zA))] H locs := hG
  refine w_putF4 F hK hG h0 0 rfl 6 (by decide) (F.2.2.2.2 (.fieldLink RX4 26 "HeatedStoriesModel" "pad" "[I") (List.mem_of_getElem? (i := 11) rfl)) rfl hnm rfl rfl rfl (Nat.le_of_ble_eq_true rfl) ([(a0, .inr (4, [.ref q1, .ref q2, .ref q3, .int 0, .ref q4, .ref q5, .ref q6, .int 0, .null, .null, .int 0, .int 0, .int 0, .int 0, .int 0, .int 0, .null, .null, .null, .int 0, .int 0])), (q1, .inl (y 0, 345, .inl zA)), (q2, .inl (y 0, 345, .inl zA)), (q3, .inl (y 0, 2070, .inl zA)), (q4, .inl (y 0, 690, .inl zA)), (q5, .inl (y 1, 2, .inl zA)), (q6, .inl (y 0, 60, .inl zA))]) rfl dX4_init_52 (fun H locs hG => ?_)
  refine lv_aload_n hx hb dX4_init_55 rfl (lv_at hl 0 rfl) ?_
  refine lv_sipush (v := nI 150) hx hb dX4_init_56 rfl ?_
  refine w_newi F hK hA hG 150 (by omega) (F.2.2.2.2 (.arrayClass .int) (List.mem_of_getElem? (i := 4) rfl)) (Nat.le_of_ble_eq_true rfl) (Nat.le_of_ble_eq_true rfl) dX4_init_59 (fun q7 H locs hG => ?_)
  refine W.widen (k := 7) (n := 3662) (Nat.le_of_ble_eq_true rfl) (Nat.le_of_ble_eq_true rfl) ?_
  have hG : GG D A s.heap [(a0, .inr (4, [.ref q1, .ref q2, .ref q3, .int 0, .ref q4, .ref q5, .ref q6, .int 0, .null, .null, .int 0, .int 0, .int 0, .int 0, .int 0, .int 0, .null, .null, .null, .int 0, .int 0])), (q1, .inl (y 0, 345, .inl zA)), (q2, .inl (y 0, 345, .inl zA)), (q3, .inl (y 0, 2070, .inl zA)), (q4, .inl (y 0, 690, .inl zA)), (q5, .inl (y 1, 2, .inl zA)), (q6, .inl (y 0, 60, .inl zA)), (q7, .inl (y 0, 150, .inl zA))] H locs := hG
  refine w_putF4 F hK hG h0 0 rfl 8 (by decide) (F.2.2.2.2 (.fieldLink RX4 29 "HeatedStoriesModel" "letters" "[I") (List.mem_of_getElem? (i := 12) rfl)) rfl hnm rfl rfl rfl (Nat.le_of_ble_eq_true rfl) ([(a0, .inr (4, [.ref q1, .ref q2, .ref q3, .int 0, .ref q4, .ref q5, .ref q6, .int 0, .ref q7, .null, .int 0, .int 0, .int 0, .int 0, .int 0, .int 0, .null, .null, .null, .int 0, .int 0])), (q1, .inl (y 0, 345, .inl zA)), (q2, .inl (y 0, 345, .inl zA)), (q3, .inl (y 0, 2070, .inl zA)), (q4, .inl (y 0, 690, .inl zA)), (q5, .inl (y 1, 2, .inl zA)), (q6, .inl (y 0, 60, .inl zA)), (q7, .inl (y 0, 150, .inl zA))]) rfl dX4_init_61 (fun H locs hG => ?_)
  refine lv_aload_n hx hb dX4_init_64 rfl (lv_at hl 0 rfl) ?_
  refine lv_sipush (v := nI 150) hx hb dX4_init_65 rfl ?_
  refine w_newi F hK hA hG 150 (by omega) (F.2.2.2.2 (.arrayClass .int) (List.mem_of_getElem? (i := 4) rfl)) (Nat.le_of_ble_eq_true rfl) (Nat.le_of_ble_eq_true rfl) dX4_init_68 (fun q8 H locs hG => ?_)
  refine W.widen (k := 8) (n := 3812) (Nat.le_of_ble_eq_true rfl) (Nat.le_of_ble_eq_true rfl) ?_
  have hG : GG D A s.heap [(a0, .inr (4, [.ref q1, .ref q2, .ref q3, .int 0, .ref q4, .ref q5, .ref q6, .int 0, .ref q7, .null, .int 0, .int 0, .int 0, .int 0, .int 0, .int 0, .null, .null, .null, .int 0, .int 0])), (q1, .inl (y 0, 345, .inl zA)), (q2, .inl (y 0, 345, .inl zA)), (q3, .inl (y 0, 2070, .inl zA)), (q4, .inl (y 0, 690, .inl zA)), (q5, .inl (y 1, 2, .inl zA)), (q6, .inl (y 0, 60, .inl zA)), (q7, .inl (y 0, 150, .inl zA)), (q8, .inl (y 0, 150, .inl zA))] H locs := hG
  refine w_putF4 F hK hG h0 0 rfl 9 (by decide) (F.2.2.2.2 (.fieldLink RX4 32 "HeatedStoriesModel" "heats" "[I") (List.mem_of_getElem? (i := 13) rfl)) rfl hnm rfl rfl rfl (Nat.le_of_ble_eq_true rfl) ([(a0, .inr (4, [.ref q1, .ref q2, .ref q3, .int 0, .ref q4, .ref q5, .ref q6, .int 0, .ref q7, .ref q8, .int 0, .int 0, .int 0, .int 0, .int 0, .int 0, .null, .null, .null, .int 0, .int 0])), (q1, .inl (y 0, 345, .inl zA)), (q2, .inl (y 0, 345, .inl zA)), (q3, .inl (y 0, 2070, .inl zA)), (q4, .inl (y 0, 690, .inl zA)), (q5, .inl (y 1, 2, .inl zA)), (q6, .inl (y 0, 60, .inl zA)), (q7, .inl (y 0, 150, .inl zA)), (q8, .inl (y 0, 150, .inl zA))]) rfl dX4_init_70 (fun H locs hG => ?_)
  refine lv_aload_n hx hb dX4_init_73 rfl (lv_at hl 0 rfl) ?_
  refine lv_bipush (v := nI 61) hx hb dX4_init_74 rfl ?_
  refine w_newi F hK hA hG 61 (by omega) (F.2.2.2.2 (.arrayClass .int) (List.mem_of_getElem? (i := 4) rfl)) (Nat.le_of_ble_eq_true rfl) (Nat.le_of_ble_eq_true rfl) dX4_init_76 (fun q9 H locs hG => ?_)
  refine W.widen (k := 9) (n := 3873) (Nat.le_of_ble_eq_true rfl) (Nat.le_of_ble_eq_true rfl) ?_
  have hG : GG D A s.heap [(a0, .inr (4, [.ref q1, .ref q2, .ref q3, .int 0, .ref q4, .ref q5, .ref q6, .int 0, .ref q7, .ref q8, .int 0, .int 0, .int 0, .int 0, .int 0, .int 0, .null, .null, .null, .int 0, .int 0])), (q1, .inl (y 0, 345, .inl zA)), (q2, .inl (y 0, 345, .inl zA)), (q3, .inl (y 0, 2070, .inl zA)), (q4, .inl (y 0, 690, .inl zA)), (q5, .inl (y 1, 2, .inl zA)), (q6, .inl (y 0, 60, .inl zA)), (q7, .inl (y 0, 150, .inl zA)), (q8, .inl (y 0, 150, .inl zA)), (q9, .inl (y 0, 61, .inl zA))] H locs := hG
  refine w_putF4 F hK hG h0 0 rfl 16 (by decide) (F.2.2.2.2 (.fieldLink RX4 35 "HeatedStoriesModel" "toldLetter" "[I") (List.mem_of_getElem? (i := 14) rfl)) rfl hnm rfl rfl rfl (Nat.le_of_ble_eq_true rfl) ([(a0, .inr (4, [.ref q1, .ref q2, .ref q3, .int 0, .ref q4, .ref q5, .ref q6, .int 0, .ref q7, .ref q8, .int 0, .int 0, .int 0, .int 0, .int 0, .int 0, .ref q9, .null, .null, .int 0, .int 0])), (q1, .inl (y 0, 345, .inl zA)), (q2, .inl (y 0, 345, .inl zA)), (q3, .inl (y 0, 2070, .inl zA)), (q4, .inl (y 0, 690, .inl zA)), (q5, .inl (y 1, 2, .inl zA)), (q6, .inl (y 0, 60, .inl zA)), (q7, .inl (y 0, 150, .inl zA)), (q8, .inl (y 0, 150, .inl zA)), (q9, .inl (y 0, 61, .inl zA))]) rfl dX4_init_78 (fun H locs hG => ?_)
  refine lv_aload_n hx hb dX4_init_81 rfl (lv_at hl 0 rfl) ?_
  refine lv_bipush (v := nI 61) hx hb dX4_init_82 rfl ?_
  refine w_newi F hK hA hG 61 (by omega) (F.2.2.2.2 (.arrayClass .int) (List.mem_of_getElem? (i := 4) rfl)) (Nat.le_of_ble_eq_true rfl) (Nat.le_of_ble_eq_true rfl) dX4_init_84 (fun q10 H locs hG => ?_)
  refine W.widen (k := 10) (n := 3934) (Nat.le_of_ble_eq_true rfl) (Nat.le_of_ble_eq_true rfl) ?_
  have hG : GG D A s.heap [(a0, .inr (4, [.ref q1, .ref q2, .ref q3, .int 0, .ref q4, .ref q5, .ref q6, .int 0, .ref q7, .ref q8, .int 0, .int 0, .int 0, .int 0, .int 0, .int 0, .ref q9, .null, .null, .int 0, .int 0])), (q1, .inl (y 0, 345, .inl zA)), (q2, .inl (y 0, 345, .inl zA)), (q3, .inl (y 0, 2070, .inl zA)), (q4, .inl (y 0, 690, .inl zA)), (q5, .inl (y 1, 2, .inl zA)), (q6, .inl (y 0, 60, .inl zA)), (q7, .inl (y 0, 150, .inl zA)), (q8, .inl (y 0, 150, .inl zA)), (q9, .inl (y 0, 61, .inl zA)), (q10, .inl (y 0, 61, .inl zA))] H locs := hG
  refine w_putF4 F hK hG h0 0 rfl 17 (by decide) (F.2.2.2.2 (.fieldLink RX4 38 "HeatedStoriesModel" "toldHeat" "[I") (List.mem_of_getElem? (i := 15) rfl)) rfl hnm rfl rfl rfl (Nat.le_of_ble_eq_true rfl) ([(a0, .inr (4, [.ref q1, .ref q2, .ref q3, .int 0, .ref q4, .ref q5, .ref q6, .int 0, .ref q7, .ref q8, .int 0, .int 0, .int 0, .int 0, .int 0, .int 0, .ref q9, .ref q10, .null, .int 0, .int 0])), (q1, .inl (y 0, 345, .inl zA)), (q2, .inl (y 0, 345, .inl zA)), (q3, .inl (y 0, 2070, .inl zA)), (q4, .inl (y 0, 690, .inl zA)), (q5, .inl (y 1, 2, .inl zA)), (q6, .inl (y 0, 60, .inl zA)), (q7, .inl (y 0, 150, .inl zA)), (q8, .inl (y 0, 150, .inl zA)), (q9, .inl (y 0, 61, .inl zA)), (q10, .inl (y 0, 61, .inl zA))]) rfl dX4_init_86 (fun H locs hG => ?_)
  refine lv_aload_n hx hb dX4_init_89 rfl (lv_at hl 0 rfl) ?_
  refine lv_bipush (v := nI 61) hx hb dX4_init_90 rfl ?_
  refine w_newi F hK hA hG 61 (by omega) (F.2.2.2.2 (.arrayClass .int) (List.mem_of_getElem? (i := 4) rfl)) (Nat.le_of_ble_eq_true rfl) (Nat.le_of_ble_eq_true rfl) dX4_init_92 (fun q11 H locs hG => ?_)
  refine W.widen (k := 11) (n := 3995) (Nat.le_of_ble_eq_true rfl) (Nat.le_of_ble_eq_true rfl) ?_
  have hG : GG D A s.heap [(a0, .inr (4, [.ref q1, .ref q2, .ref q3, .int 0, .ref q4, .ref q5, .ref q6, .int 0, .ref q7, .ref q8, .int 0, .int 0, .int 0, .int 0, .int 0, .int 0, .ref q9, .ref q10, .null, .int 0, .int 0])), (q1, .inl (y 0, 345, .inl zA)), (q2, .inl (y 0, 345, .inl zA)), (q3, .inl (y 0, 2070, .inl zA)), (q4, .inl (y 0, 690, .inl zA)), (q5, .inl (y 1, 2, .inl zA)), (q6, .inl (y 0, 60, .inl zA)), (q7, .inl (y 0, 150, .inl zA)), (q8, .inl (y 0, 150, .inl zA)), (q9, .inl (y 0, 61, .inl zA)), (q10, .inl (y 0, 61, .inl zA)), (q11, .inl (y 0, 61, .inl zA))] H locs := hG
  refine w_putF4 F hK hG h0 0 rfl 18 (by decide) (F.2.2.2.2 (.fieldLink RX4 41 "HeatedStoriesModel" "toldStory" "[I") (List.mem_of_getElem? (i := 16) rfl)) rfl hnm rfl rfl rfl (Nat.le_of_ble_eq_true rfl) ([(a0, .inr (4, [.ref q1, .ref q2, .ref q3, .int 0, .ref q4, .ref q5, .ref q6, .int 0, .ref q7, .ref q8, .int 0, .int 0, .int 0, .int 0, .int 0, .int 0, .ref q9, .ref q10, .ref q11, .int 0, .int 0])), (q1, .inl (y 0, 345, .inl zA)), (q2, .inl (y 0, 345, .inl zA)), (q3, .inl (y 0, 2070, .inl zA)), (q4, .inl (y 0, 690, .inl zA)), (q5, .inl (y 1, 2, .inl zA)), (q6, .inl (y 0, 60, .inl zA)), (q7, .inl (y 0, 150, .inl zA)), (q8, .inl (y 0, 150, .inl zA)), (q9, .inl (y 0, 61, .inl zA)), (q10, .inl (y 0, 61, .inl zA)), (q11, .inl (y 0, 61, .inl zA))]) rfl dX4_init_94 (fun H locs hG => ?_)
  refine lv_aload_n hx hb dX4_init_97 rfl (lv_at hl 0 rfl) ?_
  refine w_get4 F hK hG h0 0 rfl 0 (by decide) (F.2.2.2.2 (.fieldLink RX4 7 "HeatedStoriesModel" "s" "[I") (List.mem_of_getElem? (i := 5) rfl)) rfl dX4_init_98 ?_
  refine lv_iconst (v := nI 0) hx hb dX4_init_101 rfl ?_
  refine lv_bipush (v := nI 20) hx hb dX4_init_102 rfl ?_
  refine w_iast F hK hG 1 rfl (ix_nI (by omega) (by omega)) ([(a0, .inr (4, [.ref q1, .ref q2, .ref q3, .int 0, .ref q4, .ref q5, .ref q6, .int 0, .ref q7, .ref q8, .int 0, .int 0, .int 0, .int 0, .int 0, .int 0, .ref q9, .ref q10, .ref q11, .int 0, .int 0])), (q1, .inl (y 0, 345, .inl (upd zA (nI 0).toNatClampNeg (nI 20)))), (q2, .inl (y 0, 345, .inl zA)), (q3, .inl (y 0, 2070, .inl zA)), (q4, .inl (y 0, 690, .inl zA)), (q5, .inl (y 1, 2, .inl zA)), (q6, .inl (y 0, 60, .inl zA)), (q7, .inl (y 0, 150, .inl zA)), (q8, .inl (y 0, 150, .inl zA)), (q9, .inl (y 0, 61, .inl zA)), (q10, .inl (y 0, 61, .inl zA)), (q11, .inl (y 0, 61, .inl zA))]) rfl dX4_init_104 (fun H locs hG => ?_)
  have hG : GG D A s.heap [(a0, .inr (4, [.ref q1, .ref q2, .ref q3, .int 0, .ref q4, .ref q5, .ref q6, .int 0, .ref q7, .ref q8, .int 0, .int 0, .int 0, .int 0, .int 0, .int 0, .ref q9, .ref q10, .ref q11, .int 0, .int 0])), (q1, .inl (y 0, 345, .inl (upd zA 0 (nI 20)))), (q2, .inl (y 0, 345, .inl zA)), (q3, .inl (y 0, 2070, .inl zA)), (q4, .inl (y 0, 690, .inl zA)), (q5, .inl (y 1, 2, .inl zA)), (q6, .inl (y 0, 60, .inl zA)), (q7, .inl (y 0, 150, .inl zA)), (q8, .inl (y 0, 150, .inl zA)), (q9, .inl (y 0, 61, .inl zA)), (q10, .inl (y 0, 61, .inl zA)), (q11, .inl (y 0, 61, .inl zA))] H locs := hG
  refine lv_aload_n hx hb dX4_init_105 rfl (lv_at hl 0 rfl) ?_
  refine w_get4 F hK hG h0 0 rfl 0 (by decide) (F.2.2.2.2 (.fieldLink RX4 7 "HeatedStoriesModel" "s" "[I") (List.mem_of_getElem? (i := 5) rfl)) rfl dX4_init_106 ?_
  refine lv_iconst (v := nI 1) hx hb dX4_init_109 rfl ?_
  refine lv_iconst (v := nI 3) hx hb dX4_init_110 rfl ?_
  refine w_iast F hK hG 1 rfl (ix_nI (by omega) (by omega)) ([(a0, .inr (4, [.ref q1, .ref q2, .ref q3, .int 0, .ref q4, .ref q5, .ref q6, .int 0, .ref q7, .ref q8, .int 0, .int 0, .int 0, .int 0, .int 0, .int 0, .ref q9, .ref q10, .ref q11, .int 0, .int 0])), (q1, .inl (y 0, 345, .inl (upd (upd zA 0 (nI 20)) (nI 1).toNatClampNeg (nI 3)))), (q2, .inl (y 0, 345, .inl zA)), (q3, .inl (y 0, 2070, .inl zA)), (q4, .inl (y 0, 690, .inl zA)), (q5, .inl (y 1, 2, .inl zA)), (q6, .inl (y 0, 60, .inl zA)), (q7, .inl (y 0, 150, .inl zA)), (q8, .inl (y 0, 150, .inl zA)), (q9, .inl (y 0, 61, .inl zA)), (q10, .inl (y 0, 61, .inl zA)), (q11, .inl (y 0, 61, .inl zA))]) rfl dX4_init_111 (fun H locs hG => ?_)
  have hG : GG D A s.heap [(a0, .inr (4, [.ref q1, .ref q2, .ref q3, .int 0, .ref q4, .ref q5, .ref q6, .int 0, .ref q7, .ref q8, .int 0, .int 0, .int 0, .int 0, .int 0, .int 0, .ref q9, .ref q10, .ref q11, .int 0, .int 0])), (q1, .inl (y 0, 345, .inl (upd (upd zA 0 (nI 20)) 1 (nI 3)))), (q2, .inl (y 0, 345, .inl zA)), (q3, .inl (y 0, 2070, .inl zA)), (q4, .inl (y 0, 690, .inl zA)), (q5, .inl (y 1, 2, .inl zA)), (q6, .inl (y 0, 60, .inl zA)), (q7, .inl (y 0, 150, .inl zA)), (q8, .inl (y 0, 150, .inl zA)), (q9, .inl (y 0, 61, .inl zA)), (q10, .inl (y 0, 61, .inl zA)), (q11, .inl (y 0, 61, .inl zA))] H locs := hG
  refine lv_aload_n hx hb dX4_init_112 rfl (lv_at hl 0 rfl) ?_
  refine w_get4 F hK hG h0 0 rfl 0 (by decide) (F.2.2.2.2 (.fieldLink RX4 7 "HeatedStoriesModel" "s" "[I") (List.mem_of_getElem? (i := 5) rfl)) rfl dX4_init_113 ?_
  refine lv_iconst (v := nI 2) hx hb dX4_init_116 rfl ?_
  refine lv_iconst (v := nI 2) hx hb dX4_init_117 rfl ?_
  refine w_iast F hK hG 1 rfl (ix_nI (by omega) (by omega)) ([(a0, .inr (4, [.ref q1, .ref q2, .ref q3, .int 0, .ref q4, .ref q5, .ref q6, .int 0, .ref q7, .ref q8, .int 0, .int 0, .int 0, .int 0, .int 0, .int 0, .ref q9, .ref q10, .ref q11, .int 0, .int 0])), (q1, .inl (y 0, 345, .inl (upd (upd (upd zA 0 (nI 20)) 1 (nI 3)) (nI 2).toNatClampNeg (nI 2)))), (q2, .inl (y 0, 345, .inl zA)), (q3, .inl (y 0, 2070, .inl zA)), (q4, .inl (y 0, 690, .inl zA)), (q5, .inl (y 1, 2, .inl zA)), (q6, .inl (y 0, 60, .inl zA)), (q7, .inl (y 0, 150, .inl zA)), (q8, .inl (y 0, 150, .inl zA)), (q9, .inl (y 0, 61, .inl zA)), (q10, .inl (y 0, 61, .inl zA)), (q11, .inl (y 0, 61, .inl zA))]) rfl dX4_init_118 (fun H locs hG => ?_)
  have hG : GG D A s.heap [(a0, .inr (4, [.ref q1, .ref q2, .ref q3, .int 0, .ref q4, .ref q5, .ref q6, .int 0, .ref q7, .ref q8, .int 0, .int 0, .int 0, .int 0, .int 0, .int 0, .ref q9, .ref q10, .ref q11, .int 0, .int 0])), (q1, .inl (y 0, 345, .inl (upd (upd (upd zA 0 (nI 20)) 1 (nI 3)) 2 (nI 2)))), (q2, .inl (y 0, 345, .inl zA)), (q3, .inl (y 0, 2070, .inl zA)), (q4, .inl (y 0, 690, .inl zA)), (q5, .inl (y 1, 2, .inl zA)), (q6, .inl (y 0, 60, .inl zA)), (q7, .inl (y 0, 150, .inl zA)), (q8, .inl (y 0, 150, .inl zA)), (q9, .inl (y 0, 61, .inl zA)), (q10, .inl (y 0, 61, .inl zA)), (q11, .inl (y 0, 61, .inl zA))] H locs := hG
  exact hret (adL [a0, q1, q2, q3, q4, q5, q6, q7, q8, q9, q10, q11]) H locs 119 ls rfl hG dX4_init_119
