/-! calls over some of the blocks of a world -/
def flat (f : Nat → va_W) : List Nat → va_W
  | [] => []
  | [i] => f i
  | i :: j :: r => f i ++ flat f (j :: r)
theorem flat_eq (f : Nat → va_W) : ∀ is : List Nat, flat f is = is.flatMap f
  | [] => rfl
  | [i] => by simp [flat]
  | i :: j :: r => by
    show f i ++ flat f (j :: r) = _
    rw [flat_eq f (j :: r)]
    exact (List.flatMap_cons ..).symm
theorem GG.blk {D : va_G} {A : Nat → Prop} {H0 H : Heap} {locs : List Loc} (f : Nat → va_W) (is js : List Nat) (hp : is.Perm js) (w w' : va_W) (h1 : w = flat f is) (h2 : flat f js = w') (hG : GG D A H0 w H locs) : GG D A H0 w' H locs := by
  subst h1
  subst h2
  refine hG.perm ?_
  rw [flat_eq, flat_eq]
  exact hp.flatMap_right f
theorem GG.pre {D : va_G} {A : Nat → Prop} {H0 H : Heap} {wc rst : va_W} {locs : List Loc} (hG : GG D A H0 (wc ++ rst) H locs) (hA : ∀ q, H0.size ≤ q → A q) :
    va_P D vwCl wc H ∧ va_D (fun _ => True) wc ∧ ∀ q, va_A wc H.size q → A q := by
  have h := va_D.iff.mp hG.2.1
  rw [List.map_append, List.nodup_append] at h
  refine ⟨va_P.of (fun q hq => hG.1.mem (List.mem_append_left _ hq)), va_D.iff.mpr ⟨h.1.1, fun _ _ => trivial⟩, fun q hq => ?_⟩
  rcases hq with ⟨k, e, hk⟩ | hq
  · exact h.2 (q, e) (List.mem_append_left _ (List.mem_of_getElem? hk))
  · exact hA q (Nat.le_trans hG.2.2.1 hq)
theorem GG.callR {D : va_G} {A : Nat → Prop} {H0 H H1 : Heap} {wc wc' rst : va_W} {locs locs1 : List Loc} (hG : GG D A H0 (wc ++ rst) H locs)
    (hadr : wc'.map Prod.fst = wc.map Prod.fst) (hk : ∀ q : Nat, q < H.size → ¬ va_A wc H.size q → H1[q]? = H[q]?) (hP1 : va_P D vwCl wc' H1) (hS1 : va_S A H0 H1 locs1) : GG D A H0 (wc' ++ rst) H1 locs1 := by
  have h := va_D.iff.mp hG.2.1
  rw [List.map_append, List.nodup_append] at h
  refine hG.call (wc := wc) (wc' := wc') (by rw [List.map_append, List.map_append, hadr]) (fun q hq => ?_) hk hP1 hS1
  rcases List.mem_append.mp hq with h1 | h1
  · exact Or.inl h1
  · refine Or.inr ⟨List.mem_append_right _ h1, fun hm => ?_⟩
    exact h.1.2.2 q.1 hm q.1 (List.mem_map.mpr ⟨q, h1, rfl⟩) rfl
theorem adr_app {a a' b b' : va_W} (h1 : a'.map Prod.fst = a.map Prod.fst) (h2 : b'.map Prod.fst = b.map Prod.fst) : (a' ++ b').map Prod.fst = (a ++ b).map Prod.fst := by
  rw [List.map_append, List.map_append, h1, h2]
theorem adr_pool (y : Nat → ClassId) (ad : Nat → Nat → Nat) (v v' : Nat → SV) (N : Nat) : (poolS y ad v' N).map Prod.fst = (poolS y ad v N).map Prod.fst := by
  unfold poolS
  rw [List.map_flatMap, List.map_flatMap]
  rfl
theorem adr_X0 (y : Nat → ClassId) (ha : Nat → Nat) (hsb : Nat → Nat → Nat) (v v' : Nat → SV) (o o' z z' : Int32) : (w_X0 y ha hsb v' o' z').map Prod.fst = (w_X0 y ha hsb v o z).map Prod.fst := by
  unfold w_X0
  rw [List.map_cons, List.map_cons, List.map_cons, List.map_cons, adr_pool]
section BP
variable {p : Program} {l : Launch} {e : Env} {R : Room} {s : State} {m : MethodId} {args : Array Value} {below : List Frame} {meth : Method} {c : Code} {H : Heap} {locs : List Loc} {cells slots : Nat} {Q : State → Prop}
variable {cc : ByteArray} {nL pc : Nat} {ls : Array Slot} {rest : List Value} {Ts : List Cond} {own : String} {D : va_G} {y : Nat → ClassId} {A : Nat → Prop} {H0 : Heap}
variable {yn : MethodName} {wn : List Cond} {fr lo : Nat} {As : List Value} {wc wc' rst : va_W} {b : Nat} {bytes : ByteArray} {maxL n index : Nat} {st0 : List Value}
theorem k_Pi (F : CallFix p m c cc nL s args Ts own) (hK : KK D y s) (hA : ∀ q, H0.size ≤ q → A q) (hG : GG D A H0 (wc ++ rst) H locs) {r : Int32} {ret : Option FieldType} {C : String} {T : u_T} {N ci : Nat} {fs : List Value}
    (hM : MI l yn wn fr lo (.ref b :: As) D y wc H.size r wc') (cw : CallW R s args own C index yn bytes maxL ret wn (RM fr lo) 0 0 n)
    (j : Nat) (hb : wc[j]? = some (b, .inr (ci, fs))) (hc : vwCl[ci]? = some (C, T, N)) (hadr : wc'.map Prod.fst = wc.map Prod.fst)
    (hst : st0 = As.reverse ++ .ref b :: rest) (hn : As.length = n) (hsz : ls.size = nL) (hcat : (rest.map fun v => v.category).sum ≤ 8) (hdg : decode cc pc = .ok (.invokevirtual index, 3)) (hf : cells ≤ R.cells ∧ slots ≤ R.slots)
    (kk : ∀ (H : Heap) (locs : List Loc), GG D A H0 (wc' ++ rst) H locs → W p l e R s m args below meth c H locs cells slots Q (F0 m (pc + 3) ls (.int r :: rest))) : W p l e R s m args below meth c H locs cells slots Q (F0 m pc ls st0) := by
  obtain ⟨hPc, hDc, hFc⟩ := hG.pre hA
  refine va_calli (va_runV (As := As) (rest := rest) F hM cw ⟨pre_blind, va_recv hK.1 hPc hc hb, pre_of hK _ hPc hDc⟩ rfl hn hsz hst (lv_room hcat) hdg hf) hG.2.2 (fun q _ h => hFc q h) hFc (fun r1 u t H1 locs1 ht hvm hw hB hz hk hS => ?_)
  subst hw
  exact kk H1 locs1 (hG.callR hadr hk (ht ▸ hB) hS)
theorem k_Pv (F : CallFix p m c cc nL s args Ts own) (hK : KK D y s) (hA : ∀ q, H0.size ≤ q → A q) (hG : GG D A H0 (wc ++ rst) H locs) {C : String} {T : u_T} {N ci : Nat} {fs : List Value}
    (hM : MV l yn wn fr lo (.ref b :: As) D y wc H.size wc') (cw : CallW R s args own C index yn bytes maxL none wn (RM fr lo) 0 0 n)
    (j : Nat) (hb : wc[j]? = some (b, .inr (ci, fs))) (hc : vwCl[ci]? = some (C, T, N)) (hadr : wc'.map Prod.fst = wc.map Prod.fst)
    (hst : st0 = As.reverse ++ .ref b :: rest) (hn : As.length = n) (hsz : ls.size = nL) (hcat : (rest.map fun v => v.category).sum ≤ 8) (hdg : decode cc pc = .ok (.invokevirtual index, 3)) (hf : cells ≤ R.cells ∧ slots ≤ R.slots)
    (kk : ∀ (H : Heap) (locs : List Loc), GG D A H0 (wc' ++ rst) H locs → W p l e R s m args below meth c H locs cells slots Q (F0 m (pc + 3) ls rest)) : W p l e R s m args below meth c H locs cells slots Q (F0 m pc ls st0) := by
  obtain ⟨hPc, hDc, hFc⟩ := hG.pre hA
  refine va_callv (va_runV (As := As) (rest := rest) F hM cw ⟨pre_blind, va_recv hK.1 hPc hc hb, pre_of hK _ hPc hDc⟩ rfl hn hsz hst (lv_room hcat) hdg hf) hG.2.2 (fun q _ h => hFc q h) hFc (fun u t H1 locs1 ht hvm hw hB hz hk hS => ?_)
  exact kk H1 locs1 (hG.callR hadr hk (ht ▸ hB) hS)
end BP
theorem blkp (is js : List Nat) (h : is.isPerm js = true) : is.Perm js := List.isPerm_iff.mp h
