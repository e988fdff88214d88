/-! BASE: one hypothesis for a world (GG), Option combinators for what the bytecode computes, entry and call lemmas -/
abbrev Ar : Type := Nat → Int32
def ix (i : Int32) (n : Nat) : Bool := !decide (i < 0) && decide (i.toNatClampNeg < n)
theorem ix_in {i : Int32} {n : Nat} (h : ix i n = true) : vp_in i n := by
  simp only [ix, Bool.and_eq_true, Bool.not_eq_true', decide_eq_false_iff_not, decide_eq_true_eq] at h
  intro hc
  rcases hc with hc | hc
  · exact h.1 hc
  · omega
theorem ix_lt {i : Int32} {n : Nat} (h : ix i n = true) : i.toNatClampNeg < n := by
  simp only [ix, Bool.and_eq_true, decide_eq_true_eq] at h
  exact h.2
theorem lt2 {k : Nat} (h : k < 2) : k = 0 ∨ k = 1 := by omega
theorem lt6 {k : Nat} (h : k < 6) : k = 0 ∨ k = 1 ∨ k = 2 ∨ k = 3 ∨ k = 4 ∨ k = 5 := by omega
abbrev lushr (x : Int64) (y : Int32) : Int64 := (x.toUInt64 >>> (y.toInt64.toUInt64 &&& Int64.toUInt64 63)).toInt64
abbrev lshl (x : Int64) (y : Int32) : Int64 := x <<< (y.toInt64 &&& 63)
abbrev i2c (x : Int32) : Int32 := (x.toUInt32 % 65536).toInt32
theorem ix_nI {i n : Nat} (h : i < n) (hn : n < 2 ^ 31) : ix (nI i) n = true := by
  have h2 : ¬ nI i < 0 := nI_pos (by omega)
  simp only [ix, h2, nI_clamp (show i < 2 ^ 31 by omega), h, decide_true, decide_false, Bool.not_false, Bool.and_self]
def gd {α : Type} (c : Bool) (x : Option α) : Option α := match c with
  | true => x
  | false => none
theorem gd_e {α : Type} {c : Bool} {x : Option α} {o : α} (h : gd c x = some o) : c = true ∧ x = some o := by
  cases c with
  | true => exact ⟨rfl, h⟩
  | false => exact absurd h (by simp [gd])
theorem gd_t {α : Type} {c : Bool} (h : c = true) (x : Option α) : gd c x = x := by subst h; rfl
def bd1 {α β : Type} (x : Option α) (k : α → Option β) : Option β := match x with
  | none => none
  | some a => k a
def bd2 {α1 α2 β : Type} (x : Option (α1 × α2)) (k : α1 → α2 → Option β) : Option β := match x with
  | none => none
  | some a => k a.1 a.2
def bd3 {α1 α2 α3 β : Type} (x : Option (α1 × α2 × α3)) (k : α1 → α2 → α3 → Option β) : Option β := match x with
  | none => none
  | some a => k a.1 a.2.1 a.2.2
def bd4 {α1 α2 α3 α4 β : Type} (x : Option (α1 × α2 × α3 × α4)) (k : α1 → α2 → α3 → α4 → Option β) : Option β := match x with
  | none => none
  | some a => k a.1 a.2.1 a.2.2.1 a.2.2.2
def bd5 {α1 α2 α3 α4 α5 β : Type} (x : Option (α1 × α2 × α3 × α4 × α5)) (k : α1 → α2 → α3 → α4 → α5 → Option β) : Option β := match x with
  | none => none
  | some a => k a.1 a.2.1 a.2.2.1 a.2.2.2.1 a.2.2.2.2
def bd6 {α1 α2 α3 α4 α5 α6 β : Type} (x : Option (α1 × α2 × α3 × α4 × α5 × α6)) (k : α1 → α2 → α3 → α4 → α5 → α6 → Option β) : Option β := match x with
  | none => none
  | some a => k a.1 a.2.1 a.2.2.1 a.2.2.2.1 a.2.2.2.2.1 a.2.2.2.2.2
def bd7 {α1 α2 α3 α4 α5 α6 α7 β : Type} (x : Option (α1 × α2 × α3 × α4 × α5 × α6 × α7)) (k : α1 → α2 → α3 → α4 → α5 → α6 → α7 → Option β) : Option β := match x with
  | none => none
  | some a => k a.1 a.2.1 a.2.2.1 a.2.2.2.1 a.2.2.2.2.1 a.2.2.2.2.2.1 a.2.2.2.2.2.2
def bd8 {α1 α2 α3 α4 α5 α6 α7 α8 β : Type} (x : Option (α1 × α2 × α3 × α4 × α5 × α6 × α7 × α8)) (k : α1 → α2 → α3 → α4 → α5 → α6 → α7 → α8 → Option β) : Option β := match x with
  | none => none
  | some a => k a.1 a.2.1 a.2.2.1 a.2.2.2.1 a.2.2.2.2.1 a.2.2.2.2.2.1 a.2.2.2.2.2.2.1 a.2.2.2.2.2.2.2
theorem bd1_e {α β : Type} {x : Option α} {k : α → Option β} {o : β} (h : bd1 x k = some o) : ∃ a, x = some a ∧ k a = some o := by
  cases x with
  | none => exact absurd h (by simp [bd1])
  | some a => exact ⟨a, rfl, h⟩
theorem bd2_e {α1 α2 β : Type} {x : Option (α1 × α2)} {k : α1 → α2 → Option β} {o : β} (h : bd2 x k = some o) : ∃ a1 a2, x = some (a1, a2) ∧ k a1 a2 = some o := by
  cases x with
  | none => exact absurd h (by simp [bd2])
  | some a => exact ⟨a.1, a.2, rfl, h⟩
theorem bd3_e {α1 α2 α3 β : Type} {x : Option (α1 × α2 × α3)} {k : α1 → α2 → α3 → Option β} {o : β} (h : bd3 x k = some o) : ∃ a1 a2 a3, x = some (a1, a2, a3) ∧ k a1 a2 a3 = some o := by
  cases x with
  | none => exact absurd h (by simp [bd3])
  | some a => exact ⟨a.1, a.2.1, a.2.2, rfl, h⟩
theorem bd4_e {α1 α2 α3 α4 β : Type} {x : Option (α1 × α2 × α3 × α4)} {k : α1 → α2 → α3 → α4 → Option β} {o : β} (h : bd4 x k = some o) : ∃ a1 a2 a3 a4, x = some (a1, a2, a3, a4) ∧ k a1 a2 a3 a4 = some o := by
  cases x with
  | none => exact absurd h (by simp [bd4])
  | some a => exact ⟨a.1, a.2.1, a.2.2.1, a.2.2.2, rfl, h⟩
theorem bd5_e {α1 α2 α3 α4 α5 β : Type} {x : Option (α1 × α2 × α3 × α4 × α5)} {k : α1 → α2 → α3 → α4 → α5 → Option β} {o : β} (h : bd5 x k = some o) : ∃ a1 a2 a3 a4 a5, x = some (a1, a2, a3, a4, a5) ∧ k a1 a2 a3 a4 a5 = some o := by
  cases x with
  | none => exact absurd h (by simp [bd5])
  | some a => exact ⟨a.1, a.2.1, a.2.2.1, a.2.2.2.1, a.2.2.2.2, rfl, h⟩
theorem bd6_e {α1 α2 α3 α4 α5 α6 β : Type} {x : Option (α1 × α2 × α3 × α4 × α5 × α6)} {k : α1 → α2 → α3 → α4 → α5 → α6 → Option β} {o : β} (h : bd6 x k = some o) : ∃ a1 a2 a3 a4 a5 a6, x = some (a1, a2, a3, a4, a5, a6) ∧ k a1 a2 a3 a4 a5 a6 = some o := by
  cases x with
  | none => exact absurd h (by simp [bd6])
  | some a => exact ⟨a.1, a.2.1, a.2.2.1, a.2.2.2.1, a.2.2.2.2.1, a.2.2.2.2.2, rfl, h⟩
theorem bd7_e {α1 α2 α3 α4 α5 α6 α7 β : Type} {x : Option (α1 × α2 × α3 × α4 × α5 × α6 × α7)} {k : α1 → α2 → α3 → α4 → α5 → α6 → α7 → Option β} {o : β} (h : bd7 x k = some o) : ∃ a1 a2 a3 a4 a5 a6 a7, x = some (a1, a2, a3, a4, a5, a6, a7) ∧ k a1 a2 a3 a4 a5 a6 a7 = some o := by
  cases x with
  | none => exact absurd h (by simp [bd7])
  | some a => exact ⟨a.1, a.2.1, a.2.2.1, a.2.2.2.1, a.2.2.2.2.1, a.2.2.2.2.2.1, a.2.2.2.2.2.2, rfl, h⟩
theorem bd8_e {α1 α2 α3 α4 α5 α6 α7 α8 β : Type} {x : Option (α1 × α2 × α3 × α4 × α5 × α6 × α7 × α8)} {k : α1 → α2 → α3 → α4 → α5 → α6 → α7 → α8 → Option β} {o : β} (h : bd8 x k = some o) : ∃ a1 a2 a3 a4 a5 a6 a7 a8, x = some (a1, a2, a3, a4, a5, a6, a7, a8) ∧ k a1 a2 a3 a4 a5 a6 a7 a8 = some o := by
  cases x with
  | none => exact absurd h (by simp [bd8])
  | some a => exact ⟨a.1, a.2.1, a.2.2.1, a.2.2.2.1, a.2.2.2.2.1, a.2.2.2.2.2.1, a.2.2.2.2.2.2.1, a.2.2.2.2.2.2.2, rfl, h⟩
/-- a join: what follows is said once -/
def jn {β γ : Type} (b : β) (t : β → γ) : γ := t b
theorem jn_e {α β : Type} {b : β} {t : β → Option α} {o : α} (h : jn b t = some o) : ∃ j, j = b ∧ t j = some o := ⟨b, rfl, h⟩
/-- a value gets a name -/
def nm {α β : Type} (x : α) (k : α → β) : β := k x
theorem nm_o {α β : Type} {x : α} {k : α → Option β} {o : β} (h : nm x k = some o) : ∃ v, v = x ∧ k v = some o := ⟨x, rfl, h⟩
theorem it_e {α : Type} {c : Prop} {i : Decidable c} {a b o : α} (hc : c) (h : @ite α c i a b = o) : a = o := (if_pos hc).symm.trans h
theorem if_e {α : Type} {c : Prop} {i : Decidable c} {a b o : α} (hc : ¬ c) (h : @ite α c i a b = o) : b = o := (if_neg hc).symm.trans h
theorem no_e {α : Type} {o : α} {P : Prop} (h : (none : Option α) = some o) : P := by cases h
theorem so_e {α : Type} {x o : α} (h : some x = some o) : x = o := Option.some.inj h
/-- 0 or 1 -/
def bz (x : Int32) : Bool := decide (x = 0) || decide (x = 1)
theorem bz_n {x : Int32} (h : bz x = true) : narrow .boolean (.int x) = .int x := by
  simp only [bz, Bool.or_eq_true, decide_eq_true_eq] at h
  rcases h with h | h <;> subst h <;> rfl
theorem bz_f {x : Int32} (h : bz x = true) : fits .boolean (.int x) = true := by
  simp only [bz, Bool.or_eq_true, decide_eq_true_eq] at h
  rcases h with h | h <;> subst h <;> rfl
theorem bz_v {x : Int32} (h : bz x = true) : vp_nar .boolean x = x := by
  simp only [bz, Bool.or_eq_true, decide_eq_true_eq] at h
  rcases h with h | h <;> subst h <;> rfl
/-- not below zero: System.arraycopy -/
def nn (x : Int32) : Bool := !decide (x < 0)
theorem nn_e {x : Int32} (h : nn x = true) : ¬ x < 0 := by simpa [nn] using h
def le (a b : Nat) : Bool := decide (a ≤ b)
theorem le_e {a b : Nat} (h : le a b = true) : a ≤ b := by simpa [le] using h
def ne0 (x : Int32) : Bool := !decide (x = 0)
theorem ne0_e {x : Int32} (h : ne0 x = true) : ¬ x = 0 := by simpa [ne0] using h
theorem tsw {x : Int32} (N : Nat) (hN : N < 2 ^ 31) (h : ∀ k, k < N + 1 → ¬ x = nI k) : x.toInt < 0 ∨ (N : Int) < x.toInt := by
  by_cases h0 : x.toInt < 0
  · exact Or.inl h0
  · refine Or.inr ?_
    refine Int.lt_of_not_ge (fun h1 => ?_)
    have hx : x = nI x.toInt.toNat := by
      apply Int32.toInt_inj.mp
      rw [nI_toInt (by omega)]
      omega
    exact h x.toInt.toNat (by omega) hx
/-- the links between nest mates, given at the start -/
def NWs (U : State) : Prop := va_Nw (.methodLinkNest RX2 59 yX3_isWithin RX3) U ∧ va_Nw (.methodLinkNest RX1 17 yX3_isWithin RX3) U ∧ va_Nw (.methodLinkNest RX0 17 yX2_init RX3) U ∧ va_Nw (.methodLinkNest RX3 9 yX2_init RX3) U ∧ va_Nw (.methodLinkNest RX3 36 yX1_init RX3) U
theorem NWs.same {u U : State} (h : u.vm = U.vm) (hN : NWs u) : NWs U := ⟨va_Nw.same rfl h hN.1, va_Nw.same rfl h hN.2.1, va_Nw.same rfl h hN.2.2.1, va_Nw.same rfl h hN.2.2.2.1, va_Nw.same rfl h hN.2.2.2.2⟩
theorem NWs.warm {s U : State} (hW : s.WarmedH U.vm) (hN : NWs s) : NWs U := ⟨va_Nw.warmM hW hN.1, va_Nw.warmM hW hN.2.1, va_Nw.warmM hW hN.2.2.1, va_Nw.warmM hW hN.2.2.2.1, va_Nw.warmM hW hN.2.2.2.2⟩
/-- the array classes: ints, booleans, chars, shelves -/
abbrev tyL (y : Nat → ClassId) : List (ClassId × FieldType) := [(y 0, .int), (y 1, .boolean), (y 2, .char), (y 3, .object RX2)]
def KK (D : va_G) (y : Nat → ClassId) (U : State) : Prop := va_K D vwCl (tyL y) U ∧ NWs U
def GG (D : va_G) (A : Nat → Prop) (H0 : Heap) (ws : va_W) (H : Heap) (locs : List Loc) : Prop := va_P D vwCl ws H ∧ va_D A ws ∧ va_S A H0 H locs
/-- the start of a method over the cells ws -/
def Pre1 (D : va_G) (y : Nat → ClassId) (ws : va_W) (sz : Nat) : State → Prop := fun U => U.heap.size = sz ∧ va_P D vwCl ws U.heap ∧ KK D y U ∧ va_D (fun _ => True) ws
theorem pre_blind {av : List Value} {D : va_G} {y : Nat → ClassId} {ws : va_W} {sz : Nat} : FrameBlind (va_Pc av (Pre1 D y ws sz)) := fun a U g mk q =>
  ⟨q.1, q.2.1, q.2.2.1, ⟨va_K.moved (u := U) (U := U.calling g mk a) (Vm.Alike.refl U.vm) q.2.2.2.1.1, NWs.same (u := U) (U := U.calling g mk a) rfl q.2.2.2.1.2⟩, q.2.2.2.2⟩
/-- the end: the answer r, the cells ws' -/
abbrev PoI (D : va_G) (r : Int32) (ws ws' : va_W) (sz : Nat) : Array Value → State → Outcome → State → Prop := va_Qi (fun (x : Int32) (_ : Unit) => x = r) (fun _ t => va_P D vwCl ws' t.heap) (va_A ws sz)
abbrev PoV (D : va_G) (ws ws' : va_W) (sz : Nat) : Array Value → State → Outcome → State → Prop := va_Qv (fun (_ : Unit) => True) (fun _ t => va_P D vwCl ws' t.heap) (va_A ws sz)
abbrev MI (l : Launch) (yn : MethodName) (wn : List Cond) (fr lo : Nat) (av : List Value) (D : va_G) (y : Nat → ClassId) (ws : va_W) (sz : Nat) (r : Int32) (ws' : va_W) : Prop :=
  Met l yn wn ({ frames := fr, cells := 0, slots := 0, locals := lo }) (va_Pc av (Pre1 D y ws sz)) (PoI D r ws ws' sz) 0 0 (va_A ws sz)
abbrev MV (l : Launch) (yn : MethodName) (wn : List Cond) (fr lo : Nat) (av : List Value) (D : va_G) (y : Nat → ClassId) (ws : va_W) (sz : Nat) (ws' : va_W) : Prop :=
  Met l yn wn ({ frames := fr, cells := 0, slots := 0, locals := lo }) (va_Pc av (Pre1 D y ws sz)) (PoV D ws ws' sz) 0 0 (va_A ws sz)
theorem va_D.addr {A : Nat → Prop} {ws ws' : va_W} (h : va_D A ws) (e : ws'.map Prod.fst = ws.map Prod.fst) : va_D A ws' := by
  have key : ∀ (k : Nat) (q : Nat × va_E), ws'[k]? = some q → ∃ q0, ws[k]? = some q0 ∧ q0.1 = q.1 := by
    intro k q hq
    have h1 : (ws'.map Prod.fst)[k]? = some q.1 := by rw [List.getElem?_map, hq]; rfl
    rw [e, List.getElem?_map] at h1
    cases hw : ws[k]? with
    | none => rw [hw] at h1; cases h1
    | some q0 => rw [hw] at h1; exact ⟨q0, rfl, Option.some.inj h1⟩
  refine ⟨fun i j p q hi hj hpq => ?_, fun k q hk => ?_⟩
  · obtain ⟨p0, a1, a2⟩ := key i p hi
    obtain ⟨q0, b1, b2⟩ := key j q hj
    exact h.1 i j p0 q0 a1 b1 (by rw [a2, b2, hpq])
  · obtain ⟨q0, a1, a2⟩ := key k q hk
    rw [← a2]
    exact h.2 k q0 a1
theorem va_D.mem {A : Nat → Prop} {ws : va_W} (h : va_D A ws) {p q : Nat × va_E} (hp : p ∈ ws) (hq : q ∈ ws) (e : p.1 = q.1) : p = q := by
  obtain ⟨i, hi⟩ := List.getElem?_of_mem hp
  obtain ⟨j, hj⟩ := List.getElem?_of_mem hq
  have := h.1 i j p q hi hj e
  subst this
  rw [hi] at hj
  exact Option.some.inj hj
theorem va_P.mem {D : va_G} {cl : List vw_C} {ws : va_W} {H : Heap} (h : va_P D cl ws H) {q : Nat × va_E} (hq : q ∈ ws) : va_at D cl q H := by
  obtain ⟨i, hi⟩ := List.getElem?_of_mem hq
  exact h i q hi
theorem va_P.of {D : va_G} {cl : List vw_C} {ws : va_W} {H : Heap} (h : ∀ q ∈ ws, va_at D cl q H) : va_P D cl ws H := fun _ q hk => h q (List.mem_of_getElem? hk)
/-- behind a call over the cells wc: ws2 holds the callee's new cells, and old ones that weren't the callee's -/
theorem GG.call {D : va_G} {A : Nat → Prop} {H0 H H1 : Heap} {ws wc wc' ws2 : va_W} {locs locs1 : List Loc} (hG : GG D A H0 ws H locs)
    (ha : ws2.map Prod.fst = ws.map Prod.fst) (h2 : ∀ q ∈ ws2, q ∈ wc' ∨ (q ∈ ws ∧ q.1 ∉ wc.map Prod.fst))
    (hk : ∀ q : Nat, q < H.size → ¬ va_A wc H.size q → H1[q]? = H[q]?) (hP1 : va_P D vwCl wc' H1) (hS1 : va_S A H0 H1 locs1) : GG D A H0 ws2 H1 locs1 := by
  refine ⟨va_P.of (fun q hq => ?_), hG.2.1.addr ha, hS1⟩
  rcases h2 q hq with h | ⟨h, hn⟩
  · exact hP1.mem h
  · have h3 := hG.1.mem h
    refine h3.kept (hk q.1 h3.lt (fun hA => ?_))
    rcases hA with ⟨k, e, h4⟩ | h4
    · exact hn (List.mem_map.mpr ⟨_, List.mem_of_getElem? h4, rfl⟩)
    · exact absurd h3.lt (by omega)
/-- the cells at the places is get new contents -/
def stL : va_W → List Nat → va_W → va_W
  | ws, i :: is, q :: qs => stL (ws.set i q) is qs
  | ws, _, _ => ws
theorem stL_get : ∀ (is : List Nat) (qs ws : va_W) (k : Nat) (q : Nat × va_E), is.length = qs.length → (stL ws is qs)[k]? = some q → q ∈ qs ∨ (k ∉ is ∧ ws[k]? = some q)
  | [], qs, ws, k, q, hl, h => by
    cases qs with
    | nil => exact Or.inr ⟨List.not_mem_nil, h⟩
    | cons a qs => simp at hl
  | i :: is, [], ws, k, q, hl, h => by simp at hl
  | i :: is, a :: qs, ws, k, q, hl, h => by
    have hl' : is.length = qs.length := by simpa using hl
    rcases stL_get is qs (ws.set i a) k q hl' h with h1 | ⟨h1, h2⟩
    · exact Or.inl (List.mem_cons_of_mem _ h1)
    · by_cases hk : k = i
      · subst hk
        have hlt : k < (ws.set k a).length := (List.getElem?_eq_some_iff.mp h2).1
        rw [List.length_set] at hlt
        rw [List.getElem?_set_self hlt] at h2
        cases h2
        exact Or.inl List.mem_cons_self
      · rw [List.getElem?_set_ne (Ne.symm hk)] at h2
        exact Or.inr ⟨fun hm => (List.mem_cons.mp hm).elim hk h1, h2⟩
theorem stL_addr : ∀ (is : List Nat) (qs ws : va_W), is.map (fun i => (ws.map Prod.fst)[i]?) = qs.map (fun q => some q.1) → (stL ws is qs).map Prod.fst = ws.map Prod.fst
  | [], [], ws, _ => rfl
  | [], a :: qs, ws, h => by simp at h
  | i :: is, [], ws, h => by simp at h
  | i :: is, a :: qs, ws, h => by
    simp only [List.map_cons, List.cons.injEq] at h
    have e : (ws.set i a).map Prod.fst = ws.map Prod.fst := by
      rw [List.map_set]
      apply List.ext_getElem?
      intro k
      by_cases hk : k = i
      · subst hk
        have hlt : k < (ws.map Prod.fst).length := (List.getElem?_eq_some_iff.mp h.1).1
        rw [List.getElem?_set_self hlt, h.1]
      · rw [List.getElem?_set_ne (Ne.symm hk)]
    show (stL (ws.set i a) is qs).map Prod.fst = _
    rw [stL_addr is qs (ws.set i a) (by rw [e]; exact h.2), e]
theorem GG.callP {D : va_G} {A : Nat → Prop} {H0 H H1 : Heap} {ws wc wc' : va_W} {locs locs1 : List Loc} (hG : GG D A H0 ws H locs) (is : List Nat)
    (hsub : is.map (fun i => ws[i]?) = wc.map some) (hadr : wc'.map Prod.fst = wc.map Prod.fst)
    (hk : ∀ q : Nat, q < H.size → ¬ va_A wc H.size q → H1[q]? = H[q]?) (hP1 : va_P D vwCl wc' H1) (hS1 : va_S A H0 H1 locs1) : GG D A H0 (stL ws is wc') H1 locs1 := by
  have hl : is.length = wc.length := by
    have := congrArg List.length hsub
    simpa using this
  have hl' : is.length = wc'.length := by
    have := congrArg List.length hadr
    simp at this
    omega
  have hsa : is.map (fun i => (ws.map Prod.fst)[i]?) = wc'.map (fun q => some q.1) := by
    have h1 : is.map (fun i => (ws.map Prod.fst)[i]?) = (is.map (fun i => ws[i]?)).map (Option.map Prod.fst) := by
      rw [List.map_map]
      apply List.map_congr_left
      intro i _
      simp
    rw [h1, hsub, List.map_map]
    have h2 := congrArg (List.map some) hadr
    rw [List.map_map, List.map_map] at h2
    exact h2.symm
  refine hG.call (stL_addr is wc' ws hsa) (fun q hq => ?_) hk hP1 hS1
  obtain ⟨k, hkq⟩ := List.getElem?_of_mem hq
  rcases stL_get is wc' ws k q hl' hkq with h | ⟨h1, h2⟩
  · exact Or.inl h
  · refine Or.inr ⟨List.mem_of_getElem? h2, fun hm => ?_⟩
    obtain ⟨p, hp, hpq⟩ := List.mem_map.mp hm
    obtain ⟨n, hn⟩ := List.getElem?_of_mem hp
    have h3 : (is.map (fun i => ws[i]?))[n]? = some (some p) := by rw [hsub, List.getElem?_map, hn]; rfl
    rw [List.getElem?_map] at h3
    cases hi : is[n]? with
    | none => rw [hi] at h3; cases h3
    | some i =>
      rw [hi] at h3
      have h4 : ws[i]? = some p := Option.some.inj h3
      have := hG.2.1.1 i k p q h4 h2 hpq
      subst this
      exact h1 (List.mem_of_getElem? hi)
theorem GG.part {D : va_G} {A : Nat → Prop} {H0 H : Heap} {ws wc : va_W} {locs : List Loc} (hG : GG D A H0 ws H locs) (hA : ∀ q, H0.size ≤ q → A q) (is : List Nat) (hsub : is.map (fun i => ws[i]?) = wc.map some) (hn : va_nd is = true) :
    va_P D vwCl wc H ∧ va_D (fun _ => True) wc ∧ ∀ q, va_A wc H.size q → A q := by
  refine ⟨fun k q hk => ?_, (hG.2.1.sub is hn hsub).weaken (fun _ _ _ _ => trivial), va_free hG.2.1 hG.2.2 hA is hsub⟩
  have h1 : (is.map (fun i => ws[i]?))[k]? = some (some q) := by rw [hsub, List.getElem?_map, hk]; rfl
  rw [List.getElem?_map] at h1
  cases hi : is[k]? with
  | none => rw [hi] at h1; cases h1
  | some i => rw [hi] at h1; exact hG.1 i q (Option.some.inj h1)
abbrev RM (fr lo : Nat) : Room := { frames := fr, cells := 0, slots := 0, locals := lo }
/-- Math.min, Math.max as the JDK's code has them -/
def jmin (x y : Int32) : Int32 := if y < x then y else x
def jmax (x y : Int32) : Int32 := if x < y then y else x
/-- System.arraycopy goes through -/
def cpok (n0 n1 : Nat) (sp dp n : Int32) : Bool := nn sp && nn dp && nn n && le (sp.toNatClampNeg + n.toNatClampNeg) n0 && le (dp.toNatClampNeg + n.toNatClampNeg) n1
theorem cpok_e {n0 n1 : Nat} {sp dp n : Int32} (h : cpok n0 n1 sp dp n = true) : ¬ sp < 0 ∧ ¬ dp < 0 ∧ ¬ n < 0 ∧ sp.toNatClampNeg + n.toNatClampNeg ≤ n0 ∧ dp.toNatClampNeg + n.toNatClampNeg ≤ n1 := by
  simp only [cpok, Bool.and_eq_true] at h
  exact ⟨nn_e h.1.1.1.1, nn_e h.1.1.1.2, nn_e h.1.1.2, le_e h.1.2, le_e h.2⟩
abbrev cpA (f g : Ar) (sp dp n : Int32) : Ar := va_cpy f g sp.toNatClampNeg dp.toNatClampNeg n.toNatClampNeg
section BW
variable {p : Program} {l : Launch} {e : Env} {R : Room} {s : State} {m : MethodId} {args : Array Value} {below : List Frame} {meth : Method} {c : Code} {H : Heap} {locs : List Loc} {cells slots : Nat} {Q : State → Prop}
variable {cc : ByteArray} {nL pc : Nat} {ls : Array Slot} {rest : List Value} {Ts : List Cond} {own : String} {D : va_G} {y : Nat → ClassId} {A : Nat → Prop} {H0 : Heap} {ws : va_W}
theorem w_nm {x v : Int32} (h : v = x) (k : W p l e R s m args below meth c H locs cells slots Q (F0 m pc ls (.int v :: rest))) : W p l e R s m args below meth c H locs cells slots Q (F0 m pc ls (.int x :: rest)) := h ▸ k
theorem w_get0 (F : CallFix p m c cc nL s args Ts own) (hK : KK D y s) (hG : GG D A H0 ws H locs) (hin : ∀ w ∈ wsX00, w ∈ Ts) (q0 : Nat) {a : Nat} {fs : List Value} (he : ws[q0]? = some (a, .inr (0, fs))) (k : Nat) (hk : k < 3) {index : Nat} (hlink : (Cond.fieldLink own index (TX0 k).1 (TX0 k).2.1 (TX0 k).2.2.1).before args s = true) {v : Value} (hv : fs[k]? = some v) (hdg : decode cc pc = .ok (.getfield index, 3)) (kk : W p l e R s m args below meth c H locs cells slots Q (F0 m (pc + 3) ls (v :: rest))) : W p l e R s m args below meth c H locs cells slots Q (F0 m pc ls (.ref a :: rest)) :=
  va_get (C := RX0) (T := TX0) (N := 3) F.1 F.2.1 F.2.2.2.2 hin F.2.2.2.1 hK.1 hG.1 q0 he rfl k hk hlink (fun _ h => h) hv hdg kk
theorem w_put0 (F : CallFix p m c cc nL s args Ts own) (hK : KK D y s) (hG : GG D A H0 ws H locs) (hin : ∀ w ∈ wsX00, w ∈ Ts) (q0 : Nat) {a : Nat} {fs : List Value} (he : ws[q0]? = some (a, .inr (0, fs))) (k : Nat) (hk : k < 3) {index : Nat} (hlink : (Cond.fieldLink own index (TX0 k).1 (TX0 k).2.1 (TX0 k).2.2.1).before args s = true) (hfin : (TX0 k).2.2.2 = false) {v : Value} (hn : narrow (tyX0 k) v = v) (hfit : fits (tyX0 k) v = true) (hl : k < fs.length) (ws2 : va_W) (hw : ws.set q0 (a, .inr (0, fs.set k v)) = ws2) (hdg : decode cc pc = .ok (.putfield index, 3)) (kk : ∀ (H : Heap) (locs : List Loc), GG D A H0 ws2 H locs → W p l e R s m args below meth c H locs cells slots Q (F0 m (pc + 3) ls rest)) : W p l e R s m args below meth c H locs cells slots Q (F0 m pc ls (v :: .ref a :: rest)) :=
  va_put (C := RX0) (T := TX0) (N := 3) F.1 F.2.1 F.2.2.2.2 hin tyX0 tyX0_ok nmX0 F.2.2.2.1 hK.1 hG.1 hG.2.1 hG.2.2 q0 he rfl k hk hlink (fun _ h => h) hfin (tyX0_ok k hk) hn hfit hl hdg (fun H1 l1 h1 h2 h3 => kk H1 l1 (by rw [← hw]; exact ⟨h1, h2, h3⟩))
theorem w_get1 (F : CallFix p m c cc nL s args Ts own) (hK : KK D y s) (hG : GG D A H0 ws H locs) (hin : ∀ w ∈ wsX10, w ∈ Ts) (q0 : Nat) {a : Nat} {fs : List Value} (he : ws[q0]? = some (a, .inr (1, fs))) (k : Nat) (hk : k < 2) {index : Nat} (hlink : (Cond.fieldLink own index (TX1 k).1 (TX1 k).2.1 (TX1 k).2.2.1).before args s = true) {v : Value} (hv : fs[k]? = some v) (hdg : decode cc pc = .ok (.getfield index, 3)) (kk : W p l e R s m args below meth c H locs cells slots Q (F0 m (pc + 3) ls (v :: rest))) : W p l e R s m args below meth c H locs cells slots Q (F0 m pc ls (.ref a :: rest)) :=
  va_get (C := RX1) (T := TX1) (N := 2) F.1 F.2.1 F.2.2.2.2 hin F.2.2.2.1 hK.1 hG.1 q0 he rfl k hk hlink (fun _ h => h) hv hdg kk
theorem w_put1 (F : CallFix p m c cc nL s args Ts own) (hK : KK D y s) (hG : GG D A H0 ws H locs) (hin : ∀ w ∈ wsX10, w ∈ Ts) (q0 : Nat) {a : Nat} {fs : List Value} (he : ws[q0]? = some (a, .inr (1, fs))) (k : Nat) (hk : k < 2) {index : Nat} (hlink : (Cond.fieldLink own index (TX1 k).1 (TX1 k).2.1 (TX1 k).2.2.1).before args s = true) (hfin : (TX1 k).2.2.2 = false) {v : Value} (hn : narrow (tyX1 k) v = v) (hfit : fits (tyX1 k) v = true) (hl : k < fs.length) (ws2 : va_W) (hw : ws.set q0 (a, .inr (1, fs.set k v)) = ws2) (hdg : decode cc pc = .ok (.putfield index, 3)) (kk : ∀ (H : Heap) (locs : List Loc), GG D A H0 ws2 H locs → W p l e R s m args below meth c H locs cells slots Q (F0 m (pc + 3) ls rest)) : W p l e R s m args below meth c H locs cells slots Q (F0 m pc ls (v :: .ref a :: rest)) :=
  va_put (C := RX1) (T := TX1) (N := 2) F.1 F.2.1 F.2.2.2.2 hin tyX1 tyX1_ok nmX1 F.2.2.2.1 hK.1 hG.1 hG.2.1 hG.2.2 q0 he rfl k hk hlink (fun _ h => h) hfin (tyX1_ok k hk) hn hfit hl hdg (fun H1 l1 h1 h2 h3 => kk H1 l1 (by rw [← hw]; exact ⟨h1, h2, h3⟩))
theorem w_get2 (F : CallFix p m c cc nL s args Ts own) (hK : KK D y s) (hG : GG D A H0 ws H locs) (hin : ∀ w ∈ wsX20, w ∈ Ts) (q0 : Nat) {a : Nat} {fs : List Value} (he : ws[q0]? = some (a, .inr (2, fs))) (k : Nat) (hk : k < 12) {index : Nat} (hlink : (Cond.fieldLink own index (TX2 k).1 (TX2 k).2.1 (TX2 k).2.2.1).before args s = true) {v : Value} (hv : fs[k]? = some v) (hdg : decode cc pc = .ok (.getfield index, 3)) (kk : W p l e R s m args below meth c H locs cells slots Q (F0 m (pc + 3) ls (v :: rest))) : W p l e R s m args below meth c H locs cells slots Q (F0 m pc ls (.ref a :: rest)) :=
  va_get (C := RX2) (T := TX2) (N := 12) F.1 F.2.1 F.2.2.2.2 hin F.2.2.2.1 hK.1 hG.1 q0 he rfl k hk hlink (fun _ h => h) hv hdg kk
theorem w_put2 (F : CallFix p m c cc nL s args Ts own) (hK : KK D y s) (hG : GG D A H0 ws H locs) (hin : ∀ w ∈ wsX20, w ∈ Ts) (q0 : Nat) {a : Nat} {fs : List Value} (he : ws[q0]? = some (a, .inr (2, fs))) (k : Nat) (hk : k < 12) {index : Nat} (hlink : (Cond.fieldLink own index (TX2 k).1 (TX2 k).2.1 (TX2 k).2.2.1).before args s = true) (hfin : (TX2 k).2.2.2 = false) {v : Value} (hn : narrow (tyX2 k) v = v) (hfit : fits (tyX2 k) v = true) (hl : k < fs.length) (ws2 : va_W) (hw : ws.set q0 (a, .inr (2, fs.set k v)) = ws2) (hdg : decode cc pc = .ok (.putfield index, 3)) (kk : ∀ (H : Heap) (locs : List Loc), GG D A H0 ws2 H locs → W p l e R s m args below meth c H locs cells slots Q (F0 m (pc + 3) ls rest)) : W p l e R s m args below meth c H locs cells slots Q (F0 m pc ls (v :: .ref a :: rest)) :=
  va_put (C := RX2) (T := TX2) (N := 12) F.1 F.2.1 F.2.2.2.2 hin tyX2 tyX2_ok nmX2 F.2.2.2.1 hK.1 hG.1 hG.2.1 hG.2.2 q0 he rfl k hk hlink (fun _ h => h) hfin (tyX2_ok k hk) hn hfit hl hdg (fun H1 l1 h1 h2 h3 => kk H1 l1 (by rw [← hw]; exact ⟨h1, h2, h3⟩))
theorem w_get3 (F : CallFix p m c cc nL s args Ts own) (hK : KK D y s) (hG : GG D A H0 ws H locs) (hin : ∀ w ∈ wsX30, w ∈ Ts) (q0 : Nat) {a : Nat} {fs : List Value} (he : ws[q0]? = some (a, .inr (3, fs))) (k : Nat) (hk : k < 9) {index : Nat} (hlink : (Cond.fieldLink own index (TX3 k).1 (TX3 k).2.1 (TX3 k).2.2.1).before args s = true) {v : Value} (hv : fs[k]? = some v) (hdg : decode cc pc = .ok (.getfield index, 3)) (kk : W p l e R s m args below meth c H locs cells slots Q (F0 m (pc + 3) ls (v :: rest))) : W p l e R s m args below meth c H locs cells slots Q (F0 m pc ls (.ref a :: rest)) :=
  va_get (C := RX3) (T := TX3) (N := 9) F.1 F.2.1 F.2.2.2.2 hin F.2.2.2.1 hK.1 hG.1 q0 he rfl k hk hlink (fun _ h => h) hv hdg kk
theorem w_put3 (F : CallFix p m c cc nL s args Ts own) (hK : KK D y s) (hG : GG D A H0 ws H locs) (hin : ∀ w ∈ wsX30, w ∈ Ts) (q0 : Nat) {a : Nat} {fs : List Value} (he : ws[q0]? = some (a, .inr (3, fs))) (k : Nat) (hk : k < 9) {index : Nat} (hlink : (Cond.fieldLink own index (TX3 k).1 (TX3 k).2.1 (TX3 k).2.2.1).before args s = true) (hfin : (TX3 k).2.2.2 = false) {v : Value} (hn : narrow (tyX3 k) v = v) (hfit : fits (tyX3 k) v = true) (hl : k < fs.length) (ws2 : va_W) (hw : ws.set q0 (a, .inr (3, fs.set k v)) = ws2) (hdg : decode cc pc = .ok (.putfield index, 3)) (kk : ∀ (H : Heap) (locs : List Loc), GG D A H0 ws2 H locs → W p l e R s m args below meth c H locs cells slots Q (F0 m (pc + 3) ls rest)) : W p l e R s m args below meth c H locs cells slots Q (F0 m pc ls (v :: .ref a :: rest)) :=
  va_put (C := RX3) (T := TX3) (N := 9) F.1 F.2.1 F.2.2.2.2 hin tyX3 tyX3_ok nmX3 F.2.2.2.1 hK.1 hG.1 hG.2.1 hG.2.2 q0 he rfl k hk hlink (fun _ h => h) hfin (tyX3_ok k hk) hn hfit hl hdg (fun H1 l1 h1 h2 h3 => kk H1 l1 (by rw [← hw]; exact ⟨h1, h2, h3⟩))
theorem w_get4 (F : CallFix p m c cc nL s args Ts own) (hK : KK D y s) (hG : GG D A H0 ws H locs) (hin : ∀ w ∈ wsX40, w ∈ Ts) (q0 : Nat) {a : Nat} {fs : List Value} (he : ws[q0]? = some (a, .inr (4, fs))) (k : Nat) (hk : k < 21) {index : Nat} (hlink : (Cond.fieldLink own index (TX4 k).1 (TX4 k).2.1 (TX4 k).2.2.1).before args s = true) {v : Value} (hv : fs[k]? = some v) (hdg : decode cc pc = .ok (.getfield index, 3)) (kk : W p l e R s m args below meth c H locs cells slots Q (F0 m (pc + 3) ls (v :: rest))) : W p l e R s m args below meth c H locs cells slots Q (F0 m pc ls (.ref a :: rest)) :=
  va_get (C := RX4) (T := TX4) (N := 21) F.1 F.2.1 F.2.2.2.2 hin F.2.2.2.1 hK.1 hG.1 q0 he rfl k hk hlink (fun _ h => h) hv hdg kk
theorem w_put4 (F : CallFix p m c cc nL s args Ts own) (hK : KK D y s) (hG : GG D A H0 ws H locs) (hin : ∀ w ∈ wsX40, w ∈ Ts) (q0 : Nat) {a : Nat} {fs : List Value} (he : ws[q0]? = some (a, .inr (4, fs))) (k : Nat) (hk : k < 21) {index : Nat} (hlink : (Cond.fieldLink own index (TX4 k).1 (TX4 k).2.1 (TX4 k).2.2.1).before args s = true) (hfin : (TX4 k).2.2.2 = false) {v : Value} (hn : narrow (tyX4 k) v = v) (hfit : fits (tyX4 k) v = true) (hl : k < fs.length) (ws2 : va_W) (hw : ws.set q0 (a, .inr (4, fs.set k v)) = ws2) (hdg : decode cc pc = .ok (.putfield index, 3)) (kk : ∀ (H : Heap) (locs : List Loc), GG D A H0 ws2 H locs → W p l e R s m args below meth c H locs cells slots Q (F0 m (pc + 3) ls rest)) : W p l e R s m args below meth c H locs cells slots Q (F0 m pc ls (v :: .ref a :: rest)) :=
  va_put (C := RX4) (T := TX4) (N := 21) F.1 F.2.1 F.2.2.2.2 hin tyX4 tyX4_ok nmX4 F.2.2.2.1 hK.1 hG.1 hG.2.1 hG.2.2 q0 he rfl k hk hlink (fun _ h => h) hfin (tyX4_ok k hk) hn hfit hl hdg (fun H1 l1 h1 h2 h3 => kk H1 l1 (by rw [← hw]; exact ⟨h1, h2, h3⟩))
theorem w_iald (F : CallFix p m c cc nL s args Ts own) (hK : KK D y s) (hG : GG D A H0 ws H locs) (q0 : Nat) {a n : Nat} {f : Ar} (ha : ws[q0]? = some (a, .inl (y 0, n, .inl f))) {i : Int32} (hin : ix i n = true) (hdg : decode cc pc = .ok (.iaload, 1)) (kk : W p l e R s m args below meth c H locs cells slots Q (F0 m (pc + 1) ls (.int (f i.toNatClampNeg) :: rest))) : W p l e R s m args below meth c H locs cells slots Q (F0 m pc ls (.int i :: .ref a :: rest)) :=
  va_iald F.1 F.2.1 hK.1 hG.1 q0 0 ha rfl (ix_in hin) hdg kk
theorem w_ialdk (F : CallFix p m c cc nL s args Ts own) (hK : KK D y s) (hG : GG D A H0 ws H locs) (q0 : Nat) {a n : Nat} {f : Ar} (ha : ws[q0]? = some (a, .inl (y 0, n, .inl f))) {i : Nat} (hin : i < n) (hs : i < 2 ^ 31) (hdg : decode cc pc = .ok (.iaload, 1)) (kk : W p l e R s m args below meth c H locs cells slots Q (F0 m (pc + 1) ls (.int (f i) :: rest))) : W p l e R s m args below meth c H locs cells slots Q (F0 m pc ls (.int (nI i) :: .ref a :: rest)) := by
  refine va_iald F.1 F.2.1 hK.1 hG.1 q0 0 ha rfl (i := nI i) ?_ hdg ?_
  · intro h
    rcases h with h | h
    · exact nI_pos hs h
    · rw [nI_clamp hs] at h; omega
  · rw [nI_clamp hs]; exact kk
theorem w_iast (F : CallFix p m c cc nL s args Ts own) (hK : KK D y s) (hG : GG D A H0 ws H locs) (q0 : Nat) {a n : Nat} {f : Ar} (ha : ws[q0]? = some (a, .inl (y 0, n, .inl f))) {i x : Int32} (hin : ix i n = true) (ws2 : va_W) (hw : ws.set q0 (a, .inl (y 0, n, .inl (upd f i.toNatClampNeg x))) = ws2) (hdg : decode cc pc = .ok (.iastore, 1)) (kk : ∀ (H : Heap) (locs : List Loc), GG D A H0 ws2 H locs → W p l e R s m args below meth c H locs cells slots Q (F0 m (pc + 1) ls rest)) : W p l e R s m args below meth c H locs cells slots Q (F0 m pc ls (.int x :: .int i :: .ref a :: rest)) :=
  va_iast F.1 F.2.1 hK.1 hG.1 hG.2.1 hG.2.2 q0 0 ha rfl (ix_in hin) hdg (fun H1 l1 h1 h2 h3 => kk H1 l1 (by rw [← hw]; exact ⟨h1, h2, h3⟩))
theorem w_iastk (F : CallFix p m c cc nL s args Ts own) (hK : KK D y s) (hG : GG D A H0 ws H locs) (q0 : Nat) {a n : Nat} {f : Ar} (ha : ws[q0]? = some (a, .inl (y 0, n, .inl f))) {i : Nat} {x : Int32} (hin : i < n) (hs : i < 2 ^ 31) (ws2 : va_W) (hw : ws.set q0 (a, .inl (y 0, n, .inl (upd f i x))) = ws2) (hdg : decode cc pc = .ok (.iastore, 1)) (kk : ∀ (H : Heap) (locs : List Loc), GG D A H0 ws2 H locs → W p l e R s m args below meth c H locs cells slots Q (F0 m (pc + 1) ls rest)) : W p l e R s m args below meth c H locs cells slots Q (F0 m pc ls (.int x :: .int (nI i) :: .ref a :: rest)) := by
  refine va_iast F.1 F.2.1 hK.1 hG.1 hG.2.1 hG.2.2 q0 0 ha rfl (i := nI i) ?_ hdg (fun H1 l1 h1 h2 h3 => kk H1 l1 ?_)
  · intro h
    rcases h with h | h
    · exact nI_pos hs h
    · rw [nI_clamp hs] at h; omega
  · rw [nI_clamp hs, hw] at h1 h2; exact ⟨h1, h2, h3⟩
theorem w_zald (F : CallFix p m c cc nL s args Ts own) (hK : KK D y s) (hG : GG D A H0 ws H locs) (q0 : Nat) {a n : Nat} {f : Ar} (ha : ws[q0]? = some (a, .inl (y 1, n, .inl f))) {i : Int32} (hin : ix i n = true) (hdg : decode cc pc = .ok (.baload, 1)) (kk : W p l e R s m args below meth c H locs cells slots Q (F0 m (pc + 1) ls (.int (f i.toNatClampNeg) :: rest))) : W p l e R s m args below meth c H locs cells slots Q (F0 m pc ls (.int i :: .ref a :: rest)) :=
  va_zald F.1 F.2.1 hK.1 hG.1 q0 1 ha rfl (ix_in hin) hdg kk
theorem w_zast (F : CallFix p m c cc nL s args Ts own) (hK : KK D y s) (hG : GG D A H0 ws H locs) (q0 : Nat) {a n : Nat} {f : Ar} (ha : ws[q0]? = some (a, .inl (y 1, n, .inl f))) {i x : Int32} (hx : vp_nar .boolean x = x) (hin : ix i n = true) (ws2 : va_W) (hw : ws.set q0 (a, .inl (y 1, n, .inl (upd f i.toNatClampNeg x))) = ws2) (hdg : decode cc pc = .ok (.bastore, 1)) (kk : ∀ (H : Heap) (locs : List Loc), GG D A H0 ws2 H locs → W p l e R s m args below meth c H locs cells slots Q (F0 m (pc + 1) ls rest)) : W p l e R s m args below meth c H locs cells slots Q (F0 m pc ls (.int x :: .int i :: .ref a :: rest)) :=
  va_zast F.1 F.2.1 hK.1 hG.1 hG.2.1 hG.2.2 q0 1 ha rfl (ix_in hin) hdg (fun H1 l1 h1 h2 h3 => kk H1 l1 (by rw [hx] at h1 h2; rw [← hw]; exact ⟨h1, h2, h3⟩))
theorem w_cald (F : CallFix p m c cc nL s args Ts own) (hK : KK D y s) (hG : GG D A H0 ws H locs) (q0 : Nat) {a n : Nat} {f : Ar} (ha : ws[q0]? = some (a, .inl (y 2, n, .inl f))) {i : Int32} (hin : ix i n = true) (hdg : decode cc pc = .ok (.caload, 1)) (kk : W p l e R s m args below meth c H locs cells slots Q (F0 m (pc + 1) ls (.int (f i.toNatClampNeg) :: rest))) : W p l e R s m args below meth c H locs cells slots Q (F0 m pc ls (.int i :: .ref a :: rest)) :=
  va_cald F.1 F.2.1 hK.1 hG.1 q0 2 ha rfl (ix_in hin) hdg kk
theorem w_cast (F : CallFix p m c cc nL s args Ts own) (hK : KK D y s) (hG : GG D A H0 ws H locs) (q0 : Nat) {a n : Nat} {f : Ar} (ha : ws[q0]? = some (a, .inl (y 2, n, .inl f))) {i x : Int32} (hx : vp_nar .char x = x) (hin : ix i n = true) (ws2 : va_W) (hw : ws.set q0 (a, .inl (y 2, n, .inl (upd f i.toNatClampNeg x))) = ws2) (hdg : decode cc pc = .ok (.castore, 1)) (kk : ∀ (H : Heap) (locs : List Loc), GG D A H0 ws2 H locs → W p l e R s m args below meth c H locs cells slots Q (F0 m (pc + 1) ls rest)) : W p l e R s m args below meth c H locs cells slots Q (F0 m pc ls (.int x :: .int i :: .ref a :: rest)) :=
  va_cast F.1 F.2.1 hK.1 hG.1 hG.2.1 hG.2.2 q0 2 ha rfl (ix_in hin) hdg (fun H1 l1 h1 h2 h3 => kk H1 l1 (by rw [hx] at h1 h2; rw [← hw]; exact ⟨h1, h2, h3⟩))
theorem w_copy (F : CallFix p m c cc nL s args Ts own) (hK : KK D y s) (hG : GG D A H0 ws H locs) (hsz : ls.size = nL) {index : Nat} (hlink : (Cond.methodLink own index arraycopyName).before args s = true) (hnat : (Cond.native arraycopyName).before args s = true) (hstat : (Cond.static arraycopyName).before args s = true) (hini : (Cond.initialized "java/lang/System").before args s = true) (q0 q1 : Nat) {a0 a1 n0 n1 : Nat} {f g : Ar} (ha0 : ws[q0]? = some (a0, .inl (y 0, n0, .inl f))) (ha1 : ws[q1]? = some (a1, .inl (y 0, n1, .inl g))) {sp dp n : Int32} (hin : cpok n0 n1 sp dp n = true) (ws2 : va_W) (hw : ws.set q1 (a1, .inl (y 0, n1, .inl (cpA f g sp dp n))) = ws2) (hR : 1 ≤ R.frames ∧ (rest.map fun v => v.category).sum + (nativeFrameWords "java/lang/System" "arraycopy" 5 + 11) ≤ R.locals) (hdg : decode cc pc = .ok (.invokestatic index, 3)) (kk : ∀ (H : Heap) (locs : List Loc), GG D A H0 ws2 H locs → W p l e R s m args below meth c H locs cells slots Q (F0 m (pc + 3) ls rest)) : W p l e R s m args below meth c H locs cells slots Q (F0 m pc ls (.int n :: .int dp :: .ref a1 :: .int sp :: .ref a0 :: rest)) := by
  obtain ⟨h1, h2, h3, h4, h5⟩ := cpok_e hin
  exact va_copyi (ty := .int) F.1 F.2.1 (F.2.2.1.trans hsz.symm) F.2.2.2.1 hlink hnat hstat hini hK.1 hG.1 hG.2.1 hG.2.2 q0 q1 0 0 ha0 ha1 rfl rfl rfl h1 h2 h3 h4 h5 (fun _ _ => rfl) hR.1 hR.2 hdg (fun H1 l1 h1 h2 h3 => kk H1 l1 (by rw [← hw]; exact ⟨h1, h2, h3⟩))
theorem w_min (F : CallFix p m c cc nL s args Ts own) (hsz : ls.size = nL) {index : Nat} (hlink : (Cond.methodLink own index Lib.Math.min.name).before args s = true) (hstat : (Cond.static Lib.Math.min.name).before args s = true) (hini : (Cond.initialized "java/lang/Math").before args s = true) (hcode : (Cond.code Lib.Math.min.name Lib.Math.min.code 2 (some .int)).before args s = true) (hR : 1 ≤ R.frames ∧ (rest.map fun v => v.category).sum + 13 ≤ R.locals) (hc : cells ≤ R.cells ∧ slots ≤ R.slots) {x z : Int32} (hdg : decode cc pc = .ok (.invokestatic index, 3)) (kk : W p l e R s m args below meth c H locs cells slots Q (F0 m (pc + 3) ls (.int (jmin x z) :: rest))) : W p l e R s m args below meth c H locs cells slots Q (F0 m pc ls (.int z :: .int x :: rest)) :=
  va_mmin F.1 F.2.1 (F.2.2.1.trans hsz.symm) F.2.2.2.1 hlink hstat hini hcode hR.1 hR.2 hc.1 hc.2 hdg kk
theorem w_max (F : CallFix p m c cc nL s args Ts own) (hsz : ls.size = nL) {index : Nat} (hlink : (Cond.methodLink own index Lib.Math.max.name).before args s = true) (hstat : (Cond.static Lib.Math.max.name).before args s = true) (hini : (Cond.initialized "java/lang/Math").before args s = true) (hcode : (Cond.code Lib.Math.max.name Lib.Math.max.code 2 (some .int)).before args s = true) (hR : 1 ≤ R.frames ∧ (rest.map fun v => v.category).sum + 13 ≤ R.locals) (hc : cells ≤ R.cells ∧ slots ≤ R.slots) {x z : Int32} (hdg : decode cc pc = .ok (.invokestatic index, 3)) (kk : W p l e R s m args below meth c H locs cells slots Q (F0 m (pc + 3) ls (.int (jmax x z) :: rest))) : W p l e R s m args below meth c H locs cells slots Q (F0 m pc ls (.int z :: .int x :: rest)) :=
  va_mmax F.1 F.2.1 (F.2.2.1.trans hsz.symm) F.2.2.2.1 hlink hstat hini hcode hR.1 hR.2 hc.1 hc.2 hdg kk
theorem w_aald (F : CallFix p m c cc nL s args Ts own) (hK : KK D y s) (hG : GG D A H0 ws H locs) (q0 : Nat) {a n : Nat} {f : Nat → Option Nat} (ha : ws[q0]? = some (a, .inl (y 3, n, .inr (.inr (.inr (.inr f)))))) {i : Int32} (hin : ix i n = true) {k v : Nat} (hk : k = i.toNatClampNeg) (hv : f k = some v) (hdg : decode cc pc = .ok (.aaload, 1)) (kk : W p l e R s m args below meth c H locs cells slots Q (F0 m (pc + 1) ls (.ref v :: rest))) : W p l e R s m args below meth c H locs cells slots Q (F0 m pc ls (.int i :: .ref a :: rest)) := by
  subst hk
  refine va_aldq F.1 F.2.1 hK.1 hG.1 q0 3 ha rfl (ix_in hin) hdg ?_
  rw [hv]
  exact kk
variable {yn : MethodName} {wn wn' : List Cond} {fr lo : Nat} {As : List Value} {wc wc' : va_W} {b : Nat} {bytes : ByteArray} {maxL n index : Nat} {st0 : List Value}
theorem pre_of (hK : KK D y s) (av : List Value) (hP : va_P D vwCl wc H) (hD : va_D (fun _ => True) wc) : ∀ U : State, U.heap = H → s.WarmedH U.vm → va_Pc av (Pre1 D y wc H.size) av.toArray U := fun U hU hW => ⟨rfl, by rw [hU], by rw [hU]; exact hP, ⟨va_K.moved hW.alike hK.1, hK.2.warm hW⟩, hD⟩
/-- a virtual call that answers an int (or a boolean), over the cells at the places is -/
theorem k_Vi (F : CallFix p m c cc nL s args Ts own) (hK : KK D y s) (hA : ∀ q, H0.size ≤ q → A q) (hG : GG D A H0 ws H locs) {r : Int32} {ret : Option FieldType} {C : String} {T : u_T} {N ci : Nat} {fs : List Value}
    (hM : MI l yn wn fr lo (.ref b :: As) D y wc H.size r wc') (cw : CallW R s args own C index yn bytes maxL ret wn (RM fr lo) 0 0 n)
    (j : Nat) (hb : wc[j]? = some (b, .inr (ci, fs))) (hc : vwCl[ci]? = some (C, T, N)) (is : List Nat) (hsub : is.map (fun i => ws[i]?) = wc.map some) (hnd : va_nd is = true) (hadr : wc'.map Prod.fst = wc.map Prod.fst) (ws2 : va_W) (hw2 : stL ws is wc' = ws2)
    (hst : st0 = As.reverse ++ .ref b :: rest) (hn : As.length = n) (hsz : ls.size = nL) (hcat : (rest.map fun v => v.category).sum ≤ 8) (hdg : decode cc pc = .ok (.invokevirtual index, 3)) (hf : cells ≤ R.cells ∧ slots ≤ R.slots)
    (kk : ∀ (H : Heap) (locs : List Loc), GG D A H0 ws2 H locs → W p l e R s m args below meth c H locs cells slots Q (F0 m (pc + 3) ls (.int r :: rest))) : W p l e R s m args below meth c H locs cells slots Q (F0 m pc ls st0) := by
  obtain ⟨hPc, hDc, hFc⟩ := hG.part hA is hsub hnd
  refine va_calli (va_runV (As := As) (rest := rest) F hM cw ⟨pre_blind, va_recv hK.1 hPc hc hb, pre_of hK _ hPc hDc⟩ rfl hn hsz hst (lv_room hcat) hdg hf) hG.2.2 (fun q _ h => hFc q h) hFc (fun r1 u t H1 locs1 ht hvm hw hB hz hk hS => ?_)
  subst hw
  subst hw2
  exact kk H1 locs1 (hG.callP is hsub hadr hk (ht ▸ hB) hS)
theorem k_Vv (F : CallFix p m c cc nL s args Ts own) (hK : KK D y s) (hA : ∀ q, H0.size ≤ q → A q) (hG : GG D A H0 ws H locs) {C : String} {T : u_T} {N ci : Nat} {fs : List Value}
    (hM : MV l yn wn fr lo (.ref b :: As) D y wc H.size wc') (cw : CallW R s args own C index yn bytes maxL none wn (RM fr lo) 0 0 n)
    (j : Nat) (hb : wc[j]? = some (b, .inr (ci, fs))) (hc : vwCl[ci]? = some (C, T, N)) (is : List Nat) (hsub : is.map (fun i => ws[i]?) = wc.map some) (hnd : va_nd is = true) (hadr : wc'.map Prod.fst = wc.map Prod.fst) (ws2 : va_W) (hw2 : stL ws is wc' = ws2)
    (hst : st0 = As.reverse ++ .ref b :: rest) (hn : As.length = n) (hsz : ls.size = nL) (hcat : (rest.map fun v => v.category).sum ≤ 8) (hdg : decode cc pc = .ok (.invokevirtual index, 3)) (hf : cells ≤ R.cells ∧ slots ≤ R.slots)
    (kk : ∀ (H : Heap) (locs : List Loc), GG D A H0 ws2 H locs → W p l e R s m args below meth c H locs cells slots Q (F0 m (pc + 3) ls rest)) : W p l e R s m args below meth c H locs cells slots Q (F0 m pc ls st0) := by
  obtain ⟨hPc, hDc, hFc⟩ := hG.part hA is hsub hnd
  refine va_callv (va_runV (As := As) (rest := rest) F hM cw ⟨pre_blind, va_recv hK.1 hPc hc hb, pre_of hK _ hPc hDc⟩ rfl hn hsz hst (lv_room hcat) hdg hf) hG.2.2 (fun q _ h => hFc q h) hFc (fun u t H1 locs1 ht hvm hw hB hz hk hS => ?_)
  subst hw2
  exact kk H1 locs1 (hG.callP is hsub hadr hk (ht ▸ hB) hS)
/-- the same over the caller's whole world -/
theorem k_Wi (F : CallFix p m c cc nL s args Ts own) (hK : KK D y s) (hA : ∀ q, H0.size ≤ q → A q) (hG : GG D A H0 ws H locs) {r : Int32} {ret : Option FieldType} {C : String} {T : u_T} {N ci : Nat} {fs : List Value}
    (hM : MI l yn wn fr lo (.ref b :: As) D y ws H.size r wc') (cw : CallW R s args own C index yn bytes maxL ret wn (RM fr lo) 0 0 n)
    (j : Nat) (hb : ws[j]? = some (b, .inr (ci, fs))) (hc : vwCl[ci]? = some (C, T, N)) (hadr : wc'.map Prod.fst = ws.map Prod.fst)
    (hst : st0 = As.reverse ++ .ref b :: rest) (hn : As.length = n) (hsz : ls.size = nL) (hcat : (rest.map fun v => v.category).sum ≤ 8) (hdg : decode cc pc = .ok (.invokevirtual index, 3)) (hf : cells ≤ R.cells ∧ slots ≤ R.slots)
    (kk : ∀ (H : Heap) (locs : List Loc), GG D A H0 wc' H locs → W p l e R s m args below meth c H locs cells slots Q (F0 m (pc + 3) ls (.int r :: rest))) : W p l e R s m args below meth c H locs cells slots Q (F0 m pc ls st0) := by
  have hFc : ∀ q, va_A ws H.size q → A q := fun q h => by
    rcases h with ⟨k, e, h⟩ | h
    · exact hG.2.1.2 k _ h
    · exact hA q (Nat.le_trans hG.2.2.1 h)
  refine va_calli (va_runV (As := As) (rest := rest) F hM cw ⟨pre_blind, va_recv hK.1 hG.1 hc hb, pre_of hK _ hG.1 (hG.2.1.weaken (fun _ _ _ _ => trivial))⟩ rfl hn hsz hst (lv_room hcat) hdg hf) hG.2.2 (fun q _ h => hFc q h) hFc (fun r1 u t H1 locs1 ht hvm hw hB hz hk hS => ?_)
  subst hw
  exact kk H1 locs1 ⟨ht ▸ hB, hG.2.1.addr hadr, hS⟩
theorem k_Wv (F : CallFix p m c cc nL s args Ts own) (hK : KK D y s) (hA : ∀ q, H0.size ≤ q → A q) (hG : GG D A H0 ws H locs) {C : String} {T : u_T} {N ci : Nat} {fs : List Value}
    (hM : MV l yn wn fr lo (.ref b :: As) D y ws H.size wc') (cw : CallW R s args own C index yn bytes maxL none wn (RM fr lo) 0 0 n)
    (j : Nat) (hb : ws[j]? = some (b, .inr (ci, fs))) (hc : vwCl[ci]? = some (C, T, N)) (hadr : wc'.map Prod.fst = ws.map Prod.fst)
    (hst : st0 = As.reverse ++ .ref b :: rest) (hn : As.length = n) (hsz : ls.size = nL) (hcat : (rest.map fun v => v.category).sum ≤ 8) (hdg : decode cc pc = .ok (.invokevirtual index, 3)) (hf : cells ≤ R.cells ∧ slots ≤ R.slots)
    (kk : ∀ (H : Heap) (locs : List Loc), GG D A H0 wc' H locs → W p l e R s m args below meth c H locs cells slots Q (F0 m (pc + 3) ls rest)) : W p l e R s m args below meth c H locs cells slots Q (F0 m pc ls st0) := by
  have hFc : ∀ q, va_A ws H.size q → A q := fun q h => by
    rcases h with ⟨k, e, h⟩ | h
    · exact hG.2.1.2 k _ h
    · exact hA q (Nat.le_trans hG.2.2.1 h)
  refine va_callv (va_runV (As := As) (rest := rest) F hM cw ⟨pre_blind, va_recv hK.1 hG.1 hc hb, pre_of hK _ hG.1 (hG.2.1.weaken (fun _ _ _ _ => trivial))⟩ rfl hn hsz hst (lv_room hcat) hdg hf) hG.2.2 (fun q _ h => hFc q h) hFc (fun u t H1 locs1 ht hvm hw hB hz hk hS => ?_)
  exact kk H1 locs1 ⟨ht ▸ hB, hG.2.1.addr hadr, hS⟩
theorem nil_part : va_P D vwCl [] H ∧ va_D (fun _ => True) [] := ⟨fun k q h => by simp at h, fun i j p q h => by simp at h, fun k q h => by simp at h⟩
theorem nil_A {sz q : Nat} (h : va_A [] sz q) : sz ≤ q := by
  rcases h with ⟨k, e, h⟩ | h
  · simp at h
  · exact h
/-- a static call that needs no cells -/
theorem k_Si (F : CallFix p m c cc nL s args Ts own) (hK : KK D y s) (hA : ∀ q, H0.size ≤ q → A q) (hG : GG D A H0 ws H locs) {r : Int32} {ret : Option FieldType}
    (hM : MI l yn wn fr lo As D y [] H.size r []) (cw : CallB R s args own index yn bytes maxL ret wn (RM fr lo) 0 0 n ∧ (Cond.static yn).before args s = true)
    (hst : st0 = As.reverse ++ rest) (hn : As.length = n) (hsz : ls.size = nL) (hcat : (rest.map fun v => v.category).sum ≤ 8) (hdg : decode cc pc = .ok (.invokestatic index, 3)) (hf : cells ≤ R.cells ∧ slots ≤ R.slots)
    (kk : ∀ (H : Heap) (locs : List Loc), GG D A H0 ws H locs → W p l e R s m args below meth c H locs cells slots Q (F0 m (pc + 3) ls (.int r :: rest))) : W p l e R s m args below meth c H locs cells slots Q (F0 m pc ls st0) := by
  have hFc : ∀ q, va_A [] H.size q → A q := fun q h => hA q (Nat.le_trans hG.2.2.1 (nil_A h))
  refine va_calli (va_runS (As := As) (rest := rest) F hM cw ⟨pre_blind, pre_of hK _ (nil_part (D := D) (H := H)).1 (nil_part (D := D) (H := H)).2⟩ rfl hn hsz hst (lv_room hcat) hdg hf) hG.2.2 (fun q _ h => hFc q h) hFc (fun r1 u t H1 locs1 ht hvm hw hB hz hk hS => ?_)
  subst hw
  exact kk H1 locs1 ⟨hG.1.kept (fun k q hq => hk q.1 (hG.1 k q hq).lt (fun h => by have := nil_A h; have := (hG.1 k q hq).lt; omega)), hG.2.1, hS⟩
theorem k_SNi (F : CallFix p m c cc nL s args Ts own) (hK : KK D y s) (hA : ∀ q, H0.size ≤ q → A q) (hG : GG D A H0 ws H locs) {r : Int32} {ret : Option FieldType} {host : String}
    (hM : MI l yn wn fr lo As D y [] H.size r []) (cw : va_CN R s args own index yn host bytes maxL ret wn (RM fr lo) 0 0 n ∧ (Cond.static yn).before args s = true ∧ True)
    (hst : st0 = As.reverse ++ rest) (hn : As.length = n) (hsz : ls.size = nL) (hcat : (rest.map fun v => v.category).sum ≤ 8) (hdg : decode cc pc = .ok (.invokestatic index, 3)) (hf : cells ≤ R.cells ∧ slots ≤ R.slots)
    (kk : ∀ (H : Heap) (locs : List Loc), GG D A H0 ws H locs → W p l e R s m args below meth c H locs cells slots Q (F0 m (pc + 3) ls (.int r :: rest))) : W p l e R s m args below meth c H locs cells slots Q (F0 m pc ls st0) := by
  have hFc : ∀ q, va_A [] H.size q → A q := fun q h => hA q (Nat.le_trans hG.2.2.1 (nil_A h))
  refine va_calli (va_runSN (As := As) (rest := rest) F hM cw ⟨pre_blind, pre_of hK _ (nil_part (D := D) (H := H)).1 (nil_part (D := D) (H := H)).2⟩ rfl hn hsz hst (lv_room hcat) hdg hf) hG.2.2 (fun q _ h => hFc q h) hFc (fun r1 u t H1 locs1 ht hvm hw hB hz hk hS => ?_)
  subst hw
  exact kk H1 locs1 ⟨hG.1.kept (fun k q hq => hk q.1 (hG.1 k q hq).lt (fun h => by have := nil_A h; have := (hG.1 k q hq).lt; omega)), hG.2.1, hS⟩
/-- a static call that answers nothing, over the cells at the places is -/
theorem k_Sv (F : CallFix p m c cc nL s args Ts own) (hK : KK D y s) (hA : ∀ q, H0.size ≤ q → A q) (hG : GG D A H0 ws H locs)
    (hM : MV l yn wn fr lo As D y wc H.size wc') (cw : CallB R s args own index yn bytes maxL none wn (RM fr lo) 0 0 n ∧ (Cond.static yn).before args s = true)
    (is : List Nat) (hsub : is.map (fun i => ws[i]?) = wc.map some) (hnd : va_nd is = true) (hadr : wc'.map Prod.fst = wc.map Prod.fst) (ws2 : va_W) (hw2 : stL ws is wc' = ws2)
    (hst : st0 = As.reverse ++ rest) (hn : As.length = n) (hsz : ls.size = nL) (hcat : (rest.map fun v => v.category).sum ≤ 8) (hdg : decode cc pc = .ok (.invokestatic index, 3)) (hf : cells ≤ R.cells ∧ slots ≤ R.slots)
    (kk : ∀ (H : Heap) (locs : List Loc), GG D A H0 ws2 H locs → W p l e R s m args below meth c H locs cells slots Q (F0 m (pc + 3) ls rest)) : W p l e R s m args below meth c H locs cells slots Q (F0 m pc ls st0) := by
  obtain ⟨hPc, hDc, hFc⟩ := hG.part hA is hsub hnd
  refine va_callv (va_runS (As := As) (rest := rest) F hM cw ⟨pre_blind, pre_of hK _ hPc hDc⟩ rfl hn hsz hst (lv_room hcat) hdg hf) hG.2.2 (fun q _ h => hFc q h) hFc (fun u t H1 locs1 ht hvm hw hB hz hk hS => ?_)
  subst hw2
  exact kk H1 locs1 (hG.callP is hsub hadr hk (ht ▸ hB) hS)
end BW
/-- a method's entry: what its body is walked over -/
theorem M_i {l : Launch} {yn : MethodName} {wn wn' : List Cond} {fr lo maxL sz : Nat} {av : List Value} {D : va_G} {y : Nat → ClassId} {ws ws' : va_W} {r : Int32} {cc : ByteArray} {own : String} (hy : plainName yn.cls = true) (hw : wn = .code yn cc maxL (some .int) :: wn') (hown : yn.cls = own) (hle : (lg_sl av).length ≤ maxL)
    (body : ∀ (p : Program) (e : Env) (s : State) (m : MethodId) (args : Array Value) (below : List Frame) (meth : Method) (c : Code) (A : Nat → Prop) (Q : State → Prop), CallFix p m c cc maxL s args wn own → KK D y s → (∀ q, s.heap.size ≤ q → A q) → GG D A s.heap ws s.heap [] →
      (∀ (v : Int32) (H : Heap) (locs : List Loc) (pc : Nat) (ls : Array Slot), v = r → GG D A s.heap ws' H locs → decode cc pc = .ok (.ireturn, 1) → W p l e (RM fr lo) s m args below meth c H locs 0 0 Q (F0 m pc ls [.int v])) →
      ∀ ls, lv_has ls maxL (lv_args 0 av) → W p l e (RM fr lo) s m args below meth c s.heap [] 0 0 Q (F0 m 0 ls [])) : MI l yn wn fr lo av D y ws sz r ws' := by
  refine Met.ofW (cc := cc) (maxL := maxL) (ret := some .int) hy hw ?_
  intro p e s m args below meth c s₁ B hml hv
  obtain ⟨rfl, hsz, hP, hK, hD0⟩ := hv
  have hts := atoms_spec (ws := wn) B.pre
  have hl := lv_entry av (n := maxL) hle
  rw [lg_entry_eq]
  subst hsz
  refine body p e s m _ below meth c (va_A ws s.heap.size) _ ⟨B.exec, B.bytes, hml, by rw [← hown]; exact findClass_of_methodNamed B.named, hts⟩ hK (fun q h => Or.inr h) ⟨hP, hD0.self, va_S.rf⟩ (fun v H locs pc ls e hG hd => ?_) _ hl
  exact W.iret B.exec B.bytes B.returns (fun t ht hW => ⟨⟨v, (), rfl, e, (show va_P D vwCl ws' t.heap by rw [ht]; exact hG.1)⟩, hG.2.2.F ht⟩) hG.2.2.2.2 hd
theorem M_z {l : Launch} {yn : MethodName} {wn wn' : List Cond} {fr lo maxL sz : Nat} {av : List Value} {D : va_G} {y : Nat → ClassId} {ws ws' : va_W} {r : Int32} {cc : ByteArray} {own : String} (hy : plainName yn.cls = true) (hw : wn = .code yn cc maxL (some .boolean) :: wn') (hown : yn.cls = own) (hle : (lg_sl av).length ≤ maxL)
    (body : ∀ (p : Program) (e : Env) (s : State) (m : MethodId) (args : Array Value) (below : List Frame) (meth : Method) (c : Code) (A : Nat → Prop) (Q : State → Prop), CallFix p m c cc maxL s args wn own → KK D y s → (∀ q, s.heap.size ≤ q → A q) → GG D A s.heap ws s.heap [] →
      (∀ (v : Int32) (H : Heap) (locs : List Loc) (pc : Nat) (ls : Array Slot), narrow .boolean (.int v) = .int v → v = r → GG D A s.heap ws' H locs → decode cc pc = .ok (.ireturn, 1) → W p l e (RM fr lo) s m args below meth c H locs 0 0 Q (F0 m pc ls [.int v])) →
      ∀ ls, lv_has ls maxL (lv_args 0 av) → W p l e (RM fr lo) s m args below meth c s.heap [] 0 0 Q (F0 m 0 ls [])) : MI l yn wn fr lo av D y ws sz r ws' := by
  refine Met.ofW (cc := cc) (maxL := maxL) (ret := some .boolean) hy hw ?_
  intro p e s m args below meth c s₁ B hml hv
  obtain ⟨rfl, hsz, hP, hK, hD0⟩ := hv
  have hts := atoms_spec (ws := wn) B.pre
  have hl := lv_entry av (n := maxL) hle
  rw [lg_entry_eq]
  subst hsz
  refine body p e s m _ below meth c (va_A ws s.heap.size) _ ⟨B.exec, B.bytes, hml, by rw [← hown]; exact findClass_of_methodNamed B.named, hts⟩ hK (fun q h => Or.inr h) ⟨hP, hD0.self, va_S.rf⟩ (fun v H locs pc ls hz e hG hd => ?_) _ hl
  exact W.zret B.exec B.bytes B.returns hz (fun t ht hW => ⟨⟨v, (), rfl, e, (show va_P D vwCl ws' t.heap by rw [ht]; exact hG.1)⟩, hG.2.2.F ht⟩) hG.2.2.2.2 hd
theorem M_v {l : Launch} {yn : MethodName} {wn wn' : List Cond} {fr lo maxL sz : Nat} {av : List Value} {D : va_G} {y : Nat → ClassId} {ws ws' : va_W} {cc : ByteArray} {own : String} (hy : plainName yn.cls = true) (hw : wn = .code yn cc maxL none :: wn') (hown : yn.cls = own) (hle : (lg_sl av).length ≤ maxL)
    (body : ∀ (p : Program) (e : Env) (s : State) (m : MethodId) (args : Array Value) (below : List Frame) (meth : Method) (c : Code) (A : Nat → Prop) (Q : State → Prop), CallFix p m c cc maxL s args wn own → KK D y s → (∀ q, s.heap.size ≤ q → A q) → GG D A s.heap ws s.heap [] →
      (∀ (H : Heap) (locs : List Loc) (pc : Nat) (ls : Array Slot), GG D A s.heap ws' H locs → decode cc pc = .ok (.return_, 1) → W p l e (RM fr lo) s m args below meth c H locs 0 0 Q (F0 m pc ls [])) →
      ∀ ls, lv_has ls maxL (lv_args 0 av) → W p l e (RM fr lo) s m args below meth c s.heap [] 0 0 Q (F0 m 0 ls [])) : MV l yn wn fr lo av D y ws sz ws' := by
  refine Met.ofW (cc := cc) (maxL := maxL) (ret := none) hy hw ?_
  intro p e s m args below meth c s₁ B hml hv
  obtain ⟨rfl, hsz, hP, hK, hD0⟩ := hv
  have hts := atoms_spec (ws := wn) B.pre
  have hl := lv_entry av (n := maxL) hle
  rw [lg_entry_eq]
  subst hsz
  refine body p e s m _ below meth c (va_A ws s.heap.size) _ ⟨B.exec, B.bytes, hml, by rw [← hown]; exact findClass_of_methodNamed B.named, hts⟩ hK (fun q h => Or.inr h) ⟨hP, hD0.self, va_S.rf⟩ (fun H locs pc ls hG hd => ?_) _ hl
  exact W.vret B.exec B.bytes B.returns (fun t ht hW => ⟨⟨(), rfl, trivial, (show va_P D vwCl ws' t.heap by rw [ht]; exact hG.1)⟩, hG.2.2.F ht⟩) hG.2.2.2.2 hd
