/-! PURE: more heat than the limit asks for brings the same; critical -/
def setP (A : Sh) (p x : Nat) : Sh := A.setHe (fun q => if q = p then x else A.he q)
theorem warm_setP (A : Sh) (p b : Nat) : warmA A p b = setP A p (minH (A.he p) b) := rfl
theorem setP_warm (A : Sh) (p x r b : Nat) : ∃ x', (x ≤ x' ∨ 999 ≤ x') ∧ warmA (setP A p x) r b = setP (warmA A r b) p x' := by
  by_cases h : r = p
  · subst h
    refine ⟨minH x b, ?_, ?_⟩
    · unfold minH
      by_cases c : x + b ≤ 999
      · rw [if_pos c]; left; omega
      · rw [if_neg c]; right; omega
    · show A.setHe (fun q => if q = r then minH (if r = r then x else A.he r) b else (if q = r then x else A.he q)) = A.setHe (fun q => if q = r then minH x b else (if q = r then minH (A.he r) b else A.he q))
      congr 1
      funext q
      by_cases c : q = r
      · rw [if_pos c, if_pos c, if_pos rfl]
      · rw [if_neg c, if_neg c, if_neg c, if_neg c]
  · refine ⟨x, Or.inl (Nat.le_refl _), ?_⟩
    show A.setHe (fun q => if q = r then minH (if r = p then x else A.he r) b else (if q = p then x else A.he q)) = A.setHe (fun q => if q = p then x else (if q = r then minH (A.he r) b else A.he q))
    congr 1
    funext q
    rw [if_neg h]
    by_cases c : q = r
    · subst c
      rw [if_pos rfl, if_neg h, if_pos rfl]
    · rw [if_neg c, if_neg c]
theorem setP_zero (A : Sh) {p q x : Nat} (h : q ≠ p) : zeroA (setP A p x) q = setP (zeroA A q) p x := by
  show A.setHe (fun r => if r = q then 0 else (if r = p then x else A.he r)) = A.setHe (fun r => if r = p then x else (if r = q then 0 else A.he r))
  congr 1
  funext r
  by_cases c : r = q
  · subst c
    rw [if_pos rfl, if_neg h, if_pos rfl]
  · rw [if_neg c, if_neg c]
theorem setP_zero_eq (A : Sh) (p x : Nat) : zeroA (setP A p x) p = zeroA A p := by
  show A.setHe (fun r => if r = p then 0 else (if r = p then x else A.he r)) = A.setHe (fun r => if r = p then 0 else A.he r)
  congr 1
  funext r
  by_cases c : r = p
  · rw [if_pos c, if_pos c]
  · rw [if_neg c, if_neg c, if_neg c]
theorem setP_br (A : Sh) (p x K q : Nat) : brA (setP A p x) K q = setP (brA A K q) p x := by
  unfold brA
  show (if q = A.st K then (setP A p x).setCt A.sp (A.bo + nI 1) A.fi else if A.ns < 12 then (splitA (setP A p x) K q).setCt (A.sp + 1) A.bo A.fi else (setP A p x).setCt A.sp A.bo (A.fi + nI 1)) = _
  by_cases c : q = A.st K
  · rw [if_pos c, if_pos c]; rfl
  · rw [if_neg c, if_neg c]
    by_cases c2 : A.ns < 12
    · rw [if_pos c2, if_pos c2]; rfl
    · rw [if_neg c2, if_neg c2]; rfl
theorem setP_react_eq (A : Sh) (p x : Nat) : reactA (setP A p x) p = reactA A p := by
  unfold reactA
  rw [setP_zero_eq]
  rfl
theorem setP_react (A : Sh) {p q x : Nat} (h : q ≠ p) : ∃ x', (x ≤ x' ∨ 999 ≤ x') ∧ reactA (setP A p x) q = setP (reactA A q) p x' := by
  have e1 : brA (zeroA (setP A p x) q) (A.so q) q = setP (brA (zeroA A q) (A.so q) q) p x := by rw [setP_zero A h, setP_br]
  have e0 : reactA (setP A p x) q = (if q + 1 < A.st (A.so q + 1) then warmA (if A.st (A.so q) < q then warmA (brA (zeroA (setP A p x) q) (A.so q) q) (q - 1) (A.se 1) else brA (zeroA (setP A p x) q) (A.so q) q) (q + 1) (A.se 1) else (if A.st (A.so q) < q then warmA (brA (zeroA (setP A p x) q) (A.so q) q) (q - 1) (A.se 1) else brA (zeroA (setP A p x) q) (A.so q) q)) := rfl
  have e2 : reactA A q = (if q + 1 < A.st (A.so q + 1) then warmA (if A.st (A.so q) < q then warmA (brA (zeroA A q) (A.so q) q) (q - 1) (A.se 1) else brA (zeroA A q) (A.so q) q) (q + 1) (A.se 1) else (if A.st (A.so q) < q then warmA (brA (zeroA A q) (A.so q) q) (q - 1) (A.se 1) else brA (zeroA A q) (A.so q) q)) := rfl
  rw [e0, e2, e1]
  generalize brA (zeroA A q) (A.so q) q = B
  by_cases c1 : A.st (A.so q) < q
  · rw [if_pos c1, if_pos c1]
    obtain ⟨y, hy, ey⟩ := setP_warm B p x (q - 1) (A.se 1)
    rw [ey]
    by_cases c2 : q + 1 < A.st (A.so q + 1)
    · rw [if_pos c2, if_pos c2]
      obtain ⟨z, hz, ez⟩ := setP_warm (warmA B (q - 1) (A.se 1)) p y (q + 1) (A.se 1)
      exact ⟨z, by omega, ez⟩
    · rw [if_neg c2, if_neg c2]
      exact ⟨y, hy, rfl⟩
  · rw [if_neg c1, if_neg c1]
    by_cases c2 : q + 1 < A.st (A.so q + 1)
    · rw [if_pos c2, if_pos c2]
      obtain ⟨z, hz, ez⟩ := setP_warm B p x (q + 1) (A.se 1)
      exact ⟨z, hz, ez⟩
    · rw [if_neg c2, if_neg c2]
      exact ⟨x, Or.inl (Nat.le_refl _), rfl⟩
theorem fhot_le (P : Nat → Bool) {a : Nat} (hP : P a = true) : ∀ (r p : Nat), p ≤ a → a < p + r → fhot P p r ≤ a := by
  intro r
  induction r with
  | zero => intro p h1 h2; omega
  | succ r ih =>
    intro p h1 h2
    show (if P p = true then p else fhot P (p + 1) r) ≤ a
    by_cases c : P p = true
    · rw [if_pos c]; exact h1
    · rw [if_neg c]
      have : p ≠ a := fun e => c (by rw [e]; exact hP)
      exact ih (p + 1) (by omega) (by omega)
theorem setP_fh (A : Sh) {p x y : Nat} (hx : A.se 0 ≤ x) (hy : A.se 0 ≤ y) : (setP A p x).fh = (setP A p y).fh := by
  unfold Sh.fh
  have e : (fun q => decide ((setP A p x).se 0 ≤ (setP A p x).he q)) = (fun q => decide ((setP A p y).se 0 ≤ (setP A p y).he q)) := by
    funext q
    show decide (A.se 0 ≤ (if q = p then x else A.he q)) = decide (A.se 0 ≤ (if q = p then y else A.he q))
    by_cases c : q = p
    · rw [if_pos c, if_pos c, decide_eq_true hx, decide_eq_true hy]
    · rw [if_neg c, if_neg c]
  rw [e]
  rfl
theorem setP_fh_le (A : Sh) {p x : Nat} (hp : p < A.wn) (hx : A.se 0 ≤ x) : (setP A p x).fh ≤ p := by
  unfold Sh.fh
  refine fhot_le _ ?_ _ 0 (Nat.zero_le _) (by rw [Nat.zero_add]; exact hp)
  show decide (A.se 0 ≤ (if p = p then x else A.he p)) = true
  rw [if_pos rfl]
  exact decide_eq_true hx
theorem setP_run : ∀ (f : Nat) (A : Sh) (p x y : Nat) (z : Sh × Nat), WF A → p < A.wn → A.se 0 ≤ x → A.se 0 ≤ y → runA f (setP A p x) = some z → runA f (setP A p y) = some z := by
  intro f
  induction f with
  | zero => intro A p x y z hW hp hx hy h; cases h
  | succ f ih =>
    intro A p x y z hW hp hx hy h
    have hle := setP_fh_le A hp hx
    have hfe := setP_fh A (p := p) hx hy
    have nx : ¬ (setP A p x).fh = (setP A p x).wn := by
      show ¬ (setP A p x).fh = A.wn
      omega
    have ny : ¬ (setP A p y).fh = (setP A p y).wn := by
      show ¬ (setP A p y).fh = A.wn
      omega
    unfold runA at h ⊢
    rw [if_neg nx] at h
    rw [if_neg ny, ← hfe]
    by_cases c : (setP A p x).fh = p
    · rw [c, setP_react_eq] at h
      rw [c, setP_react_eq]
      exact h
    · obtain ⟨x', hx', ex⟩ := setP_react A (p := p) (x := x) c
      obtain ⟨y', hy', ey⟩ := setP_react A (p := p) (x := y) c
      rw [ex] at h
      rw [ey]
      have hq : (setP A p x).fh < A.wn := by omega
      have hse : (reactA A (setP A p x).fh).se = A.se := react_se
      have hb := hW.2.1.2.1
      have hb1 := hW.2.1.1
      cases hr : runA f (setP (reactA A (setP A p x).fh) p x') with
      | none => rw [hr] at h; cases h
      | some w =>
        have := ih (reactA A (setP A p x).fh) p x' y' w (hW.react hq) (by rw [react_wn hW hq]; exact hp) (by rw [hse]; omega) (by rw [hse]; omega) hr
        rw [hr] at h
        rw [this]
        exact h
theorem warm_same {A B : Sh} {n p b c : Nat} (hW : WF A) (hp : p < A.wn) (hb : A.se 0 ≤ A.he p + b) (hc : A.se 0 ≤ A.he p + c) (h : Runs (warmA A p b) B n) : Runs (warmA A p c) B n := by
  obtain ⟨f, hf⟩ := h
  rw [warm_setP] at hf
  have m : ∀ d, A.se 0 ≤ A.he p + d → A.se 0 ≤ minH (A.he p) d := fun d hd => by
    have := hW.2.1.2.1
    unfold minH
    by_cases q : A.he p + d ≤ 999
    · rw [if_pos q]; exact hd
    · rw [if_neg q]; omega
  exact ⟨f, by rw [warm_setP]; exact setP_run f A p _ _ _ hW hp (m b hb) (m c hc) hf⟩
/-- heating by b brings a split -/
def spl (A : Sh) (p b : Nat) : Prop := ∃ B n, Runs (warmA A p b) B n ∧ A.sp < B.sp
def lst (A : Sh) (p lo hi : Nat) (r : Int32) : Prop := (∃ b, lo ≤ b ∧ b ≤ hi ∧ r = nI b ∧ spl A p b ∧ ∀ c, lo ≤ c → c < b → ¬ spl A p c) ∨ (r = -6 ∧ ∀ c, lo ≤ c → c ≤ hi → ¬ spl A p c)
theorem lst_same {A : Sh} {p lo mi : Nat} {r q : Int32} (h1 : 1 ≤ lo) (h2 : lo ≤ mi) (h3 : mi ≤ 500) (f1 : ∀ c, 1 ≤ c → c < lo → ¬ spl A p c) (f2 : ∀ c, mi < c → spl A p c → spl A p mi) (hr : lst A p lo mi r) (hq : lst A p 1 500 q) : r = q := by
  rcases hr with ⟨b, b1, b2, b3, b4, b5⟩ | ⟨b1, b2⟩
  · rcases hq with ⟨c, c1, c2, c3, c4, c5⟩ | ⟨c1, c2⟩
    · have : b = c := by
        rcases Nat.lt_trichotomy b c with t | t | t
        · exact absurd b4 (c5 b (by omega) t)
        · exact t
        · by_cases u : c < lo
          · exact absurd c4 (f1 c c1 u)
          · exact absurd c4 (b5 c (by omega) t)
      rw [b3, c3, this]
    · exact absurd b4 (c2 b (by omega) (by omega))
  · rcases hq with ⟨c, c1, c2, c3, c4, c5⟩ | ⟨c1, c2⟩
    · exfalso
      by_cases u : c < lo
      · exact f1 c c1 u c4
      · by_cases v : c ≤ mi
        · exact b2 c (by omega) v c4
        · exact b2 mi h2 (Nat.le_refl _) (f2 c (by omega) c4)
    · rw [b1, c1]
section CR
variable {Fu : Nat} {A : Sh} {se le he sa fa ge : Ar} {ns nf sp bo fi : Int32}
theorem spl_of {B : Sh} {n p b : Nat} (h : Runs (warmA A p b) B n) (k : Keeps (warmA A p b) B) : (spl A p b ↔ A.sp < B.sp) ∧ A.sp ≤ B.sp ∧ B.sp ≤ A.sp + 12 := by
  have k1 := k.2.2.2.1
  have k2 := k.2.2.2.2.1
  have k3 := k.sp
  have e1 : (warmA A p b).sp = A.sp := rfl
  refine ⟨⟨fun ⟨C, m, x, y⟩ => by rw [(h.det x).1]; exact y, fun x => ⟨B, n, h, x⟩⟩, by omega, by omega⟩
theorem crit_L (Fu : Nat) (hF : 100000000 ≤ Fu) (hW : WF A) (hM : A.sp ≤ 1000000) (h : RV A se le he sa fa ge ns nf sp bo fi) {s : Ar} (g : RS A s) {p hi : Nat} (hp : p < A.wn) (hhi : hi ≤ 500) : ∀ (fu i : Nat) (a1 a2 a3 a4 a5 a6 : Ar) (b1 b2 b3 b4 b5 : Int32), i ≤ hi + 1 → hi + 1 - i < fu →
    ∃ r c1 c2 c3 c4 c5 c6 d1 d2 d3 d4 d5, lst A p i hi r ∧ f_X3_critical_L73 Fu se le he sa fa ge ns nf sp bo fi (nI p) (nI hi) fu (nI i) a1 a2 a3 a4 a5 a6 b1 b2 b3 b4 b5 = some (r, c1, c2, c3, c4, c5, c6, d1, d2, d3, d4, d5) := by
  intro fu
  induction fu with
  | zero => intro i a1 a2 a3 a4 a5 a6 b1 b2 b3 b4 b5 h1 h2; omega
  | succ fu ih =>
    intro i a1 a2 a3 a4 a5 a6 b1 b2 b3 b4 b5 h1 h2
    rw [f_X3_critical_L73_s]
    by_cases hh : hi < i
    · rw [if_pos (by rw [nI_lts (by omega) (by omega)]; exact hh)]
      exact ⟨-6, _, _, _, _, _, _, _, _, _, _, _, Or.inr ⟨rfl, fun c x y => by omega⟩, rfl⟩
    · obtain ⟨B, n, c1, c2, c3, c4, c5, c6, d1, d2, d3, d4, d5, s1, a', u1, u2, u3, u4, u5, u6, u7⟩ := try_sim hF hW h g hp (show i ≤ 1000 by omega) a1 a2 a3 a4 a5 a6 b1 b2 b3 b4 b5 s 0 0 0 0
      obtain ⟨q1, q2, q3⟩ := spl_of u1 u3
      rw [if_neg (by rw [nI_lts (by omega) (by omega)]; exact hh), u6, bd12_s, u4.rsp, h.rsp, nI_add]
      by_cases c : B.sp ≤ A.sp
      · rw [if_pos (by rw [nI_les (by omega) (by omega)]; exact c)]
        have ns1 : ¬ spl A p i := fun z => by have := q1.mp z; omega
        have := ih (i + 1) c1 c2 c3 c4 c5 c6 d1 d2 (nI B.sp) d4 d5 (by omega) (by omega)
        rw [h.rsp] at this
        obtain ⟨r, e1, e2, e3, e4, e5, e6, e7, e8, e9, e10, e11, l, e⟩ := this
        refine ⟨r, e1, e2, e3, e4, e5, e6, e7, e8, e9, e10, e11, ?_, e⟩
        rcases l with ⟨b, l1, l2, l3, l4, l5⟩ | ⟨l1, l2⟩
        · exact Or.inl ⟨b, by omega, l2, l3, l4, fun c x y => by
            by_cases w : c = i
            · subst w; exact ns1
            · exact l5 c (by omega) y⟩
        · exact Or.inr ⟨l1, fun c x y => by
            by_cases w : c = i
            · subst w; exact ns1
            · exact l2 c (by omega) y⟩
      · rw [if_neg (by rw [nI_les (by omega) (by omega)]; exact c)]
        exact ⟨nI i, _, _, _, _, _, _, _, _, _, _, _, Or.inl ⟨i, Nat.le_refl _, by omega, rfl, q1.mpr (by omega), fun c x y => by omega⟩, rfl⟩
theorem crit4_L (Fu : Nat) (hF : 100000000 ≤ Fu) (hW : WF A) (hM : A.sp ≤ 1000000) (h : RV A se le he sa fa ge ns nf sp bo fi) {k j : Nat} (hk : k < A.ns) (hp : A.st k + j < A.wn) : ∀ (fu i : Nat) (s a : Ar) (r1 r2 r3 r4 : Int32), RS A s → i ≤ 501 → 501 - i < fu →
    ∃ r s' a' x1 x2 x3 x4, lst A (A.st k + j) i 500 r ∧ RS A s' ∧ f_X4_critical_L13 Fu (nI k) (nI j) fu (nI i) s a r1 r2 r3 r4 = some (r, s', a', x1, x2, x3, x4) := by
  have hn := hW.n
  have hw := hW.w
  intro fu
  induction fu with
  | zero => intro i s a r1 r2 r3 r4 g h1 h2; omega
  | succ fu ih =>
    intro i s a r1 r2 r3 r4 g h1 h2
    rw [f_X4_critical_L13_s]
    by_cases hh : 500 < i
    · rw [if_pos (by rw [nI_lts (by omega) (by omega)]; exact hh)]
      exact ⟨-6, _, _, _, _, _, _, Or.inr ⟨rfl, fun c x y => by omega⟩, g, rfl⟩
    · have e0 := first_r (by omega : 20000000 ≤ Fu) hW g (show k ≤ A.ns by omega)
      obtain ⟨B, n, c1, c2, c3, c4, c5, c6, d1, d2, d3, d4, d5, s1, a', u1, u2, u3, u4, u5, u6, u7⟩ := try_sim hF hW h g hp (show i ≤ 1000 by omega) se le he sa fa ge ns nf sp bo fi a r1 r2 r3 r4
      obtain ⟨q1, q2, q3⟩ := spl_of u1 u3
      rw [if_neg (by rw [nI_lts (by omega) (by omega)]; exact hh), e0, bd1_s, nI_add, u7, bd6_s, pk_subs q2, nI_add]
      by_cases c : B.sp ≤ A.sp
      · rw [if_pos (show nI (B.sp - A.sp) ≤ 0 by rw [nI_zero, nI_les (by omega) (by omega)]; omega)]
        have ns1 : ¬ spl A (A.st k + j) i := fun z => by have := q1.mp z; omega
        obtain ⟨r, s', a'', x1, x2, x3, x4, l, g', e⟩ := ih (i + 1) s1 a' (nI n) (nI (B.sp - A.sp)) (nI B.ns) (heatR B.he 0 B.wn) u5 (by omega) (by omega)
        refine ⟨r, s', a'', x1, x2, x3, x4, ?_, g', e⟩
        rcases l with ⟨b, l1, l2, l3, l4, l5⟩ | ⟨l1, l2⟩
        · exact Or.inl ⟨b, by omega, l2, l3, l4, fun c x y => by
            by_cases w : c = i
            · subst w; exact ns1
            · exact l5 c (by omega) y⟩
        · exact Or.inr ⟨l1, fun c x y => by
            by_cases w : c = i
            · subst w; exact ns1
            · exact l2 c (by omega) y⟩
      · rw [if_neg (show ¬ nI (B.sp - A.sp) ≤ 0 by rw [nI_zero, nI_les (by omega) (by omega)]; omega)]
        exact ⟨nI i, _, _, _, _, _, _, Or.inl ⟨i, Nat.le_refl _, by omega, rfl, q1.mpr (by omega), fun c x y => by omega⟩, u5, rfl⟩
def eno (A : Sh) (p : Nat) : Nat := if A.se 0 - A.he p = 0 then 1 else A.se 0 - A.he p
theorem eno_s {a b : Nat} (ha : a < 1000000) (hb : b < 1000000) : jmax (nI 1) (nI a - nI b) = nI (if a - b = 0 then 1 else a - b) := by
  unfold jmax
  by_cases h : b ≤ a
  · rw [pk_subs h]
    by_cases h2 : 1 < a - b
    · rw [if_pos (by rw [nI_lts (by omega) (by omega)]; exact h2), if_neg (by omega)]
    · rw [if_neg (by rw [nI_lts (by omega) (by omega)]; exact h2)]
      by_cases h3 : a - b = 0
      · rw [if_pos h3]
      · rw [if_neg h3]; congr 1; omega
  · have h1 : nI a - nI b < 0 := pk_sneg (by omega) (by omega)
    have h4 : ¬ nI 1 < nI a - nI b := fun z => by
      have := Int32.lt_trans z h1
      exact absurd this (by decide)
    rw [if_neg h4, if_pos (by omega)]
theorem sim_crit (hF : 100000000 ≤ Fu) (hW : WF A) (hM : A.sp ≤ 1000000) (h : RV A se le he sa fa ge ns nf sp bo fi) {s : Ar} (g : RS A s) (a1 a2 a3 a4 a5 a6 : Ar) (b1 b2 b3 b4 b5 : Int32) (a : Ar) (r1 r2 r3 r4 : Int32) (p q : Int32) :
    ∃ r c1 c2 c3 c4 c5 c6 d1 d2 d3 d4 d5 s' a' x1 x2 x3 x4, RS A s' ∧
      f_X3_critical Fu se le he sa fa ge ns nf sp bo fi a1 a2 a3 a4 a5 a6 b1 b2 b3 b4 b5 p q = some (r, c1, c2, c3, c4, c5, c6, d1, d2, d3, d4, d5) ∧
      f_X4_critical Fu s a r1 r2 r3 r4 p q = some (r, s', a', x1, x2, x3, x4) := by
  have y1 := hasWord_s Fu hW.1 (fun k hk => h.rsa hk) p q
  have y2 := isWord_s Fu hW.1 g.rns (fun k hk => g.rlo hk) p q
  rw [← h.rns] at y1
  unfold f_X3_critical f_X4_critical
  rw [y1, y2, bd1_s, bd1_s]
  by_cases hq : isW A.ns A.st p q = true
  · rw [if_pos hq, if_neg one_ne, if_neg one_ne]
    obtain ⟨k, j, hk, hj, rfl, rfl⟩ := isW_t hq hW.1
    have hn := hW.n
    have hw := hW.w
    have hse := hW.2.1
    have hm2 := hW.1.le (show k + 1 ≤ A.ns by omega) (Nat.le_refl _)
    have hp : A.st k + j < A.wn := by unfold Sh.wn; omega
    have e1 := h.rsa (show k ≤ A.ns by omega)
    have e2 := h.rhe hp
    have e3 := h.rse (show 0 < 3 by omega)
    have b2' := (hW.2.2 _ hp).2
    obtain ⟨rc, q1, q2⟩ := calm_s (Fu := Fu) (by omega) hW h
    have hen : 1 ≤ eno A (A.st k + j) ∧ eno A (A.st k + j) ≤ 99 ∧ A.se 0 ≤ A.he (A.st k + j) + eno A (A.st k + j) ∧ (∀ c, c < eno A (A.st k + j) → A.he (A.st k + j) + c < A.se 0 ∨ c = 0) := by
      unfold eno
      by_cases c : A.se 0 - A.he (A.st k + j) = 0
      · rw [if_pos c]
        exact ⟨by omega, by omega, by omega, fun c hc => Or.inr (by omega)⟩
      · rw [if_neg c]
        exact ⟨by omega, by omega, by omega, fun c hc => Or.inl (by omega)⟩
    have e4 : jmax (nI 1) (nI (A.se 0) - nI (A.he (A.st k + j))) = nI (eno A (A.st k + j)) := eno_s (by omega) (by omega)
    have e5 : (if nI rc = 0 then nI 1 else nI (eno A (A.st k + j))) = nI (if rc = 0 then 1 else eno A (A.st k + j)) := by
      by_cases c : rc = 0
      · rw [c, if_pos zero_eq, if_pos rfl]
      · rw [if_neg (by rw [nI_zero, nI_eqs (by omega) (by omega)]; exact c), if_neg c]
    have hlo : 1 ≤ (if rc = 0 then 1 else eno A (A.st k + j)) ∧ (if rc = 0 then 1 else eno A (A.st k + j)) ≤ eno A (A.st k + j) := by
      by_cases c : rc = 0
      · rw [if_pos c]; omega
      · rw [if_neg c]; omega
    obtain ⟨r, c1, c2, c3, c4, c5, c6, d1, d2, d3, d4, d5, l1, l2⟩ := crit_L Fu hF hW hM h g hp (hi := eno A (A.st k + j)) (by omega) Fu (if rc = 0 then 1 else eno A (A.st k + j)) a1 a2 a3 a4 a5 a6 b1 b2 b3 b4 b5 (by omega) (by omega)
    obtain ⟨r', s', a', x1, x2, x3, x4, l3, l4, l5⟩ := crit4_L Fu hF hW hM h hk hp Fu 1 s a r1 r2 r3 r4 g (by omega) (by omega)
    have hr : r = r' := by
      refine lst_same hlo.1 hlo.2 (by omega) (fun c hc1 hc => ?_) (fun c hc z => ?_) l1 l3
      · by_cases c0 : rc = 0
        · rw [if_pos c0] at hc
          omega
        · rw [if_neg c0] at hc
          have hcalm : calmA A := by
            rcases q1 with z | z
            · exact z.2
            · omega
          have hlt : A.he (A.st k + j) + c < A.se 0 := by
            rcases hen.2.2.2 c hc with z | z
            · exact z
            · rw [z]; exact hcalm _ hp
          intro ⟨B, n, u1, u2⟩
          have := u1.det (warm_calm hcalm hlt)
          rw [this.1] at u2
          exact absurd u2 (Nat.lt_irrefl _)
      · obtain ⟨B, n, u1, u2⟩ := z
        exact ⟨B, n, warm_same hW hp (by omega) hen.2.2.1 u1, u2⟩
    subst hr
    refine ⟨r, c1, c2, c3, c4, c5, c6, d1, d2, d3, d4, d5, s', a', x1, x2, x3, x4, l4, ?_, l5⟩
    rw [ix_nIs (by omega) (by omega), gd_true, nm_eq, nI_clamps (by omega), e1, nI_add, ix_nIs (by omega) (by omega), gd_true, nm_eq, nI_clamps (by omega), e2, e3, e4, q2, bd1_s, nm_eq, e5]
    exact l2
  · rw [if_neg hq, if_pos zero_eq, if_pos zero_eq]
    exact ⟨-1, _, _, _, _, _, _, _, _, _, _, _, s, _, _, _, _, _, g, rfl, rfl⟩
end CR
