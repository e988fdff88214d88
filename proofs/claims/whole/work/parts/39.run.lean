/-! PURE: reactions follow: to their end, both sides -/
def sumN (f : FN) : Nat → Nat
  | 0 => 0
  | n + 1 => sumN f n + f n
theorem sumN_le {f g : FN} : ∀ (n : Nat), (∀ q, q < n → f q ≤ g q) → sumN f n ≤ sumN g n := by
  intro n
  induction n with
  | zero => intro _; exact Nat.le_refl _
  | succ n ih =>
    intro h
    have h1 := ih (fun q hq => h q (by omega))
    have h2 := h n (by omega)
    show sumN f n + f n ≤ sumN g n + g n
    omega
theorem sumN_congr {f g : FN} (n : Nat) (h : ∀ q, q < n → f q = g q) : sumN f n = sumN g n :=
  Nat.le_antisymm (sumN_le n (fun q hq => Nat.le_of_eq (h q hq))) (sumN_le n (fun q hq => Nat.le_of_eq (h q hq).symm))
theorem sumN_up (f : FN) (a x : Nat) : ∀ (n : Nat), a < n → sumN (fun q => if q = a then x else f q) n + f a = sumN f n + x := by
  intro n
  induction n with
  | zero => intro h; omega
  | succ n ih =>
    intro h
    show sumN (fun q => if q = a then x else f q) n + (if n = a then x else f n) + f a = sumN f n + f n + x
    by_cases hn : n = a
    · subst hn
      rw [if_pos rfl]
      have : sumN (fun q => if q = n then x else f q) n = sumN f n := sumN_congr n (fun q hq => by
        show (if q = n then x else f q) = f q
        rw [if_neg (by omega)])
      omega
    · rw [if_neg hn]
      have := ih (by omega)
      omega
theorem sumN_bound (f : FN) : ∀ (n : Nat), (∀ q, q < n → f q ≤ 999) → sumN f n ≤ 999 * n := by
  intro n
  induction n with
  | zero => intro _; exact Nat.le_refl _
  | succ n ih =>
    intro h
    have h1 := ih (fun q hq => h q (by omega))
    have h2 := h n (by omega)
    show sumN f n + f n ≤ 999 * (n + 1)
    omega
/-- all heat -/
def Sh.T (A : Sh) : Nat := sumN A.he A.wn
theorem WF.T {A : Sh} (hW : WF A) : A.T ≤ 149850 := by
  have h1 := sumN_bound A.he A.wn (fun q hq => (hW.2.2 q hq).2)
  have h2 := hW.w
  unfold Sh.T
  omega
theorem warm_T (A : Sh) (p b : Nat) (hp : p < A.wn) : (warmA A p b).T ≤ A.T + b := by
  have h1 := sumN_up A.he p (minH (A.he p) b) A.wn hp
  have h2 := (minH_le (A.he p) b).2
  show sumN (fun q => if q = p then minH (A.he p) b else A.he q) A.wn ≤ sumN A.he A.wn + b
  omega
theorem react_T {A : Sh} (hW : WF A) {p : Nat} (hp : p < A.wn) (hot : A.se 0 ≤ A.he p) : (reactA A p).T + 2 ≤ A.T := by
  obtain ⟨hK, hk1, hk2⟩ := hW.so hp
  have hs := hW.2.1
  have hm2 := hW.1.le (show A.so p + 1 ≤ A.ns by omega) (Nat.le_refl _)
  have hwB : (brA (zeroA A p) (A.so p) p).wn = A.wn := br_wn hK
  have hB : (brA (zeroA A p) (A.so p) p).T + A.he p = A.T := by
    unfold Sh.T
    rw [hwB, br_he]
    have := sumN_up A.he p 0 A.wn hp
    show sumN (fun q => if q = p then 0 else A.he q) A.wn + A.he p = sumN A.he A.wn
    omega
  unfold reactA
  show (if p + 1 < A.st (A.so p + 1) then warmA (if A.st (A.so p) < p then warmA (brA (zeroA A p) (A.so p) p) (p - 1) (A.se 1) else brA (zeroA A p) (A.so p) p) (p + 1) (A.se 1) else (if A.st (A.so p) < p then warmA (brA (zeroA A p) (A.so p) p) (p - 1) (A.se 1) else brA (zeroA A p) (A.so p) p)).T + 2 ≤ A.T
  have hC : (if A.st (A.so p) < p then warmA (brA (zeroA A p) (A.so p) p) (p - 1) (A.se 1) else brA (zeroA A p) (A.so p) p).T ≤ (brA (zeroA A p) (A.so p) p).T + A.se 1 ∧ (if A.st (A.so p) < p then warmA (brA (zeroA A p) (A.so p) p) (p - 1) (A.se 1) else brA (zeroA A p) (A.so p) p).wn = A.wn := by
    by_cases c : A.st (A.so p) < p
    · rw [if_pos c]; exact ⟨warm_T _ _ _ (by rw [hwB]; omega), hwB⟩
    · rw [if_neg c]; exact ⟨by omega, hwB⟩
  by_cases c : p + 1 < A.st (A.so p + 1)
  · rw [if_pos c]
    have hpq : p + 1 < A.wn := by
      have : A.st A.ns = A.wn := rfl
      omega
    have := warm_T (if A.st (A.so p) < p then warmA (brA (zeroA A p) (A.so p) p) (p - 1) (A.se 1) else brA (zeroA A p) (A.so p) p) (p + 1) (A.se 1) (by rw [hC.2]; exact hpq)
    have := hC.1
    omega
  · rw [if_neg c]
    have := hC.1
    omega
theorem react_se {A : Sh} {p : Nat} : (reactA A p).se = A.se := by
  unfold reactA
  show (if p + 1 < A.st (A.so p + 1) then warmA (if A.st (A.so p) < p then warmA (brA (zeroA A p) (A.so p) p) (p - 1) (A.se 1) else brA (zeroA A p) (A.so p) p) (p + 1) (A.se 1) else (if A.st (A.so p) < p then warmA (brA (zeroA A p) (A.so p) p) (p - 1) (A.se 1) else brA (zeroA A p) (A.so p) p)).se = A.se
  by_cases c : p + 1 < A.st (A.so p + 1)
  · rw [if_pos c]
    by_cases c2 : A.st (A.so p) < p
    · rw [if_pos c2]; exact br_se
    · rw [if_neg c2]; exact br_se
  · rw [if_neg c]
    by_cases c2 : A.st (A.so p) < p
    · rw [if_pos c2]; exact br_se
    · rw [if_neg c2]; exact br_se
/-- a reaction leaves the heat of words that are further ahead than its neighbour -/
theorem react_far {A : Sh} {p q : Nat} (hq : q + 1 < p) : (reactA A p).he q = A.he q := by
  have hz : (zeroA A p).he q = A.he q := by
    show (if q = p then 0 else A.he q) = A.he q
    rw [if_neg (by omega)]
  have hb : (brA (zeroA A p) (A.so p) p).he q = A.he q := by rw [br_he]; exact hz
  have hc : (if A.st (A.so p) < p then warmA (brA (zeroA A p) (A.so p) p) (p - 1) (A.se 1) else brA (zeroA A p) (A.so p) p).he q = A.he q := by
    by_cases c2 : A.st (A.so p) < p
    · rw [if_pos c2]
      show (if q = p - 1 then _ else (brA (zeroA A p) (A.so p) p).he q) = A.he q
      rw [if_neg (by omega)]
      exact hb
    · rw [if_neg c2]; exact hb
  unfold reactA
  show (if p + 1 < A.st (A.so p + 1) then warmA (if A.st (A.so p) < p then warmA (brA (zeroA A p) (A.so p) p) (p - 1) (A.se 1) else brA (zeroA A p) (A.so p) p) (p + 1) (A.se 1) else (if A.st (A.so p) < p then warmA (brA (zeroA A p) (A.so p) p) (p - 1) (A.se 1) else brA (zeroA A p) (A.so p) p)).he q = A.he q
  by_cases c : p + 1 < A.st (A.so p + 1)
  · rw [if_pos c]
    show (if q = p + 1 then _ else (if A.st (A.so p) < p then warmA (brA (zeroA A p) (A.so p) p) (p - 1) (A.se 1) else brA (zeroA A p) (A.so p) p).he q) = A.he q
    rw [if_neg (by omega)]
    exact hc
  · rw [if_neg c]; exact hc
def cold (A : Sh) (p : Nat) : Prop := A.he p < A.se 0
/-- the run: the first word that is too hot reacts, until there is none -/
def fhot (P : Nat → Bool) : Nat → Nat → Nat
  | p, 0 => p
  | p, r + 1 => if P p = true then p else fhot P (p + 1) r
theorem fhot_s (P : Nat → Bool) {a : Nat} : ∀ (r p : Nat), p ≤ a → a ≤ p + r → (∀ q, p ≤ q → q < a → P q = false) → (a < p + r → P a = true) → fhot P p r = a := by
  intro r
  induction r with
  | zero => intro p h1 h2 _ _; show p = a; omega
  | succ r ih =>
    intro p h1 h2 h3 h4
    show (if P p = true then p else fhot P (p + 1) r) = a
    by_cases hp : p = a
    · subst hp
      rw [if_pos (h4 (by omega))]
    · rw [if_neg (by rw [h3 p (Nat.le_refl _) (by omega)]; decide)]
      exact ih (p + 1) (by omega) (by omega) (fun q a b => h3 q (by omega) b) (fun c => h4 (by omega))
def Sh.fh (A : Sh) : Nat := fhot (fun p => decide (A.se 0 ≤ A.he p)) 0 A.wn
def runA : Nat → Sh → Option (Sh × Nat)
  | 0, _ => none
  | f + 1, A => if A.fh = A.wn then some (A, 0) else (runA f (reactA A A.fh)).map (fun x => (x.1, x.2 + 1))
def Runs (A B : Sh) (n : Nat) : Prop := ∃ f, runA f A = some (B, n)
theorem runA_more : ∀ (f : Nat) (A : Sh) (x : Sh × Nat), runA f A = some x → runA (f + 1) A = some x := by
  intro f
  induction f with
  | zero => intro A x h; cases h
  | succ f ih =>
    intro A x h
    unfold runA at h ⊢
    by_cases c : A.fh = A.wn
    · rw [if_pos c] at h ⊢; exact h
    · rw [if_neg c] at h ⊢
      cases hr : runA f (reactA A A.fh) with
      | none => rw [hr] at h; cases h
      | some z => rw [hr] at h; rw [ih _ _ hr]; exact h
theorem runA_add {f : Nat} {A : Sh} {x : Sh × Nat} (h : runA f A = some x) (g : Nat) : runA (f + g) A = some x := by
  induction g with
  | zero => exact h
  | succ g ih => exact runA_more _ _ _ ih
theorem Runs.det {A B C : Sh} {n m : Nat} (h1 : Runs A B n) (h2 : Runs A C m) : B = C ∧ n = m := by
  obtain ⟨f, hf⟩ := h1
  obtain ⟨g, hg⟩ := h2
  have a := runA_add hf g
  have b := runA_add hg f
  rw [Nat.add_comm g f] at b
  rw [a] at b
  have := Option.some.inj b
  exact ⟨congrArg Prod.fst this, congrArg Prod.snd this⟩
theorem Runs.done {A : Sh} (h : ∀ q, q < A.wn → cold A q) : Runs A A 0 := by
  refine ⟨1, ?_⟩
  have e : A.fh = A.wn := fhot_s _ A.wn 0 (Nat.zero_le _) (by omega) (fun q _ hq => by
    have := h q hq
    unfold cold at this
    simp only [decide_eq_false_iff_not]
    omega) (fun c => by omega)
  unfold runA
  rw [if_pos e]
theorem Runs.step {A B : Sh} {n p : Nat} (hp : p < A.wn) (hot : A.se 0 ≤ A.he p) (hc : ∀ q, q < p → cold A q) (h : Runs (reactA A p) B n) : Runs A B (n + 1) := by
  obtain ⟨f, hf⟩ := h
  refine ⟨f + 1, ?_⟩
  have e : A.fh = p := fhot_s _ A.wn 0 (Nat.zero_le _) (by omega) (fun q _ hq => by
    have := hc q hq
    unfold cold at this
    simp only [decide_eq_false_iff_not]
    omega) (fun _ => by simp only [decide_eq_true_eq]; exact hot)
  unfold runA
  rw [if_neg (by omega), e, hf]
  rfl
/-- what a run keeps: WF, words, settings; splits and stories grow alike -/
def Keeps (A B : Sh) : Prop := WF B ∧ B.wn = A.wn ∧ B.se = A.se ∧ B.sp + A.ns = A.sp + B.ns ∧ A.ns ≤ B.ns ∧ B.le = A.le ∧ B.nf = A.nf
theorem br_keep {A : Sh} {K p : Nat} : (brA A K p).sp + A.ns = A.sp + (brA A K p).ns ∧ A.ns ≤ (brA A K p).ns ∧ (brA A K p).le = A.le ∧ (brA A K p).nf = A.nf := by
  unfold brA
  by_cases c1 : p = A.st K
  · rw [if_pos c1]; exact ⟨rfl, Nat.le_refl _, rfl, rfl⟩
  · rw [if_neg c1]
    by_cases c2 : A.ns < 12
    · rw [if_pos c2]
      refine ⟨?_, ?_, rfl, rfl⟩
      · show A.sp + 1 + A.ns = A.sp + (A.ns + 1); omega
      · show A.ns ≤ A.ns + 1; omega
    · rw [if_neg c2]; exact ⟨rfl, Nat.le_refl _, rfl, rfl⟩
theorem react_keep {A : Sh} (hW : WF A) {p : Nat} (hp : p < A.wn) : Keeps A (reactA A p) := by
  have k := br_keep (A := zeroA A p) (K := A.so p) (p := p)
  refine ⟨hW.react hp, react_wn hW hp, react_se, ?_⟩
  unfold reactA
  show (if p + 1 < A.st (A.so p + 1) then warmA (if A.st (A.so p) < p then warmA (brA (zeroA A p) (A.so p) p) (p - 1) (A.se 1) else brA (zeroA A p) (A.so p) p) (p + 1) (A.se 1) else (if A.st (A.so p) < p then warmA (brA (zeroA A p) (A.so p) p) (p - 1) (A.se 1) else brA (zeroA A p) (A.so p) p)).sp + A.ns = A.sp + (if p + 1 < A.st (A.so p + 1) then warmA (if A.st (A.so p) < p then warmA (brA (zeroA A p) (A.so p) p) (p - 1) (A.se 1) else brA (zeroA A p) (A.so p) p) (p + 1) (A.se 1) else (if A.st (A.so p) < p then warmA (brA (zeroA A p) (A.so p) p) (p - 1) (A.se 1) else brA (zeroA A p) (A.so p) p)).ns ∧ A.ns ≤ (if p + 1 < A.st (A.so p + 1) then warmA (if A.st (A.so p) < p then warmA (brA (zeroA A p) (A.so p) p) (p - 1) (A.se 1) else brA (zeroA A p) (A.so p) p) (p + 1) (A.se 1) else (if A.st (A.so p) < p then warmA (brA (zeroA A p) (A.so p) p) (p - 1) (A.se 1) else brA (zeroA A p) (A.so p) p)).ns ∧ (if p + 1 < A.st (A.so p + 1) then warmA (if A.st (A.so p) < p then warmA (brA (zeroA A p) (A.so p) p) (p - 1) (A.se 1) else brA (zeroA A p) (A.so p) p) (p + 1) (A.se 1) else (if A.st (A.so p) < p then warmA (brA (zeroA A p) (A.so p) p) (p - 1) (A.se 1) else brA (zeroA A p) (A.so p) p)).le = A.le ∧ (if p + 1 < A.st (A.so p + 1) then warmA (if A.st (A.so p) < p then warmA (brA (zeroA A p) (A.so p) p) (p - 1) (A.se 1) else brA (zeroA A p) (A.so p) p) (p + 1) (A.se 1) else (if A.st (A.so p) < p then warmA (brA (zeroA A p) (A.so p) p) (p - 1) (A.se 1) else brA (zeroA A p) (A.so p) p)).nf = A.nf
  by_cases c : p + 1 < A.st (A.so p + 1)
  · rw [if_pos c]
    by_cases c2 : A.st (A.so p) < p
    · rw [if_pos c2]; exact k
    · rw [if_neg c2]; exact k
  · rw [if_neg c]
    by_cases c2 : A.st (A.so p) < p
    · rw [if_pos c2]; exact k
    · rw [if_neg c2]; exact k
theorem Keeps.refl {A : Sh} (hW : WF A) : Keeps A A := ⟨hW, rfl, rfl, rfl, Nat.le_refl _, rfl, rfl⟩
theorem Keeps.trans {A B C : Sh} (h1 : Keeps A B) (h2 : Keeps B C) : Keeps A C := by
  obtain ⟨a1, a2, a3, a4, a5, a6, a7⟩ := h1
  obtain ⟨b1, b2, b3, b4, b5, b6, b7⟩ := h2
  exact ⟨b1, b2.trans a2, b3.trans a3, by omega, by omega, b6.trans a6, b7.trans a7⟩
section RUNV
variable {Fu : Nat} {se le fa : Ar} {nf : Int32}
theorem jmax_0 (p : Nat) (hp : p < 1000000) : jmax (nI 0) (nI p - nI 1) = nI (p - 1) := by
  unfold jmax
  by_cases h : p = 0
  · subst h
    decide
  · rw [pk_subs (by omega)]
    by_cases h2 : p - 1 = 0
    · rw [h2]; decide
    · rw [if_pos (by rw [nI_lts (by omega) (by omega)]; omega)]
theorem react_L (Fu : Nat) (hF : 20000000 ≤ Fu) (k : Int32 → Ar → Ar → Ar → Ar → Int32 → Int32 → Int32 → Int32 → Option (Int32 × Ar × Ar × Ar × Ar × Int32 × Int32 × Int32 × Int32)) {se le : Ar} {nf : Int32} : ∀ (fu : Nat) (A : Sh) (he sa fa ge : Ar) (ns sp bo fi : Int32) (p x j : Nat), WF A → RV A se le he sa fa ge ns nf sp bo fi → p ≤ A.wn → (∀ q, q < p → cold A q) → A.T + (A.wn - p) < fu → j + (A.T + (A.wn - p)) < 1000000 →
    ∃ B n he' sa' fa' ge' ns' sp' bo' fi', Runs A B n ∧ n ≤ A.T ∧ Keeps A B ∧ RV B se le he' sa' fa' ge' ns' nf sp' bo' fi' ∧ f_X2_react_L6 Fu k se fu (nI x) (nI p) (nI j) he sa fa ge ns sp bo fi = k (nI (x + n)) he' sa' fa' ge' ns' sp' bo' fi' := by
  intro fu
  induction fu with
  | zero => intro A he sa fa ge ns sp bo fi p x j hW h hp hc h1 h2; omega
  | succ fu ih =>
    intro A he sa fa ge ns sp bo fi p x j hW h hp hc h1 h2
    have hw := hW.w
    have e1 := words_r (Fu := Fu) hW h
    have nj : ¬ nI 1000000 ≤ nI j := by rw [nI_les (by omega) (by omega)]; omega
    by_cases hd : A.wn ≤ p
    · refine ⟨A, 0, he, sa, fa, ge, ns, sp, bo, fi, Runs.done (fun q hq => hc q (by omega)), Nat.zero_le _, Keeps.refl hW, h, ?_⟩
      rw [f_X2_react_L6_s, if_neg nj, e1, bd1_s, if_pos (by rw [nI_les (by omega) (by omega)]; exact hd), Nat.add_zero]
    · have hp' : p < A.wn := by omega
      have e2 := h.rhe hp'
      have e3 := h.rse (show 0 < 3 by omega)
      have b1 := (hW.2.2 p hp').2
      have b2 := hW.2.1.2.1
      have nd : ¬ nI A.wn ≤ nI p := by rw [nI_les (by omega) (by omega)]; exact hd
      by_cases hot : A.se 0 ≤ A.he p
      · obtain ⟨he', sa', fa', ge', ns', sp', bo', fi', q1, q2⟩ := reactAt_s hF hW h hp'
        have hT := react_T hW hp' hot
        have hk := react_keep hW hp'
        have hwn := react_wn hW hp'
        obtain ⟨B, n, he2, sa2, fa2, ge2, ns2, sp2, bo2, fi2, r1, r2, r3, r4, r5⟩ := ih (reactA A p) he' sa' fa' ge' ns' sp' bo' fi' (p - 1) (x + 1) (j + 1) hk.1 q2 (by omega) (fun q hq => by
          have := hc q (by omega)
          unfold cold at this ⊢
          rw [react_far (by omega), react_se]
          exact this) (by omega) (by omega)
        refine ⟨B, n + 1, he2, sa2, fa2, ge2, ns2, sp2, bo2, fi2, Runs.step hp' hot hc r1, by omega, hk.trans r3, r4, ?_⟩
        rw [show x + (n + 1) = x + 1 + n by omega, ← r5, f_X2_react_L6_s, if_neg nj, e1, bd1_s, if_neg nd, ix_nIs (by omega) (by omega), gd_true, jn_eq, nI_clamps (by omega), e2, e3, if_pos (by rw [nI_les (by omega) (by omega)]; exact hot), q1, bd8_s, jmax_0 p (by omega), nI_add, nI_add]
      · obtain ⟨B, n, he2, sa2, fa2, ge2, ns2, sp2, bo2, fi2, r1, r2, r3, r4, r5⟩ := ih A he sa fa ge ns sp bo fi (p + 1) x (j + 1) hW h (by omega) (fun q hq => by
          by_cases hqp : q = p
          · subst hqp; unfold cold; omega
          · exact hc q (by omega)) (by omega) (by omega)
        refine ⟨B, n, he2, sa2, fa2, ge2, ns2, sp2, bo2, fi2, r1, r2, r3, r4, ?_⟩
        rw [← r5, f_X2_react_L6_s, if_neg nj, e1, bd1_s, if_neg nd, ix_nIs (by omega) (by omega), gd_true, jn_eq, nI_clamps (by omega), e2, e3, if_neg (by rw [nI_les (by omega) (by omega)]; exact hot), nI_add, nI_add]
theorem react_s (hF : 20000000 ≤ Fu) {A : Sh} {se le he sa fa ge : Ar} {ns nf sp bo fi : Int32} (hW : WF A) (h : RV A se le he sa fa ge ns nf sp bo fi) : ∃ B n he' sa' fa' ge' ns' sp' bo' fi', Runs A B n ∧ n ≤ 149850 ∧ Keeps A B ∧ RV B se le he' sa' fa' ge' ns' nf sp' bo' fi' ∧ f_X2_react Fu se he sa fa ge ns sp bo fi = some (nI n, he', sa', fa', ge', ns', sp', bo', fi') := by
  have hT := hW.T
  have hw := hW.w
  obtain ⟨B, n, he2, sa2, fa2, ge2, ns2, sp2, bo2, fi2, r1, r2, r3, r4, r5⟩ := react_L Fu hF (fun (v38 : Int32) (q_heats_39 : Ar) (q_starts_40 : Ar) (q_families_41 : Ar) (q_generations_42 : Ar) (q_stories_43 : Int32) (q_splits_44 : Int32) (q_boilings_45 : Int32) (q_fizzles_46 : Int32) => some (v38, q_heats_39, q_starts_40, q_families_41, q_generations_42, q_stories_43, q_splits_44, q_boilings_45, q_fizzles_46)) Fu A he sa fa ge ns sp bo fi 0 0 0 hW h (Nat.zero_le _) (fun q hq => by omega) (by omega) (by omega)
  refine ⟨B, n, he2, sa2, fa2, ge2, ns2, sp2, bo2, fi2, r1, by omega, r3, r4, ?_⟩
  unfold f_X2_react
  rw [jn_eq, r5, Nat.zero_add]
theorem react4_L (Fu : Nat) (hF : 20000000 ≤ Fu) (k : Int32 → Ar → Option (Int32 × Ar)) : ∀ (fu : Nat) (A : Sh) (s : Ar) (p x : Nat), WF A → RS A s → p ≤ A.wn → (∀ q, q < p → cold A q) → A.T * 151 + (A.wn - p) < fu →
    ∃ B n s', Runs A B n ∧ Keeps A B ∧ RS B s' ∧ f_X4_react_L4 Fu k fu (nI x) (nI p) s = k (nI (x + n)) s' := by
  intro fu
  induction fu with
  | zero => intro A s p x hW h hp hc h1; omega
  | succ fu ih =>
    intro A s p x hW h hp hc h1
    have hw := hW.w
    have e1 := h.rwn
    by_cases hd : A.wn ≤ p
    · refine ⟨A, 0, s, Runs.done (fun q hq => hc q (by omega)), Keeps.refl hW, h, ?_⟩
      rw [f_X4_react_L4_s, e1, if_pos (by rw [nI_les (by omega) (by omega)]; exact hd), Nat.add_zero]
    · have hp' : p < A.wn := by omega
      have e2 := h.rhe hp'
      have e3 := h.rse (show 0 < 3 by omega)
      have b1 := (hW.2.2 p hp').2
      have b2 := hW.2.1.2.1
      have nd : ¬ nI A.wn ≤ nI p := by rw [nI_les (by omega) (by omega)]; exact hd
      by_cases hot : A.se 0 ≤ A.he p
      · obtain ⟨s1, q1, q2⟩ := reactOne_s hF hW h hp'
        have hT := react_T hW hp' hot
        have hk := react_keep hW hp'
        have hwn := react_wn hW hp'
        obtain ⟨B, n, s2, r1, r3, r4, r5⟩ := ih (reactA A p) s1 0 (x + 1) hk.1 q2 (Nat.zero_le _) (fun q hq => by omega) (by omega)
        refine ⟨B, n + 1, s2, Runs.step hp' hot hc r1, hk.trans r3, r4, ?_⟩
        rw [show x + (n + 1) = x + 1 + n by omega, ← r5, f_X4_react_L4_s, e1, if_neg nd, nI_add, ix_nIs (by omega) (by omega), gd_true, nI_clamps (by omega), e2, e3, if_neg (by rw [nI_lts (by omega) (by omega)]; omega), q1, bd1_s, nI_add]
      · obtain ⟨B, n, s2, r1, r3, r4, r5⟩ := ih A s (p + 1) x hW h (by omega) (fun q hq => by
          by_cases hqp : q = p
          · subst hqp; unfold cold; omega
          · exact hc q (by omega)) (by omega)
        refine ⟨B, n, s2, r1, r3, r4, ?_⟩
        rw [← r5, f_X4_react_L4_s, e1, if_neg nd, nI_add, ix_nIs (by omega) (by omega), gd_true, nI_clamps (by omega), e2, e3, if_pos (by rw [nI_lts (by omega) (by omega)]; omega), nI_add]
theorem react4_s {Fu : Nat} (hF : 100000000 ≤ Fu) {A : Sh} {s : Ar} (hW : WF A) (h : RS A s) : ∃ B n s', Runs A B n ∧ Keeps A B ∧ RS B s' ∧ f_X4_react Fu s = some (nI n, s') := by
  have hT := hW.T
  have hw := hW.w
  obtain ⟨B, n, s2, r1, r3, r4, r5⟩ := react4_L Fu (by omega) (fun v s => some (v, s)) Fu A s 0 0 hW h (Nat.zero_le _) (fun q hq => by omega) (by omega)
  refine ⟨B, n, s2, r1, r3, r4, ?_⟩
  rw [Nat.zero_add] at r5
  exact r5
end RUNV
