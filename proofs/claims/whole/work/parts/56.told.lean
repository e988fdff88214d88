/-! PURE: the class writes the pad's stories -/
def tw (T : TT) : Nat := T.1
def tn (T : TT) : Nat := T.2.1
def tl (T : TT) : FN := T.2.2.1
def th (T : TT) : FN := T.2.2.2.1
def ts (T : TT) : FN := T.2.2.2.2.1
def te (T : TT) : FN := T.2.2.2.2.2
/-- what holds of what has been told, in a state -/
def TI (T : TT) (q : Nat) : Prop := te T 0 = 0 ∧ te T (tn T) = tw T ∧ 1 ≤ tn T ∧ (∀ k, k + 1 < tn T → te T k < te T (k + 1)) ∧ te T (tn T - 1) ≤ tw T ∧ (q ≠ 0 → te T (tn T - 1) < tw T) ∧ (∀ w, w < tw T → tl T w < 26 ∧ th T w ≤ 99 ∧ ts T w < tn T ∧ te T (ts T w) ≤ w ∧ w < te T (ts T w + 1)) ∧ (q = 1 → th T (tw T - 1) = 0) ∧ (q = 2 → th T (tw T - 1) ≤ 9)
theorem TI_0 (ch : FN) : TI (tpl ch 0) 0 := ⟨rfl, rfl, Nat.le_refl _, fun k h => by have : (k + 1 < 1) := h; omega, Nat.le_refl _, fun h => absurd rfl h, fun w h => absurd h (Nat.not_lt_zero _), fun h => by omega, fun h => by omega⟩
theorem TI_s {T : TT} {q c : Nat} (h : TI T q) (hc : nxt q c ≠ 4) (hq : q ≤ 4) (hq4 : q ≠ 4) : TI (tst c T) (nxt q c) := by
  obtain ⟨h1, h2, h3, h4, h5, h6, h7, h8, h9⟩ := h
  by_cases c1 : isL c
  · rw [tst_L c1, nxt_L c1]
    have e1 : te T (tn T - 1) ≤ tw T := h5
    refine ⟨?_, ?_, h3, ?_, ?_, fun _ => ?_, ?_, fun _ => ?_, fun h => by omega⟩
    · show upN (te T) (tn T) (tw T + 1) 0 = 0
      rw [upN_ne (by omega)]; exact h1
    · show upN (te T) (tn T) (tw T + 1) (tn T) = tw T + 1
      rw [upN_eq]
    · intro k hk
      have hk : k + 1 < tn T := hk
      show upN (te T) (tn T) (tw T + 1) k < upN (te T) (tn T) (tw T + 1) (k + 1)
      rw [upN_ne (by omega), upN_ne (by omega)]; exact h4 k hk
    · show upN (te T) (tn T) (tw T + 1) (tn T - 1) ≤ tw T + 1
      rw [upN_ne (by omega)]; omega
    · show upN (te T) (tn T) (tw T + 1) (tn T - 1) < tw T + 1
      rw [upN_ne (by omega)]; omega
    · intro w hw
      have hw : w < tw T + 1 := hw
      show upN (tl T) (tw T) (c - 97) w < 26 ∧ upN (th T) (tw T) 0 w ≤ 99 ∧ upN (ts T) (tw T) (tn T - 1) w < tn T ∧ upN (te T) (tn T) (tw T + 1) (upN (ts T) (tw T) (tn T - 1) w) ≤ w ∧ w < upN (te T) (tn T) (tw T + 1) (upN (ts T) (tw T) (tn T - 1) w + 1)
      by_cases d : w = tw T
      · subst d
        rw [upN_eq, upN_eq, upN_eq, upN_ne (by omega), show tn T - 1 + 1 = tn T by omega, upN_eq]
        omega
      · obtain ⟨a1, a2, a3, a4, a5⟩ := h7 w (by omega)
        rw [upN_ne d, upN_ne d, upN_ne d, upN_ne (by omega)]
        refine ⟨a1, a2, a3, a4, ?_⟩
        by_cases d2 : ts T w + 1 = tn T
        · rw [d2, upN_eq]; omega
        · rw [upN_ne d2]; exact a5
    · show upN (th T) (tw T) 0 (tw T + 1 - 1) = 0
      rw [Nat.add_sub_cancel, upN_eq]
  · have q0 : q ≠ 0 := fun z => by subst z; exact hc (nxt_0 c1)
    by_cases c2 : c = 47
    · subst c2
      have lt := h6 q0
      rw [tst_sl, nxt_sl q0]
      refine ⟨?_, ?_, ?_, ?_, ?_, fun h => absurd rfl h, ?_, fun h => by omega, fun h => by omega⟩
      · show upN (te T) (tn T + 1) (tw T) 0 = 0
        rw [upN_ne (by omega)]; exact h1
      · show upN (te T) (tn T + 1) (tw T) (tn T + 1) = tw T
        rw [upN_eq]
      · show 1 ≤ tn T + 1
        omega
      · intro k hk
        have hk : k + 1 < tn T + 1 := hk
        show upN (te T) (tn T + 1) (tw T) k < upN (te T) (tn T + 1) (tw T) (k + 1)
        rw [upN_ne (by omega), upN_ne (by omega)]
        by_cases d : k + 1 = tn T
        · rw [d, h2]
          have : k = tn T - 1 := by omega
          rw [this]; exact lt
        · exact h4 k (by omega)
      · show upN (te T) (tn T + 1) (tw T) (tn T + 1 - 1) ≤ tw T
        rw [upN_ne (by omega), Nat.add_sub_cancel, h2]
        exact Nat.le_refl _
      · intro w hw
        obtain ⟨a1, a2, a3, a4, a5⟩ := h7 w hw
        show tl T w < 26 ∧ th T w ≤ 99 ∧ ts T w < tn T + 1 ∧ upN (te T) (tn T + 1) (tw T) (ts T w) ≤ w ∧ w < upN (te T) (tn T + 1) (tw T) (ts T w + 1)
        rw [upN_ne (by omega), upN_ne (by omega)]
        exact ⟨a1, a2, by omega, a4, a5⟩
    · have key : (q = 1 ∧ 49 ≤ c ∧ c ≤ 57) ∨ (q = 2 ∧ 48 ≤ c ∧ c ≤ 57) := Classical.byContradiction (fun z => hc (by
        unfold nxt
        rw [if_neg c1, if_neg q0, if_neg c2, if_neg (fun y => z (Or.inl y)), if_neg (fun y => z (Or.inr y))]))
      have lt := h6 q0
      have hd : 48 ≤ c ∧ c ≤ 57 := by omega
      rw [tst_d hd]
      have hth : th T (tw T - 1) * 10 + (c - 48) ≤ 99 ∧ (q = 1 → th T (tw T - 1) * 10 + (c - 48) ≤ 9) := by
        rcases key with ⟨k1, k2⟩ | ⟨k1, k2⟩
        · have := h8 k1; omega
        · have := h9 k1; exact ⟨by omega, fun z => by omega⟩
      refine ⟨h1, h2, h3, h4, h5, fun _ => lt, ?_, fun z => ?_, fun z => ?_⟩
      · intro w hw
        obtain ⟨a1, a2, a3, a4, a5⟩ := h7 w hw
        refine ⟨a1, ?_, a3, a4, a5⟩
        show upN (th T) (tw T - 1) (th T (tw T - 1) * 10 + (c - 48)) w ≤ 99
        by_cases d : w = tw T - 1
        · rw [d, upN_eq]; exact hth.1
        · rw [upN_ne d]; exact a2
      · exfalso
        rcases key with ⟨k1, k2⟩ | ⟨k1, k2⟩
        · rw [k1, nxt_d1 k2] at z; omega
        · rw [k1, nxt_d2 k2] at z; omega
      · show upN (th T) (tw T - 1) (th T (tw T - 1) * 10 + (c - 48)) (tw T - 1) ≤ 9
        rw [upN_eq]
        rcases key with ⟨k1, k2⟩ | ⟨k1, k2⟩
        · exact hth.2 k1
        · rw [k1, nxt_d2 k2] at z; omega
theorem TI_i (ch : FN) : ∀ (i : Nat), gdp ch i → TI (tpl ch i) (ps ch i) := by
  intro i
  induction i with
  | zero => intro _; exact TI_0 ch
  | succ i ih =>
    intro h
    have := h (i + 1) (Nat.le_refl _)
    exact TI_s (ih (fun j hj => h j (by omega))) this (ps_le ch i) (h i (by omega))
theorem tpl_mono (ch : FN) (n : Nat) : ∀ (d i : Nat), i + d = n → (tpl ch i).1 ≤ (tpl ch n).1 ∧ (tpl ch i).2.1 ≤ (tpl ch n).2.1 := by
  intro d
  induction d with
  | zero => intro i h; rw [show i = n by omega]; exact ⟨Nat.le_refl _, Nat.le_refl _⟩
  | succ d ih =>
    intro i h
    have := ih (i + 1) (by omega)
    rw [tpl_s, (tpl_N _).1, (tpl_N _).2] at this
    omega
/-- the shelf with what has been told behind it -/
def addT (A : Sh) (T : TT) : Sh := Sh.mk A.se (A.ns + tn T) (fun k => if k ≤ A.ns then A.st k else A.wn + te T (k - A.ns)) (fun p => if p < A.wn then A.le p else tl T (p - A.wn)) (fun p => if p < A.wn then A.he p else th T (p - A.wn)) (fun k => if k < A.ns then A.fa k else A.nf + nI (k - A.ns)) (fun k => if k < A.ns then A.ge k else nI 0) (A.nf + nI (tn T)) A.sp A.bo A.fi
theorem ad_st {A : Sh} {T : TT} {k : Nat} : (addT A T).st k = if k ≤ A.ns then A.st k else A.wn + te T (k - A.ns) := rfl
theorem ad_le {A : Sh} {T : TT} {p : Nat} : (addT A T).le p = if p < A.wn then A.le p else tl T (p - A.wn) := rfl
theorem ad_he {A : Sh} {T : TT} {p : Nat} : (addT A T).he p = if p < A.wn then A.he p else th T (p - A.wn) := rfl
theorem ad_fa {A : Sh} {T : TT} {k : Nat} : (addT A T).fa k = if k < A.ns then A.fa k else A.nf + nI (k - A.ns) := rfl
theorem ad_ge {A : Sh} {T : TT} {k : Nat} : (addT A T).ge k = if k < A.ns then A.ge k else nI 0 := rfl
theorem ad_wn {A : Sh} {T : TT} (h1 : 1 ≤ tn T) (h2 : te T (tn T) = tw T) : (addT A T).wn = A.wn + tw T := by
  show (addT A T).st (A.ns + tn T) = _
  rw [ad_st, if_neg (by omega), Nat.add_sub_cancel_left, h2]
theorem WF.add {A : Sh} {T : TT} {q : Nat} (hW : WF A) (h : TI T q) (hq : q ≠ 0) (h12 : A.ns + tn T ≤ 12) (h150 : A.wn + tw T ≤ 150) : WF (addT A T) := by
  obtain ⟨h1, h2, h3, h4, h5, h6, h7, h8, h9⟩ := h
  have ew := ad_wn (A := A) h3 h2
  refine ⟨⟨h12, ?_, fun k hk => ?_, ?_⟩, hW.2.1, fun p hp => ?_⟩
  · rw [ad_st, if_pos (Nat.zero_le _)]; exact hW.1.2.1
  · have hk : k < A.ns + tn T := hk
    rw [ad_st, ad_st]
    by_cases c : k + 1 ≤ A.ns
    · rw [if_pos (by omega), if_pos c]; exact hW.1.2.2.1 k (by omega)
    · have up : te T (k - A.ns) < te T (k + 1 - A.ns) := by
        by_cases d : k + 1 - A.ns = tn T
        · rw [d, h2, show k - A.ns = tn T - 1 by omega]; exact h6 hq
        · have := h4 (k - A.ns) (by omega)
          rw [show k + 1 - A.ns = k - A.ns + 1 by omega]; exact this
      by_cases c2 : k = A.ns
      · rw [if_pos (by omega), if_neg c, c2]
        rw [c2, Nat.sub_self, h1] at up
        show A.wn < _
        omega
      · rw [if_neg (by omega), if_neg c]; omega
  · have : (addT A T).wn ≤ 150 := by rw [ew]; exact h150
    exact this
  · rw [ew] at hp
    rw [ad_le, ad_he]
    by_cases c : p < A.wn
    · rw [if_pos c, if_pos c]; exact hW.2.2 p c
    · have := h7 (p - A.wn) (by omega)
      rw [if_neg c, if_neg c]
      exact ⟨this.1, by omega⟩
