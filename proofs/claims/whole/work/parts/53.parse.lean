/-! PURE: the text on the pad, both sides -/
abbrev isL (c : Nat) : Prop := 97 ≤ c ∧ c ≤ 122
def upN (f : FN) (a x : Nat) : FN := fun q => if q = a then x else f q
theorem upN_eq {f : FN} {a x : Nat} : upN f a x a = x := if_pos rfl
theorem upN_ne {f : FN} {a b x : Nat} (h : b ≠ a) : upN f a x b = f b := if_neg h
def nxt (q c : Nat) : Nat := if isL c then 1 else if q = 0 then 4 else if c = 47 then 0 else if q = 1 ∧ 49 ≤ c ∧ c ≤ 57 then 2 else if q = 2 ∧ 48 ≤ c ∧ c ≤ 57 then 3 else 4
def ps (ch : FN) : Nat → Nat
  | 0 => 0
  | i + 1 => nxt (ps ch i) (ch i)
theorem ps_s (ch : FN) (i : Nat) : ps ch (i + 1) = nxt (ps ch i) (ch i) := rfl
theorem nxt_le (q c : Nat) : nxt q c ≤ 4 := by
  unfold nxt
  (repeat' split) <;> omega
theorem ps_le (ch : FN) (i : Nat) : ps ch i ≤ 4 := by
  cases i with
  | zero => exact Nat.zero_le _
  | succ i => exact nxt_le _ _
def gdp (ch : FN) (i : Nat) : Prop := ∀ j, j ≤ i → ps ch j ≠ 4
theorem gdp_s {ch : FN} {i : Nat} (h : gdp ch i) (h2 : ps ch (i + 1) ≠ 4) : gdp ch (i + 1) := fun j hj => by
  by_cases e : j = i + 1
  · rw [e]; exact h2
  · exact h j (by omega)
/-- the fault -/
def FS (ch : FN) (n : Nat) (r : Int32) : Prop := (∃ i, i < n ∧ gdp ch i ∧ ps ch (i + 1) = 4 ∧ r = nI i) ∨ (gdp ch n ∧ ps ch n = 0 ∧ r = nI n) ∨ (gdp ch n ∧ ps ch n ≠ 0 ∧ r = -6)
theorem FS.det {ch : FN} {n : Nat} {r q : Int32} (h1 : FS ch n r) (h2 : FS ch n q) : r = q := by
  rcases h1 with ⟨i, a1, a2, a3, a4⟩ | ⟨a1, a2, a3⟩ | ⟨a1, a2, a3⟩
  · rcases h2 with ⟨j, b1, b2, b3, b4⟩ | ⟨b1, b2, b3⟩ | ⟨b1, b2, b3⟩
    · have : i = j := by
        rcases Nat.lt_trichotomy i j with t | t | t
        · exact absurd a3 (b2 (i + 1) t)
        · exact t
        · exact absurd b3 (a2 (j + 1) t)
      rw [a4, b4, this]
    · exact absurd a3 (b1 (i + 1) a1)
    · exact absurd a3 (b1 (i + 1) a1)
  · rcases h2 with ⟨j, b1, b2, b3, b4⟩ | ⟨b1, b2, b3⟩ | ⟨b1, b2, b3⟩
    · exact absurd b3 (a1 (j + 1) b1)
    · rw [a3, b3]
    · exact absurd a2 b2
  · rcases h2 with ⟨j, b1, b2, b3, b4⟩ | ⟨b1, b2, b3⟩ | ⟨b1, b2, b3⟩
    · exact absurd b3 (a1 (j + 1) b1)
    · exact absurd b2 a2
    · rw [a3, b3]
/-- what has been told up to a place: words, stories, letters, heats, stories of words, ends of stories -/
abbrev TT : Type := Nat × Nat × FN × FN × FN × FN
def tst (c : Nat) (T : TT) : TT :=
  if c = 47 then (T.1, T.2.1 + 1, T.2.2.1, T.2.2.2.1, T.2.2.2.2.1, upN T.2.2.2.2.2 (T.2.1 + 1) T.1)
  else if isL c then (T.1 + 1, T.2.1, upN T.2.2.1 T.1 (c - 97), upN T.2.2.2.1 T.1 0, upN T.2.2.2.2.1 T.1 (T.2.1 - 1), upN T.2.2.2.2.2 T.2.1 (T.1 + 1))
  else (T.1, T.2.1, T.2.2.1, upN T.2.2.2.1 (T.1 - 1) (T.2.2.2.1 (T.1 - 1) * 10 + (c - 48)), T.2.2.2.2.1, T.2.2.2.2.2)
def tpl (ch : FN) : Nat → TT
  | 0 => (0, 1, fun _ => 0, fun _ => 0, fun _ => 0, fun _ => 0)
  | i + 1 => tst (ch i) (tpl ch i)
theorem tpl_s (ch : FN) (i : Nat) : tpl ch (i + 1) = tst (ch i) (tpl ch i) := rfl
theorem tpl_le (ch : FN) : ∀ (i : Nat), (tpl ch i).1 ≤ i ∧ 1 ≤ (tpl ch i).2.1 ∧ (tpl ch i).2.1 ≤ i + 1 := by
  intro i
  induction i with
  | zero => exact ⟨Nat.le_refl _, Nat.le_refl _, Nat.le_refl _⟩
  | succ i ih =>
    rw [tpl_s]
    unfold tst
    by_cases c1 : ch i = 47
    · rw [if_pos c1]; dsimp only; omega
    · rw [if_neg c1]
      by_cases c2 : isL (ch i)
      · rw [if_pos c2]; dsimp only; omega
      · rw [if_neg c2]; dsimp only; omega
section PA
variable {Fu n : Nat} {ch : FN} {cs pd : Ar}
theorem isWordL_s (c : Nat) (hc : c < 1000000) : f_X1_isWord Fu (nI c) = some (if isL c then nI 1 else nI 0) := by
  unfold f_X1_isWord
  rw [isWithin_s, bd1_s, bz_if, gd_true]
  have e : (nI 97 ≤ nI c ∧ nI c ≤ nI 122) ↔ isL c := by
    rw [nI_les (by omega) (by omega), nI_les (by omega) (by omega)]
  by_cases h : isL c
  · rw [if_pos h, if_pos (e.mpr h)]
  · rw [if_neg h, if_neg (fun z => h (e.mp z))]
theorem with_nn {a b c : Nat} (ha : a < 1000000) (hb : b < 1000000) (hc : c < 1000000) : (if nI a ≤ nI c ∧ nI c ≤ nI b then nI 1 else nI 0) = nI (if a ≤ c ∧ c ≤ b then 1 else 0) := by
  have e : (nI a ≤ nI c ∧ nI c ≤ nI b) ↔ (a ≤ c ∧ c ≤ b) := by
    rw [nI_les (by omega) (by omega), nI_les (by omega) (by omega)]
  by_cases h : a ≤ c ∧ c ≤ b
  · rw [if_pos h, if_pos (e.mpr h)]
  · rw [if_neg h, if_neg (fun z => h (e.mp z))]
theorem place_s {q c : Nat} (hq : q ≤ 4) (hc : c < 1000000) : f_X1_placeBehind Fu (nI q) (nI c) = some (nI (nxt q c)) := by
  unfold f_X1_placeBehind nxt
  rw [isWordL_s c hc, bd1_s]
  by_cases h1 : isL c
  · rw [if_pos h1, if_neg one_ne, if_pos h1]
  · rw [if_neg h1, if_pos zero_eq, if_neg h1]
    by_cases h2 : q = 0
    · subst h2
      rw [if_pos zero_eq, if_pos rfl]
    · rw [if_neg (show ¬ nI q = 0 by rw [nI_zero, nI_eqs (by omega) (by omega)]; exact h2), if_neg h2]
      by_cases h3 : c = 47
      · subst h3
        rw [if_pos rfl, if_pos rfl]
      · rw [if_neg (show ¬ nI c = nI 47 by rw [nI_eqs (by omega) (by omega)]; exact h3), if_neg h3, isWithin_s, bd1_s, isWithin_s, bd1_s, with_nn (by omega) (by omega) hc, with_nn (by omega) (by omega) hc]
        by_cases h4 : q = 1
        · subst h4
          rw [if_pos rfl, if_neg (show ¬ nI 1 = nI 2 by decide), if_neg (show ¬ ((1 : Nat) = 2 ∧ 48 ≤ c ∧ c ≤ 57) by omega)]
          by_cases h5 : 49 ≤ c ∧ c ≤ 57
          · rw [if_pos h5, if_neg one_ne, if_pos ⟨rfl, h5⟩]
          · rw [if_neg h5, if_pos zero_eq, if_neg (fun z => h5 z.2)]
        · rw [if_neg (show ¬ nI q = nI 1 by rw [nI_eqs (by omega) (by omega)]; exact h4), if_neg (show ¬ (q = 1 ∧ 49 ≤ c ∧ c ≤ 57) from fun z => h4 z.1)]
          by_cases h6 : q = 2
          · subst h6
            rw [if_pos rfl]
            by_cases h7 : 48 ≤ c ∧ c ≤ 57
            · rw [if_pos h7, if_neg one_ne, if_pos ⟨rfl, h7⟩]
            · rw [if_neg h7, if_pos zero_eq, if_neg (fun z => h7 z.2)]
          · rw [if_neg (show ¬ nI q = nI 2 by rw [nI_eqs (by omega) (by omega)]; exact h6), if_neg (show ¬ (q = 2 ∧ 48 ≤ c ∧ c ≤ 57) from fun z => h6 z.1)]
theorem ff_L (hn : n ≤ 60) (hcs : ∀ j, j < n → cs j = nI (ch j)) (hb : ∀ j, j < n → 33 ≤ ch j ∧ ch j ≤ 126) : ∀ (fu i : Nat), i ≤ n → gdp ch i → n - i < fu → ∃ r, FS ch n r ∧ f_X1_firstFault_L4 Fu cs (nI n) fu (nI (ps ch i)) (nI i) = some r := by
  intro fu
  induction fu with
  | zero => intro i h1 h2 h3; omega
  | succ fu ih =>
    intro i h1 h2 h3
    have hle := ps_le ch i
    have hle2 := ps_le ch (i + 1)
    rw [f_X1_firstFault_L4_s]
    by_cases hh : n ≤ i
    · have e : i = n := by omega
      subst e
      rw [if_pos (by rw [nI_les (by omega) (by omega)]; exact hh), nm_eq]
      by_cases c : ps ch i = 0
      · rw [if_pos (show nI (ps ch i) = 0 by rw [c]; exact zero_eq)]
        exact ⟨nI i, Or.inr (Or.inl ⟨h2, c, rfl⟩), rfl⟩
      · rw [if_neg (show ¬ nI (ps ch i) = 0 by rw [nI_zero, nI_eqs (by omega) (by omega)]; exact c)]
        exact ⟨-6, Or.inr (Or.inr ⟨h2, c, rfl⟩), rfl⟩
    · have b := hb i (by omega)
      rw [if_neg (by rw [nI_les (by omega) (by omega)]; exact hh), ix_nIs (by omega) (by omega), gd_true, nI_clamps (by omega), hcs i (by omega), place_s hle (by omega), bd1_s, ← ps_s]
      by_cases c : ps ch (i + 1) = 4
      · rw [if_pos (by rw [c])]
        exact ⟨nI i, Or.inl ⟨i, by omega, h2, c, rfl⟩, rfl⟩
      · rw [if_neg (by rw [nI_eqs (by omega) (by omega)]; exact c), nI_add]
        exact ih (i + 1) (by omega) (gdp_s h2 c) (by omega)
theorem ff_s (hF : 20000000 ≤ Fu) (hn : n ≤ 60) (hcs : ∀ j, j < n → cs j = nI (ch j)) (hb : ∀ j, j < n → 33 ≤ ch j ∧ ch j ≤ 126) : ∃ r, FS ch n r ∧ f_X1_firstFault Fu cs (nI n) = some r :=
  ff_L hn hcs hb Fu 0 (Nat.zero_le _) (fun j hj => by rw [show j = 0 by omega]; exact (by decide : (0 : Nat) ≠ 4)) (by omega)
theorem sign_y {i lo hi : Nat} (hn : n ≤ 60) (hpd : ∀ j, j < n → pd j = nI (ch j)) (hb : ∀ j, j < n → 33 ≤ ch j ∧ ch j ≤ 126) (hi1 : hi < 1000) (hl : lo < 1000) (h : i < n ∧ lo ≤ ch i ∧ ch i ≤ hi) : f_X4_sign Fu pd (nI n) (nI i) (nI 0) (nI lo) (nI hi) = some (nI (ch i), nI (i + 1), nI 0) := by
  have b := hb i h.1
  unfold f_X4_sign
  rw [jn_eq, if_neg (show ¬ nI n ≤ nI i by rw [nI_les (by omega) (by omega)]; omega), ix_nIs (by omega) (by omega), gd_true, nI_clamps (by omega), hpd i h.1]
  dsimp only
  rw [jn_eq, if_pos zero_eq, in4_s, with_nn (by omega) (by omega) (by omega), if_pos h.2, bd1_s, if_neg one_ne]
  dsimp only
  rw [bz_0, gd_true, nm_eq, if_pos zero_eq, nI_add]
theorem sign_n {i lo hi : Nat} (hn : n ≤ 60) (hpd : ∀ j, j < n → pd j = nI (ch j)) (hb : ∀ j, j < n → 33 ≤ ch j ∧ ch j ≤ 126) (hi1 : hi < 1000) (hl : 0 < lo ∧ lo < 1000) (hi60 : i ≤ 60) (h : ¬ (i < n ∧ lo ≤ ch i ∧ ch i ≤ hi)) : ∃ v, f_X4_sign Fu pd (nI n) (nI i) (nI 0) (nI lo) (nI hi) = some (v, nI i, nI 1) := by
  unfold f_X4_sign
  rw [jn_eq]
  by_cases c : n ≤ i
  · rw [if_pos (show nI n ≤ nI i by rw [nI_les (by omega) (by omega)]; exact c)]
    dsimp only
    rw [jn_eq, if_pos zero_eq, in4_s, with_nn (by omega) (by omega) (by omega), if_neg (show ¬ (lo ≤ 0 ∧ 0 ≤ hi) by omega), bd1_s, if_pos zero_eq]
    dsimp only
    rw [bz_1, gd_true, nm_eq, if_neg one_ne, nI_add]
    exact ⟨_, rfl⟩
  · have b := hb i (by omega)
    rw [if_neg (show ¬ nI n ≤ nI i by rw [nI_les (by omega) (by omega)]; exact c), ix_nIs (by omega) (by omega), gd_true, nI_clamps (by omega), hpd i (by omega)]
    dsimp only
    rw [jn_eq, if_pos zero_eq, in4_s, with_nn (by omega) (by omega) (by omega), if_neg (show ¬ (lo ≤ ch i ∧ ch i ≤ hi) by omega), bd1_s, if_pos zero_eq]
    dsimp only
    rw [bz_1, gd_true, nm_eq, if_neg one_ne, nI_add]
    exact ⟨_, rfl⟩
theorem isNext_s {i lo hi : Nat} (hn : n ≤ 60) (hpd : ∀ j, j < n → pd j = nI (ch j)) (hb : ∀ j, j < n → 33 ≤ ch j ∧ ch j ≤ 126) (hi1 : hi < 1000) (hl : lo < 1000) (hi60 : i ≤ 60) : f_X4_isNext Fu pd (nI n) (nI i) (nI 0) (nI lo) (nI hi) = some (nI (if i < n ∧ lo ≤ ch i ∧ ch i ≤ hi then 1 else 0)) := by
  unfold f_X4_isNext
  rw [jn_eq, if_pos zero_eq]
  by_cases c : n ≤ i
  · rw [if_pos (show nI n ≤ nI i by rw [nI_les (by omega) (by omega)]; exact c)]
    dsimp only
    rw [bz_0, gd_true, if_neg (show ¬ (i < n ∧ lo ≤ ch i ∧ ch i ≤ hi) by omega)]
  · have b := hb i (by omega)
    rw [if_neg (show ¬ nI n ≤ nI i by rw [nI_les (by omega) (by omega)]; exact c), ix_nIs (by omega) (by omega), gd_true, nI_clamps (by omega), hpd i (by omega), in4_s, with_nn (by omega) (by omega) (by omega), bd1_s]
    by_cases d : lo ≤ ch i ∧ ch i ≤ hi
    · rw [if_pos d, if_neg one_ne]
      dsimp only
      rw [bz_1, gd_true, if_pos ⟨by omega, d⟩]
    · rw [if_neg d, if_pos zero_eq]
      dsimp only
      rw [bz_0, gd_true, if_neg (fun z => d z.2)]
theorem isNext_w {pl lo hi : Int32} : f_X4_isNext Fu pd (nI n) pl (nI 1) lo hi = some (nI 0) := by
  unfold f_X4_isNext
  rw [jn_eq, if_neg one_ne]
  dsimp only
  rw [bz_0, gd_true]
end PA
