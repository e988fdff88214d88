/-! PURE: fault; how many stories and words the pad tells -/
def chA (cs : Ar) : FN := fun j => (cs j).toNatClampNeg
section FA
variable {Fu n : Nat} {cs pd : Ar}
theorem PR.ch (hP : PR n cs pd) : (∀ j, j < n → cs j = nI (chA cs j)) ∧ (∀ j, j < n → pd j = nI (chA cs j)) ∧ (∀ j, j < n → 33 ≤ chA cs j ∧ chA cs j ≤ 126) := by
  have key : ∀ j, j < n → cs j = nI (chA cs j) ∧ pd j = nI (chA cs j) ∧ 33 ≤ chA cs j ∧ chA cs j ≤ 126 := fun j hj => by
    obtain ⟨c, c1, c2, c3, c4⟩ := hP.2 j hj
    have e : chA cs j = c := by
      show (cs j).toNatClampNeg = c
      rw [c3, nI_clamps (by omega)]
    rw [e]
    exact ⟨c3, c4, c1, c2⟩
  exact ⟨fun j hj => (key j hj).1, fun j hj => (key j hj).2.1, fun j hj => (key j hj).2.2⟩
theorem rp_s (hF : 20000000 ≤ Fu) (hP : PR n cs pd) (p0 w0 : Int32) (a1 a2 a3 : Ar) (x0 y0 : Int32) : ∃ pl wr b1 b2 b3 tw tn, ((wr = nI 1 ∧ ¬ pl = -6 ∧ FS (chA cs) n pl) ∨ (wr = nI 0 ∧ gdp (chA cs) n ∧ ps (chA cs) n ≠ 0 ∧ AG (tpl (chA cs) n) b1 b2 b3 ∧ tw = nI (tpl (chA cs) n).1 ∧ tn = nI (tpl (chA cs) n).2.1)) ∧ f_X4_readPad Fu pd (nI n) p0 w0 a1 a2 a3 x0 y0 = some (pl, wr, b1, b2, b3, tw, tn) := by
  obtain ⟨h1, h2, h3⟩ := hP.ch
  have hn := hP.1
  obtain ⟨pl, wr, b1, b2, b3, tw, tn, e1, e2⟩ := rp_L (Fu := Fu) (n := n) (ch := chA cs) (pd := pd) hn h2 h3 Fu 0 a1 a2 a3 (Nat.zero_le _) (fun j hj => by rw [show j = 0 by omega]; exact (by decide : (0 : Nat) ≠ 4)) (by
    by_cases d : 0 = n
    · exact Or.inl ⟨d, rfl⟩
    · refine Or.inr ⟨by omega, ?_⟩
      by_cases d2 : isL (chA cs 0)
      · exact Or.inl d2
      · exact Or.inr (nxt_0 d2)) (fun w hw => absurd hw (Nat.not_lt_zero _)) (by omega)
  refine ⟨pl, wr, b1, b2, b3, tw, tn, e1, ?_⟩
  unfold f_X4_readPad
  rw [jn_eq]
  exact e2 _
theorem sim_fault (hF : 20000000 ≤ Fu) (hP : PR n cs pd) (p0 w0 : Int32) (a1 a2 a3 : Ar) (x0 y0 : Int32) : ∃ r pl wr b1 b2 b3 tw tn, f_X3_fault Fu cs (nI n) = some r ∧ f_X4_fault Fu pd (nI n) p0 w0 a1 a2 a3 x0 y0 = some (r, pl, wr, b1, b2, b3, tw, tn) := by
  obtain ⟨h1, h2, h3⟩ := hP.ch
  obtain ⟨r, q1, q2⟩ := ff_s hF hP.1 h1 h3
  obtain ⟨pl, wr, b1, b2, b3, tw, tn, e1, e2⟩ := rp_s hF hP p0 w0 a1 a2 a3 x0 y0
  refine ⟨r, pl, wr, b1, b2, b3, tw, tn, ?_, ?_⟩
  · unfold f_X3_fault
    rw [q2, bd1_s]
  · unfold f_X4_fault
    rw [e2, bd7_s, nm_eq]
    rcases e1 with ⟨u1, _, u2⟩ | ⟨u1, u2, u3, u4⟩
    · rw [u1, if_neg one_ne, q1.det u2]
    · rw [u1, if_pos zero_eq, q1.det (Or.inr (Or.inr ⟨u2, u3, rfl⟩))]
theorem tpl_N {c : Nat} (T : TT) : (tst c T).2.1 = T.2.1 + (if c = 47 then 1 else 0) ∧ (tst c T).1 = T.1 + (if c ≠ 47 ∧ isL c then 1 else 0) := by
  unfold tst
  by_cases c1 : c = 47
  · rw [if_pos c1, if_pos c1, if_neg (fun z => z.1 c1)]; exact ⟨rfl, rfl⟩
  · rw [if_neg c1, if_neg c1]
    by_cases c2 : isL c
    · rw [if_pos c2, if_pos ⟨c1, c2⟩]; exact ⟨rfl, rfl⟩
    · rw [if_neg c2, if_neg (fun z => c2 z.2)]; exact ⟨rfl, rfl⟩
theorem stories_L (k : Int32 → Option Int32) (hP : PR n cs pd) : ∀ (fu i : Nat), i ≤ n → n - i < fu → f_X1_storiesIn_L4 Fu k cs (nI n) fu (nI (tpl (chA cs) i).2.1) (nI i) = k (nI (tpl (chA cs) n).2.1) := by
  obtain ⟨h1, h2, h3⟩ := hP.ch
  have hn := hP.1
  intro fu
  induction fu with
  | zero => intro i a b; omega
  | succ fu ih =>
    intro i a b
    rw [f_X1_storiesIn_L4_s]
    by_cases hh : n ≤ i
    · have e : i = n := by omega
      subst e
      rw [if_pos (show nI i ≤ nI i by rw [nI_les (by omega) (by omega)]; omega)]
    · have b1 := h3 i (by omega)
      rw [if_neg (by rw [nI_les (by omega) (by omega)]; exact hh), ix_nIs (by omega) (by omega), gd_true, nI_clamps (by omega), h1 i (by omega), nm_eq, ← ih (i + 1) (by omega) (by omega), tpl_s, (tpl_N _).1, nI_add]
      by_cases c : chA cs i = 47
      · rw [if_pos (show nI (chA cs i) = nI 47 by rw [c]), if_pos c, nI_add]
      · rw [if_neg (show ¬ nI (chA cs i) = nI 47 by rw [nI_eqs (by omega) (by omega)]; exact c), if_neg c, nI_add]
theorem words_L (k : Int32 → Option Int32) (hP : PR n cs pd) : ∀ (fu i : Nat), i ≤ n → n - i < fu → f_X1_wordsIn_L4 Fu k cs (nI n) fu (nI (tpl (chA cs) i).1) (nI i) = k (nI (tpl (chA cs) n).1) := by
  obtain ⟨h1, h2, h3⟩ := hP.ch
  have hn := hP.1
  intro fu
  induction fu with
  | zero => intro i a b; omega
  | succ fu ih =>
    intro i a b
    rw [f_X1_wordsIn_L4_s]
    by_cases hh : n ≤ i
    · have e : i = n := by omega
      subst e
      rw [if_pos (show nI i ≤ nI i by rw [nI_les (by omega) (by omega)]; omega)]
    · have b1 := h3 i (by omega)
      rw [if_neg (by rw [nI_les (by omega) (by omega)]; exact hh), ix_nIs (by omega) (by omega), gd_true, nI_clamps (by omega), h1 i (by omega), isWordL_s _ (by omega), bd1_s, nm_eq, ← ih (i + 1) (by omega) (by omega), tpl_s, (tpl_N _).2, nI_add]
      by_cases c : isL (chA cs i)
      · rw [if_pos c, if_neg one_ne, if_pos ⟨by omega, c⟩, nI_add]
      · rw [if_neg c, if_pos zero_eq, if_neg (fun z => c z.2), nI_add]
theorem stories_s (hF : 20000000 ≤ Fu) (hP : PR n cs pd) : f_X1_storiesIn Fu cs (nI n) = some (nI (tpl (chA cs) n).2.1) := by
  have hn := hP.1
  exact stories_L (fun v => some v) hP Fu 0 (Nat.zero_le _) (by omega)
theorem words4_s (hF : 20000000 ≤ Fu) (hP : PR n cs pd) : f_X1_wordsIn Fu cs (nI n) = some (nI (tpl (chA cs) n).1) := by
  have hn := hP.1
  exact words_L (fun v => some v) hP Fu 0 (Nat.zero_le _) (by omega)
end FA
