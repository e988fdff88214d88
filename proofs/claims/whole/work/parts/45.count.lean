/-! PURE: count, side by side -/
section CT
variable {Fu : Nat} {A : Sh} {se le he sa fa ge : Ar} {ns nf sp bo fi : Int32} {s : Ar}
theorem sim_count (hF : 20000000 ≤ Fu) (hW : WF A) (h : RV A se le he sa fa ge ns nf sp bo fi) (g : RS A s) (ln z p : Int32) : ∃ r, f_X3_count Fu ln se he sa fa ge ns sp bo fi z p = some r ∧ f_X4_count Fu s z ln p = some r := by
  unfold f_X3_count f_X4_count
  rw [nm_eq, nm_eq]
  by_cases w0 : p = nI 0
  · rw [if_pos w0, if_pos w0]; exact ⟨_, rfl, by rw [g.rns, h.rns]⟩
  rw [if_neg w0, if_neg w0]
  by_cases w1 : p = nI 1
  · rw [if_pos w1, if_pos w1, words_r hW h, bd1_s]; exact ⟨_, rfl, by rw [g.rwn]⟩
  rw [if_neg w1, if_neg w1]
  by_cases w2 : p = nI 2
  · rw [if_pos w2, if_pos w2, heatOfAll_s hF hW h, allHeat_s hF hW g, bd1_s]; exact ⟨_, rfl, rfl⟩
  rw [if_neg w2, if_neg w2]
  by_cases w3 : p = nI 3
  · rw [if_pos w3, if_pos w3, families_s hF hW h, fam_s hF hW g, bd1_s]; exact ⟨_, rfl, rfl⟩
  rw [if_neg w3, if_neg w3]
  by_cases w4 : p = nI 4
  · subst w4
    rw [if_pos rfl, if_pos rfl, show nI 6 + nI 4 - nI 4 = nI 6 by decide, ix_nIs (by omega) (by omega), gd_true, nI_clamps (by omega)]; exact ⟨_, rfl, by rw [g.rsp, h.rsp]⟩
  rw [if_neg w4, if_neg w4]
  by_cases w5 : p = nI 5
  · subst w5
    rw [if_pos rfl, if_pos rfl, show nI 6 + nI 5 - nI 4 = nI 7 by decide, ix_nIs (by omega) (by omega), gd_true, nI_clamps (by omega)]; exact ⟨_, rfl, by rw [g.rbo, h.rbo]⟩
  rw [if_neg w5, if_neg w5]
  by_cases w6 : p = nI 6
  · subst w6
    rw [if_pos rfl, if_pos rfl, show nI 6 + nI 6 - nI 4 = nI 8 by decide, ix_nIs (by omega) (by omega), gd_true, nI_clamps (by omega)]; exact ⟨_, rfl, by rw [g.rfi, h.rfi]⟩
  rw [if_neg w6, if_neg w6]
  by_cases w7 : p = nI 7
  · rw [if_pos w7, if_pos w7, greatest_s hF hW h, great_s hF hW g, bd1_s]; exact ⟨_, rfl, rfl⟩
  rw [if_neg w7, if_neg w7]
  by_cases w8 : p = nI 8
  · subst w8
    rw [if_pos rfl, if_pos rfl, show nI 0 + nI 8 - nI 8 = nI 0 by decide, ix_nIs (by omega) (by omega), gd_true, nI_clamps (by omega)]; exact ⟨_, rfl, by rw [g.rse (show 0 < 3 by omega), h.rse (show 0 < 3 by omega)]⟩
  rw [if_neg w8, if_neg w8]
  by_cases w9 : p = nI 9
  · subst w9
    rw [if_pos rfl, if_pos rfl, show nI 0 + nI 9 - nI 8 = nI 1 by decide, ix_nIs (by omega) (by omega), gd_true, nI_clamps (by omega)]; exact ⟨_, rfl, by rw [g.rse (show 1 < 3 by omega), h.rse (show 1 < 3 by omega)]⟩
  rw [if_neg w9, if_neg w9]
  by_cases w10 : p = nI 10
  · subst w10
    rw [if_pos rfl, if_pos rfl, show nI 0 + nI 10 - nI 8 = nI 2 by decide, ix_nIs (by omega) (by omega), gd_true, nI_clamps (by omega)]; exact ⟨_, rfl, by rw [g.rse (show 2 < 3 by omega), h.rse (show 2 < 3 by omega)]⟩
  rw [if_neg w10, if_neg w10]
  by_cases w11 : p = nI 11
  · rw [if_pos w11]; exact ⟨_, rfl, rfl⟩
  rw [if_neg w11]
  by_cases w12 : p = nI 12
  · rw [if_pos w12]; exact ⟨_, rfl, rfl⟩
  rw [if_neg w12]
  exact ⟨_, rfl, rfl⟩
end CT
/-- a pair stands at p -/
def pairB (A : Sh) (a b p : Nat) : Bool := decide (A.le p = a) && decide (A.le (p + 1) = b) && decide (p + 1 < A.st (A.so p + 1))
def sbF (A : Sh) (a b : Nat) : Nat → Nat × Nat → Nat × Nat := fun p x => if pairB A a b p = true then (x.1 + 1, if x.1 = 0 then p else x.2) else x
def nonI (c v : Nat) : Int32 := if c = 0 then -6 else nI v
theorem nonI_0 (v : Nat) : nonI 0 v = -6 := rfl
theorem nonI_s (c v : Nat) (h : ¬ c = 0) : nonI c v = nI v := by unfold nonI; rw [if_neg h]
theorem pairB_t {A : Sh} {a b p : Nat} : (pairB A a b p = true) = (A.le p = a ∧ A.le (p + 1) = b ∧ p + 1 < A.st (A.so p + 1)) := by
  unfold pairB
  simp only [Bool.and_eq_true, decide_eq_true_eq, and_assoc]
section SB
variable {Fu : Nat} {A : Sh} {se le he sa fa ge : Ar} {ns nf sp bo fi : Int32} {s : Ar}
theorem sb_L (hF : 20000000 ≤ Fu) (k : Int32 → Int32 → Option Int32) (hW : WF A) (h : RV A se le he sa fa ge ns nf sp bo fi) {a b : Nat} (ha : a < 26) (hb : b < 26) : ∀ (fu i : Nat) (x : Nat × Nat), i ≤ A.wn - 1 → x.1 ≤ i → A.wn - 1 - i < fu →
    f_X3_sideBySide_L36 Fu k le sa ns (nI a) (nI b) fu (nI x.1) (nonI x.1 x.2) (nI i) = k (nI (itF (sbF A a b) i (A.wn - 1 - i) x).1) (nonI (itF (sbF A a b) i (A.wn - 1 - i) x).1 (itF (sbF A a b) i (A.wn - 1 - i) x).2) := by
  have hw := hW.w
  have e1 := words_r (Fu := Fu) hW h
  intro fu
  induction fu with
  | zero => intro i x h1 h2 h3; omega
  | succ fu ih =>
    intro i x h1 h2 h3
    rw [f_X3_sideBySide_L36_s, e1, bd1_s, nI_add]
    by_cases hh : A.wn ≤ i + 1
    · have e : A.wn - 1 - i = 0 := by omega
      rw [if_pos (by rw [nI_les (by omega) (by omega)]; exact hh), e, itF_0]
    · have hso := hW.so (show i < A.wn by omega)
      have e2 := isPair_s hF hW h ha hb hso.1 hso.2.1 hso.2.2 (show i + 1 < A.wn by omega)
      rw [if_neg (by rw [nI_les (by omega) (by omega)]; exact hh), e2, bd1_s, jn_eq, show A.wn - 1 - i = (A.wn - 1 - (i + 1)) + 1 by omega, itF_s]
      have hx : (sbF A a b i x).1 ≤ i + 1 := by
        unfold sbF
        by_cases c : pairB A a b i = true
        · rw [if_pos c]; show x.1 + 1 ≤ i + 1; omega
        · rw [if_neg c]; omega
      rw [← ih (i + 1) (sbF A a b i x) (by omega) hx (by omega)]
      unfold sbF
      by_cases c : A.le i = a ∧ A.le (i + 1) = b ∧ i + 1 < A.st (A.so i + 1)
      · have c2 : pairB A a b i = true := by rw [pairB_t]; exact c
        rw [if_pos c, if_neg one_ne, if_pos c2, nm_eq]
        dsimp only
        rw [nI_add]
        by_cases d : x.1 = 0
        · rw [if_pos (show nI x.1 = 0 by rw [d]; exact zero_eq), if_pos d]
          rw [nonI_s _ i (by omega)]
        · rw [if_neg (show ¬ nI x.1 = 0 by rw [nI_zero, nI_eqs (by omega) (by omega)]; exact d), if_neg d]
          rw [nonI_s _ _ d, nonI_s _ _ (by omega)]
      · have c2 : ¬ pairB A a b i = true := by rw [pairB_t]; exact c
        rw [if_neg c, if_pos zero_eq, if_neg c2]
theorem sb60_L (hF : 20000000 ≤ Fu) (k : Int32 → Int32 → Int32 → Option Int32) (hW : WF A) (g : RS A s) {a b K : Nat} (ha : a < 26) (hb : b < 26) (hK : K < A.ns) : ∀ (fu i : Nat) (x : Nat × Nat), A.st K + i < A.st (K + 1) → x.1 ≤ A.st K + i → A.st (K + 1) - 1 - (A.st K + i) < fu →
    f_X4_sideBySide_L60 Fu k s (nI a) (nI b) (nI K) fu (nI x.1) (nonI x.1 (A.so x.2)) (nonI x.1 (x.2 - A.st (A.so x.2))) (nI i) = k (nI (itF (sbF A a b) (A.st K + i) (A.st (K + 1) - 1 - (A.st K + i)) x).1) (nonI (itF (sbF A a b) (A.st K + i) (A.st (K + 1) - 1 - (A.st K + i)) x).1 (A.so (itF (sbF A a b) (A.st K + i) (A.st (K + 1) - 1 - (A.st K + i)) x).2)) (nonI (itF (sbF A a b) (A.st K + i) (A.st (K + 1) - 1 - (A.st K + i)) x).1 ((itF (sbF A a b) (A.st K + i) (A.st (K + 1) - 1 - (A.st K + i)) x).2 - A.st (A.so (itF (sbF A a b) (A.st K + i) (A.st (K + 1) - 1 - (A.st K + i)) x).2))) := by
  have hw := hW.w
  have hn := hW.n
  have hm2 := hW.1.le (show K + 1 ≤ A.ns by omega) (Nat.le_refl _)
  have hw' : A.st A.ns ≤ 150 := hW.w
  have e1 := first_r hF hW g (show K ≤ A.ns by omega)
  have e2 := g.rlo hK
  intro fu
  induction fu with
  | zero => intro i x h1 h2 h3; omega
  | succ fu ih =>
    intro i x h1 h2 h3
    rw [f_X4_sideBySide_L60_s, nI_add, ix_nIs (by omega) (by omega), gd_true, nI_clamps (by omega), e2, pk_subs (by omega)]
    by_cases hh : A.st (K + 1) - A.st K - 1 ≤ i
    · have e : A.st (K + 1) - 1 - (A.st K + i) = 0 := by omega
      rw [if_pos (by rw [nI_les (by omega) (by omega)]; exact hh), e, itF_0]
    · have hp : A.st K + i < A.wn := by unfold Sh.wn; omega
      have hp2 : A.st K + i + 1 < A.wn := by unfold Sh.wn; omega
      have hso : A.so (A.st K + i) = K := stO_s hW.1 hK (by omega) h1
      have l1 := g.rle hp
      have l2 := g.rle hp2
      have b1 := (hW.2.2 _ hp).1
      have b2 := (hW.2.2 _ hp2).1
      rw [if_neg (by rw [nI_les (by omega) (by omega)]; exact hh), e1, bd1_s, nI_add, nI_add, ix_nIs (by omega) (by omega), gd_true, jn_eq, nI_clamps (by omega), show 45 + A.st K + i = 45 + (A.st K + i) by omega, l1, nI_add, ix_nIs (by omega) (by omega), gd_true, nI_clamps (by omega), show 45 + (A.st K + i) + 1 = 45 + (A.st K + i + 1) by omega, l2, nI_add, show A.st (K + 1) - 1 - (A.st K + i) = (A.st (K + 1) - 1 - (A.st K + (i + 1))) + 1 by omega, itF_s, show A.st K + i + 1 = A.st K + (i + 1) by omega]
      have hx : (sbF A a b (A.st K + i) x).1 ≤ A.st K + (i + 1) := by
        unfold sbF
        by_cases c : pairB A a b (A.st K + i) = true
        · rw [if_pos c]; show x.1 + 1 ≤ _; omega
        · rw [if_neg c]; omega
      rw [← ih (i + 1) (sbF A a b (A.st K + i) x) (by omega) hx (by omega)]
      unfold sbF
      have cn : ∀ u v : Nat, u < 26 → v < 26 → ((nI u = nI v) = (u = v)) := fun u v hu hv => nI_eqs (by omega) (by omega)
      have n1 : A.le (A.st K + i) = a → nI (A.le (A.st K + i)) = nI a := fun z => by rw [z]
      have n2 : A.le (A.st K + (i + 1)) = b → nI (A.le (A.st K + (i + 1))) = nI b := fun z => by rw [z]
      have n3 : ¬ A.le (A.st K + i) = a → ¬ nI (A.le (A.st K + i)) = nI a := fun z y => z ((cn _ _ b1 ha).mp y)
      have n4 : ¬ A.le (A.st K + (i + 1)) = b → ¬ nI (A.le (A.st K + (i + 1))) = nI b := fun z y => z ((cn _ _ b2 hb).mp y)
      by_cases c : pairB A a b (A.st K + i) = true
      · have c2 := c
        rw [pairB_t] at c2
        rw [if_pos (n1 c2.1), if_pos (n2 c2.2.1), if_pos c]
        dsimp only
        rw [nm_eq, nm_eq, nm_eq, if_neg one_ne, if_neg one_ne, if_neg one_ne, nI_add]
        by_cases d : x.1 = 0
        · rw [if_pos (show nI x.1 = 0 by rw [d]; exact zero_eq), if_pos (show nI x.1 = 0 by rw [d]; exact zero_eq), if_pos d]
          rw [nonI_s _ _ (by omega), nonI_s _ _ (by omega), hso, Nat.add_sub_cancel_left]
        · have dn : ¬ nI x.1 = 0 := by rw [nI_zero, nI_eqs (by omega) (by omega)]; exact d
          rw [if_neg dn, if_neg dn, if_neg d]
          rw [nonI_s _ _ d, nonI_s _ _ d, nonI_s _ _ (by omega), nonI_s _ _ (by omega)]
      · rw [if_neg c]
        have c3 : ¬ (A.le (A.st K + i) = a ∧ A.le (A.st K + (i + 1)) = b) := fun z => c (by rw [pairB_t, hso]; exact ⟨z.1, z.2, by omega⟩)
        by_cases d1 : A.le (A.st K + i) = a
        · rw [if_pos (n1 d1), if_neg (n4 (fun z => c3 ⟨d1, z⟩))]
          dsimp only
          rw [nm_eq, nm_eq, nm_eq, if_pos zero_eq, if_pos zero_eq, if_pos zero_eq, nI_add, Nat.add_zero]
        · rw [if_neg (n3 d1)]
          dsimp only
          rw [nm_eq, nm_eq, nm_eq, if_pos zero_eq, if_pos zero_eq, if_pos zero_eq, nI_add, Nat.add_zero]
end SB
