/-! PURE: side by side -/
section SB2
variable {Fu : Nat} {A : Sh} {se le he sa fa ge : Ar} {ns nf sp bo fi : Int32} {s : Ar}
theorem sb_le (A : Sh) (a b n i : Nat) (x : Nat × Nat) (h : x.1 ≤ i) : (itF (sbF A a b) i n x).1 ≤ i + n := by
  refine itF_inv (sbF A a b) (fun j y => y.1 ≤ j) n i x h (fun j y h1 h2 h3 => ?_)
  show (sbF A a b j y).1 ≤ j + 1
  unfold sbF
  by_cases c : pairB A a b j = true
  · rw [if_pos c]; show y.1 + 1 ≤ j + 1; have : y.1 ≤ j := h3; omega
  · rw [if_neg c]; have : y.1 ≤ j := h3; omega
theorem sb_lt (A : Sh) (a b n i : Nat) (x : Nat × Nat) (h : x.1 = 0 ∨ x.2 < i) : (itF (sbF A a b) i n x).1 = 0 ∨ (itF (sbF A a b) i n x).2 < i + n := by
  refine itF_inv (sbF A a b) (fun j y => y.1 = 0 ∨ y.2 < j) n i x h (fun j y h1 h2 h3 => ?_)
  show (sbF A a b j y).1 = 0 ∨ (sbF A a b j y).2 < j + 1
  have h3 : y.1 = 0 ∨ y.2 < j := h3
  unfold sbF
  by_cases c : pairB A a b j = true
  · rw [if_pos c]
    right
    show (if y.1 = 0 then j else y.2) < j + 1
    by_cases d : y.1 = 0
    · rw [if_pos d]; omega
    · rw [if_neg d]; omega
  · rw [if_neg c]; omega
theorem sb_last (hW : WF A) (a b : Nat) {K : Nat} (hK : K < A.ns) (x : Nat × Nat) : sbF A a b (A.st (K + 1) - 1) x = x := by
  have hm := hW.1.2.2.1 K hK
  have hso : A.so (A.st (K + 1) - 1) = K := stO_s hW.1 hK (by omega) (by omega)
  have : ¬ pairB A a b (A.st (K + 1) - 1) = true := by
    rw [pairB_t, hso]
    intro z
    have := z.2.2
    omega
  unfold sbF
  rw [if_neg this]
theorem sb46_L (hF : 20000000 ≤ Fu) (k : Int32 → Int32 → Int32 → Option Int32) (hW : WF A) (g : RS A s) {a b : Nat} (ha : a < 26) (hb : b < 26) : ∀ (fu K : Nat) (x : Nat × Nat), K ≤ A.ns → x = itF (sbF A a b) 0 (A.st K) (0, 0) → A.ns - K < fu →
    f_X4_sideBySide_L46 Fu k s (nI a) (nI b) fu (nI x.1) (nonI x.1 (A.so x.2)) (nonI x.1 (x.2 - A.st (A.so x.2))) (nI K) = k (nI (itF (sbF A a b) 0 A.wn (0, 0)).1) (nonI (itF (sbF A a b) 0 A.wn (0, 0)).1 (A.so (itF (sbF A a b) 0 A.wn (0, 0)).2)) (nonI (itF (sbF A a b) 0 A.wn (0, 0)).1 ((itF (sbF A a b) 0 A.wn (0, 0)).2 - A.st (A.so (itF (sbF A a b) 0 A.wn (0, 0)).2))) := by
  have hn := hW.n
  intro fu
  induction fu with
  | zero => intro K x h1 h2 h3; omega
  | succ fu ih =>
    intro K x h1 h2 h3
    rw [f_X4_sideBySide_L46_s, g.rns]
    by_cases hh : A.ns ≤ K
    · have e : K = A.ns := by omega
      subst e
      rw [if_pos (by rw [nI_les (by omega) (by omega)]; exact hh), h2]
      rfl
    · have hK : K < A.ns := by omega
      have hm := hW.1.2.2.1 K hK
      have hw' := hW.1.b (show K + 1 ≤ A.ns by omega)
      have hx : x.1 ≤ A.st K := by
        rw [h2]
        have := sb_le A a b (A.st K) 0 (0, 0) (Nat.le_refl _)
        omega
      rw [if_neg (by rw [nI_les (by omega) (by omega)]; exact hh), jn_eq]
      have e60 := sb60_L hF (fun v37 v38 v39 => f_X4_sideBySide_L46 Fu k s (nI a) (nI b) fu v37 v38 v39 (nI K + nI 1)) hW g ha hb hK Fu 0 x (by omega) (by omega) (by omega)
      rw [e60, nI_add, Nat.add_zero]
      refine ih (K + 1) _ (by omega) ?_ (by omega)
      have e1 : A.st (K + 1) = A.st K + ((A.st (K + 1) - 1 - A.st K) + 1) := by omega
      have e2 := itF_add (sbF A a b) (A.st K) (A.st (K + 1) - 1 - A.st K + 1) 0 (0, 0)
      rw [← e1, ← h2, Nat.zero_add, itF_end, show A.st K + (A.st (K + 1) - 1 - A.st K) = A.st (K + 1) - 1 by omega, sb_last hW a b hK] at e2
      exact e2.symm
theorem sim_side (hF : 20000000 ≤ Fu) (hW : WF A) (h : RV A se le he sa fa ge ns nf sp bo fi) (g : RS A s) (p q w : Int32) : ∃ r, f_X3_sideBySide Fu le sa ns p q w = some r ∧ f_X4_sideBySide Fu s p q w = some r := by
  have hw := hW.w
  unfold f_X3_sideBySide f_X4_sideBySide f_X3_isLetter
  rw [isWithin_s, in4_s, bd1_s, bz_if, gd_true, within_n (n := 25) (by omega), bd1_s, bd1_s]
  by_cases hp : isS (25 + 1) p = true
  · rw [if_pos hp, if_neg one_ne, if_neg one_ne, isWithin_s, in4_s, bd1_s, bz_if, gd_true, within_n (n := 25) (by omega), bd1_s, bd1_s]
    by_cases hq : isS (25 + 1) q = true
    · rw [if_pos hq, if_neg one_ne, if_neg one_ne, isWithin_s, in4_s, within_n (n := 2) (by omega), bd1_s, bd1_s]
      by_cases hww : isS (2 + 1) w = true
      · rw [if_pos hww, if_neg one_ne, if_neg one_ne]
        obtain ⟨a, ha, rfl⟩ := isS_t hp (by omega)
        obtain ⟨b, hb, rfl⟩ := isS_t hq (by omega)
        obtain ⟨v, hv, rfl⟩ := isS_t hww (by omega)
        have m1 := fun k => sb_L hF k hW h (show a < 26 from ha) (show b < 26 from hb) Fu 0 (0, 0) (Nat.zero_le _) (Nat.le_refl _) (by omega)
        have m2 := fun k => sb46_L hF k hW g (show a < 26 from ha) (show b < 26 from hb) Fu 0 (0, 0) (Nat.zero_le _) (by rw [hW.1.2.1]; rfl) (by have := hW.n; omega)
        have e : itF (sbF A a b) 0 A.wn (0, 0) = itF (sbF A a b) 0 (A.wn - 1 - 0) (0, 0) := by
          by_cases c : A.wn = 0
          · rw [c]
          · have c2 : A.wn = (A.wn - 1 - 0) + 1 := by omega
            have hns : A.ns ≠ 0 := by
              intro z
              have : A.wn = A.st A.ns := rfl
              rw [z, hW.1.2.1] at this
              exact c this
            have e3 := sb_last hW a b (K := A.ns - 1) (by omega) (itF (sbF A a b) 0 (A.wn - 1 - 0) (0, 0))
            rw [show A.ns - 1 + 1 = A.ns by omega] at e3
            have e4 : A.st A.ns - 1 = 0 + (A.wn - 1 - 0) := by
              have : A.wn = A.st A.ns := rfl
              omega
            rw [e4] at e3
            rw [c2, itF_end, show A.wn - 1 - 0 + 1 - 1 - 0 = A.wn - 1 - 0 by omega]
            exact e3
        rw [e] at m2
        have l1 := sb_le A a b (A.wn - 1 - 0) 0 (0, 0) (Nat.le_refl _)
        have l2 := sb_lt A a b (A.wn - 1 - 0) 0 (0, 0) (Or.inl rfl)
        generalize itF (sbF A a b) 0 (A.wn - 1 - 0) (0, 0) = X at m1 m2 l1 l2
        rw [jn_eq, show (-6 : Int32) = nonI (0, 0).1 (0, 0).2 from rfl, show nI 0 = nI ((0, 0) : Nat × Nat).1 from rfl]
        have m1' := m1 (fun v24 v25 => if nI v = 0 then some v24 else if v24 = 0 then some (-6) else jn (fun v33 => some v33) (fun j34 => if nI v = nI 1 then bd1 (f_X2_storyAt Fu sa ns v25) (fun r31 => j34 r31) else bd1 (f_X2_placeOf Fu sa ns v25) (fun r29 => j34 r29)))
        have m2' := m2 (fun v40 v41 v42 => nm (if nI v = 0 then v40 else (if nI v = nI 1 then v41 else v42)) (fun v45 => some v45))
        refine ⟨if v = 0 then nI X.1 else if v = 1 then nonI X.1 (A.so X.2) else nonI X.1 (X.2 - A.st (A.so X.2)), ?_, ?_⟩
        · refine Eq.trans m1' ?_
          by_cases v0 : v = 0
          · subst v0
            rw [if_pos zero_eq, if_pos rfl]
          · have nv0 : ¬ nI v = 0 := by rw [nI_zero, nI_eqs (by omega) (by omega)]; exact v0
            rw [if_neg nv0, if_neg v0]
            by_cases x0 : X.1 = 0
            · rw [x0, if_pos zero_eq, nonI_0, nonI_0, ite_self]
            · have nx0 : ¬ nI X.1 = 0 := by rw [nI_zero, nI_eqs (by omega) (by omega)]; exact x0
              have hX : X.2 < A.wn := by omega
              have hso := hW.so hX
              rw [if_neg nx0, nonI_s _ _ x0, nonI_s _ _ x0, nonI_s _ _ x0, jn_eq, h.rns]
              by_cases v1 : v = 1
              · subst v1
                rw [if_pos rfl, if_pos rfl, storyAt_s hF hW.1 (fun k hk => h.rsa hk) hso.1 hso.2.1 hso.2.2, bd1_s]
              · have nv1 : ¬ nI v = nI 1 := by rw [nI_eqs (by omega) (by omega)]; exact v1
                rw [if_neg nv1, if_neg v1, placeOf_s hF hW.1 (fun k hk => h.rsa hk) hso.1 hso.2.1 hso.2.2, bd1_s]
        · rw [jn_eq]
          refine Eq.trans m2' ?_
          rw [nm_eq]
          by_cases v0 : v = 0
          · subst v0
            rw [if_pos zero_eq, if_pos rfl]
          · have nv0 : ¬ nI v = 0 := by rw [nI_zero, nI_eqs (by omega) (by omega)]; exact v0
            rw [if_neg nv0, if_neg v0]
            by_cases v1 : v = 1
            · subst v1
              rw [if_pos rfl, if_pos rfl]
            · have nv1 : ¬ nI v = nI 1 := by rw [nI_eqs (by omega) (by omega)]; exact v1
              rw [if_neg nv1, if_neg v1]
      · rw [if_neg hww, if_pos zero_eq, if_pos zero_eq]
        exact ⟨-2, rfl, rfl⟩
    · rw [if_neg hq, if_pos zero_eq, if_pos zero_eq]
      exact ⟨-2, rfl, rfl⟩
  · rw [if_neg hp, if_pos zero_eq, if_pos zero_eq]
    exact ⟨-2, rfl, rfl⟩
end SB2
