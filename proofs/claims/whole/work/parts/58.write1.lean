/-! PURE: the class writes the pad -/
section W1
variable {Fu n : Nat} {A : Sh} {se : Ar} {sp bo fi : Int32} {cs pd : Ar}
theorem writeTo_L (Fu : Nat) (hP : PR n cs pd) (hg : gdp (chA cs) n) (h12 : A.ns + tn (tpl (chA cs) n) ≤ 12) (h150 : A.wn + tw (tpl (chA cs) n) ≤ 150) : ∀ (fu i : Nat) (le he sa fa ge : Ar) (ns nf : Int32), i ≤ n → RV (addT A (tpl (chA cs) i)) se le he sa fa ge ns nf sp bo fi → n - i < fu →
    ∃ le' he' sa' fa' ge' ns' nf', RV (addT A (tpl (chA cs) n)) se le' he' sa' fa' ge' ns' nf' sp bo fi ∧ ∀ k : Ar → Ar → Ar → Ar → Ar → Int32 → Int32 → Option (Ar × Ar × Ar × Ar × Ar × Int32 × Int32), f_X1_writeTo_L6 Fu k cs (nI n) fu (nI i) le he sa fa ge ns nf = k le' he' sa' fa' ge' ns' nf' := by
  obtain ⟨c1, c2, c3⟩ := hP.ch
  have hn := hP.1
  intro fu
  induction fu with
  | zero => intro i le he sa fa ge ns nf h1 h2 h3; omega
  | succ fu ih =>
    intro i le he sa fa ge ns nf h1 h2 h3
    by_cases hh : n ≤ i
    · have e : i = n := by omega
      subst e
      refine ⟨le, he, sa, fa, ge, ns, nf, h2, fun k => ?_⟩
      rw [f_X1_writeTo_L6_s, if_pos (show nI i ≤ nI i by rw [nI_les (by omega) (by omega)]; omega)]
    · have b := c3 i (by omega)
      have ti := TI_i (chA cs) i (fun j hj => hg j (by omega))
      obtain ⟨t1, t2, t3, t4, t5, t6, t7, t8, t9⟩ := ti
      have p4 := hg (i + 1) (by omega)
      rw [ps_s] at p4
      obtain ⟨m1, m2⟩ := tpl_mono (chA cs) n (n - i) i (by omega)
      obtain ⟨m3, m4⟩ := tpl_mono (chA cs) n (n - (i + 1)) (i + 1) (by omega)
      rw [tpl_s, (tpl_N _).1] at m4
      rw [tpl_s, (tpl_N _).2] at m3
      have m1' : tw (tpl (chA cs) i) ≤ tw (tpl (chA cs) n) := m1
      have m2' : tn (tpl (chA cs) i) ≤ tn (tpl (chA cs) n) := m2
      have m3' : tw (tpl (chA cs) i) + (if chA cs i ≠ 47 ∧ isL (chA cs i) then 1 else 0) ≤ tw (tpl (chA cs) n) := m3
      have m4' : tn (tpl (chA cs) i) + (if chA cs i = 47 then 1 else 0) ≤ tn (tpl (chA cs) n) := m4
      have l1 : ¬ nI n ≤ nI i := by rw [nI_les (by omega) (by omega)]; exact hh
      by_cases d1 : chA cs i = 47
      · rw [if_pos d1] at m4'
        obtain ⟨sa', fa', ge', r1, r2⟩ := addStory_s (Fu := Fu) h2 t2 (fun z => by omega) (by omega)
        rw [← d1, ← tpl_s] at r2
        obtain ⟨le2, he2, sa2, fa2, ge2, ns2, nf2, q1, q2⟩ := ih (i + 1) _ _ _ _ _ _ _ (by omega) r2 (by omega)
        refine ⟨le2, he2, sa2, fa2, ge2, ns2, nf2, q1, fun k => ?_⟩
        rw [← q2 k, f_X1_writeTo_L6_s, if_neg l1, ix_nIs (by omega) (by omega), gd_true, nm_eq, nI_clamps (by omega), c1 i (by omega), jn_eq, if_pos (show nI (chA cs i) = nI 47 by rw [d1]), r1, bd5_s, nI_add]
      · have n47 : ¬ nI (chA cs i) = nI 47 := by rw [nI_eqs (by omega) (by omega)]; exact d1
        by_cases d2 : isL (chA cs i)
        · rw [if_pos ⟨d1, d2⟩] at m3'
          obtain ⟨le', he', sa', r1, r2⟩ := addWord_s (Fu := Fu) d2 h2 t3 t2 (by omega) (by omega)
          rw [← tpl_s] at r2
          obtain ⟨le2, he2, sa2, fa2, ge2, ns2, nf2, q1, q2⟩ := ih (i + 1) _ _ _ _ _ _ _ (by omega) r2 (by omega)
          refine ⟨le2, he2, sa2, fa2, ge2, ns2, nf2, q1, fun k => ?_⟩
          rw [← q2 k, f_X1_writeTo_L6_s, if_neg l1, ix_nIs (by omega) (by omega), gd_true, nm_eq, nI_clamps (by omega), c1 i (by omega), jn_eq, if_neg n47, isWordL_s _ (by omega), bd1_s, if_pos d2, if_neg one_ne, r1, bd3_s, nI_add]
        · have q0 : ps (chA cs) i ≠ 0 := fun z => by rw [z] at p4; exact p4 (nxt_0 d2)
          have hd : 48 ≤ chA cs i ∧ chA cs i ≤ 57 := by
            refine Classical.byContradiction (fun z => p4 ?_)
            unfold nxt
            rw [if_neg d2, if_neg q0, if_neg d1, if_neg (fun y => z (by omega)), if_neg (fun y => z y.2)]
          have lt := t6 q0
          obtain ⟨he', r1, r2⟩ := addDigit_s (Fu := Fu) hd h2 t3 t2 (by omega) (by omega) (by omega)
          rw [← tpl_s] at r2
          obtain ⟨le2, he2, sa2, fa2, ge2, ns2, nf2, q1, q2⟩ := ih (i + 1) _ _ _ _ _ _ _ (by omega) r2 (by omega)
          refine ⟨le2, he2, sa2, fa2, ge2, ns2, nf2, q1, fun k => ?_⟩
          rw [← q2 k, f_X1_writeTo_L6_s, if_neg l1, ix_nIs (by omega) (by omega), gd_true, nm_eq, nI_clamps (by omega), c1 i (by omega), jn_eq, if_neg n47, isWordL_s _ (by omega), bd1_s, if_neg d2, if_pos zero_eq, r1, bd1_s, nI_add]
theorem writeTo_s {le he sa fa ge : Ar} {ns nf : Int32} (hF : 20000000 ≤ Fu) (hP : PR n cs pd) (hg : gdp (chA cs) n) (h : RV A se le he sa fa ge ns nf sp bo fi) (hW : WF A) (h12 : A.ns + tn (tpl (chA cs) n) ≤ 12) (h150 : A.wn + tw (tpl (chA cs) n) ≤ 150) :
    ∃ le' he' sa' fa' ge' ns' nf', RV (addT A (tpl (chA cs) n)) se le' he' sa' fa' ge' ns' nf' sp bo fi ∧ f_X1_writeTo Fu cs (nI n) le he sa fa ge ns nf = some (le', he', sa', fa', ge', ns', nf') := by
  have hn := hP.1
  have m := (tpl_mono (chA cs) n n 0 (by omega)).2
  have m' : 1 ≤ tn (tpl (chA cs) n) := m
  have h0 : RV (addT A (0, 0, fun _ => 0, fun _ => 0, fun _ => 0, fun _ => 0)) se le he sa fa ge ns nf sp bo fi := by
    have ew : (addT A (0, 0, fun _ => 0, fun _ => 0, fun _ => 0, fun _ => 0)).wn = A.wn := by
      show (if A.ns + 0 ≤ A.ns then A.st (A.ns + 0) else _) = A.st A.ns
      rw [if_pos (by omega)]; rfl
    refine ⟨h.1, fun p hp => ?_, fun p hp => ?_, fun k hk => ?_, fun k hk => ?_, fun k hk => ?_, h.rns, ?_, h.rsp, h.rbo, h.rfi⟩
    · rw [ew] at hp
      rw [ad_le, if_pos hp]; exact h.rle hp
    · rw [ew] at hp
      rw [ad_he, if_pos hp]; exact h.rhe hp
    · have hk : k ≤ A.ns := hk
      rw [ad_st, if_pos hk]; exact h.rsa hk
    · have hk : k < A.ns := hk
      rw [ad_fa, if_pos hk]; exact h.rfa hk
    · have hk : k < A.ns := hk
      rw [ad_ge, if_pos hk]; exact h.rge hk
    · show nf = A.nf + nI 0
      rw [h.rnf, zero_eq, Int32.add_zero]
  obtain ⟨sa', fa', ge', r1, r2⟩ := addStory_s (Fu := Fu) h0 rfl (fun _ => rfl) (show A.ns + 0 < 12 by omega)
  have e0 : tst 47 (0, 0, fun _ => 0, fun _ => 0, fun _ => 0, fun _ => 0) = tpl (chA cs) 0 := by
    rw [tst_sl]
    show (0, 0 + 1, (fun _ => 0 : FN), (fun _ => 0 : FN), (fun _ => 0 : FN), upN (fun _ => 0) (0 + 1) 0) = (0, 1, (fun _ => 0 : FN), (fun _ => 0 : FN), (fun _ => 0 : FN), (fun _ => 0 : FN))
    have : upN (fun _ => 0) (0 + 1) 0 = (fun _ => 0 : FN) := by
      funext q
      unfold upN
      by_cases c : q = 0 + 1
      · rw [if_pos c]
      · rw [if_neg c]
    rw [this]
  rw [e0] at r2
  obtain ⟨le2, he2, sa2, fa2, ge2, ns2, nf2, q1, q2⟩ := writeTo_L Fu hP hg h12 h150 Fu 0 _ _ _ _ _ _ _ (Nat.zero_le _) r2 (by omega)
  refine ⟨le2, he2, sa2, fa2, ge2, ns2, nf2, q1, ?_⟩
  unfold f_X1_writeTo
  rw [r1, bd5_s, jn_eq]
  exact q2 _
end W1
