/-! PURE: touchiest -/
def cI (c : Nat) : Int32 := if c = 0 then -1 else nI (c - 1)
theorem cI_0 : cI 0 = -1 := rfl
theorem cI_s (n : Nat) : cI (n + 1) = nI n := by unfold cI; rw [if_neg (by omega), Nat.add_sub_cancel]
theorem cI_le {n c : Nat} (hn : n < 1000000) (hc : c < 1000000) : (nI n ≤ cI c) = (n + 1 ≤ c) := by
  unfold cI
  by_cases h : c = 0
  · rw [if_pos h]
    have : ¬ nI n ≤ -1 := by
      rw [Int32.le_iff_toInt_le, nI_toInt (by omega)]
      have : (-1 : Int32).toInt = -1 := by decide
      omega
    exact propext ⟨fun z => absurd z this, fun z => by omega⟩
  · rw [if_neg h, nI_les (by omega) (by omega)]
    exact propext ⟨fun z => by omega, fun z => by omega⟩
theorem nI_ne6 {n : Nat} (hn : n < 1000000) : ¬ nI n = -6 := by
  intro z
  have e : (nI n).toInt = (-6 : Int32).toInt := by rw [z]
  rw [nI_toInt (by omega)] at e
  have : (-6 : Int32).toInt = -6 := by decide
  omega
section TO
variable {Fu M : Nat} {A : Sh} {se le he sa fa ge : Ar} {ns nf sp bo fi : Int32}
abbrev KT : Type := Int32 → Int32 → Ar → Ar → Ar → Ar → Ar → Ar → Int32 → Int32 → Int32 → Int32 → Int32 → Option (Int32 × Ar × Ar × Ar × Ar × Ar × Ar × Int32 × Int32 × Int32 × Int32 × Int32)
abbrev KR : Type := Int32 → Int32 → Ar → Ar → Int32 → Int32 → Int32 → Int32 → Option (Int32 × Ar × Ar × Int32 × Int32 × Int32 × Int32)
theorem touch_L (Fu : Nat) (hF : 100000000 ≤ Fu) (hW : WF A) (h : RV A se le he sa fa ge ns nf sp bo fi) {b rc : Nat} (hb : b ≤ 500) (hrc : rc = 1 ∧ calmA A ∨ rc = 0 ∧ ¬ calmA A) : ∀ (fu i P c : Nat) (a1 a2 a3 a4 a5 a6 : Ar) (b1 b2 b3 b4 b5 : Int32) (s a : Ar) (r1 r2 r3 r4 : Int32), RS A s → i ≤ A.wn → (i = 0 ∨ c ≠ 0) → (c ≠ 0 → P < A.wn) → c ≤ 149851 → A.wn - i < fu →
    ∃ P' c' a1' a2' a3' a4' a5' a6' b1' b2' b3' b4' b5' s' a' r1' r2' r3' r4', RS A s' ∧ (A.wn = 0 ∨ c' ≠ 0) ∧ (c' ≠ 0 → P' < A.wn) ∧ c' ≤ 149851 ∧
      (∀ k : KT, f_X3_touchiest_L53 Fu k se le he sa fa ge ns nf sp bo fi (nI b) (nI rc) fu (nI P) (cI c) (nI i) a1 a2 a3 a4 a5 a6 b1 b2 b3 b4 b5 = k (nI P') (cI c') a1' a2' a3' a4' a5' a6' b1' b2' b3' b4' b5') ∧
      (∀ k : KR, f_X4_touchiest_L32 Fu k (nI b) fu (nonI c P) (cI c) (nI i) s a r1 r2 r3 r4 = k (nonI c' P') (cI c') s' a' r1' r2' r3' r4') := by
  have hw := hW.w
  have hse := hW.2.1
  have e1 := words_r (Fu := Fu) hW h
  have e2 := h.rse (show 0 < 3 by omega)
  intro fu
  induction fu with
  | zero => intro i P c a1 a2 a3 a4 a5 a6 b1 b2 b3 b4 b5 s a r1 r2 r3 r4 h0 h1 h2 h3 h4 h5; omega
  | succ fu ih =>
    intro i P c a1 a2 a3 a4 a5 a6 b1 b2 b3 b4 b5 s a r1 r2 r3 r4 g h1 h2 h3 h4 h5
    by_cases hh : A.wn ≤ i
    · have l1 : nI A.wn ≤ nI i := by rw [nI_les (by omega) (by omega)]; exact hh
      refine ⟨P, c, a1, a2, a3, a4, a5, a6, b1, b2, b3, b4, b5, s, a, r1, r2, r3, r4, g, by omega, h3, h4, fun k => ?_, fun k => ?_⟩
      · rw [f_X3_touchiest_L53_s, e1, bd1_s, if_pos l1]
      · rw [f_X4_touchiest_L32_s, g.rwn, if_pos l1]
    · have l1 : ¬ nI A.wn ≤ nI i := by rw [nI_les (by omega) (by omega)]; exact hh
      have hp : i < A.wn := by omega
      have e3 := h.rhe hp
      have hi3 := (hW.2.2 i hp).2
      obtain ⟨B, n, c1, c2, c3, c4, c5, c6, d1, d2, d3, d4, d5, s1, a', u1, u2, u3, u4, u5, u6, u7⟩ := try_sim hF hW h g hp (show b ≤ 1000 by omega) a1 a2 a3 a4 a5 a6 b1 b2 b3 b4 b5 a r1 r2 r3 r4
      -- what the reference does
      have ref : ∀ k : KR, f_X4_touchiest_L32 Fu k (nI b) (fu + 1) (nonI c P) (cI c) (nI i) s a r1 r2 r3 r4 = f_X4_touchiest_L32 Fu k (nI b) fu (nonI (if n + 1 ≤ c then c else n + 1) (if n + 1 ≤ c then P else i)) (cI (if n + 1 ≤ c then c else n + 1)) (nI (i + 1)) s1 a' (nI n) (nI B.sp - nI A.sp) (nI B.ns) (heatR B.he 0 B.wn) := fun k => by
        rw [f_X4_touchiest_L32_s, g.rwn, if_neg l1, u7, bd6_s, nm_eq, nm_eq, nI_add]
        by_cases q : n + 1 ≤ c
        · have q1 : nI n ≤ cI c := by rw [cI_le (by omega) (by omega)]; exact q
          rw [if_pos q1, if_pos q1, if_pos q, if_pos q]
        · have q1 : ¬ nI n ≤ cI c := by rw [cI_le (by omega) (by omega)]; exact q
          rw [if_neg q1, if_neg q1, if_neg q, if_neg q, nonI_s _ _ (by omega), cI_s]
      -- what the class does
      have cls : ∃ a1' a2' a3' a4' a5' a6' b1' b2' b3' b4' b5', ∀ k : KT, f_X3_touchiest_L53 Fu k se le he sa fa ge ns nf sp bo fi (nI b) (nI rc) (fu + 1) (nI P) (cI c) (nI i) a1 a2 a3 a4 a5 a6 b1 b2 b3 b4 b5 = f_X3_touchiest_L53 Fu k se le he sa fa ge ns nf sp bo fi (nI b) (nI rc) fu (nI (if n + 1 ≤ c then P else i)) (cI (if n + 1 ≤ c then c else n + 1)) (nI (i + 1)) a1' a2' a3' a4' a5' a6' b1' b2' b3' b4' b5' := by
        have fin : ∀ (k : KT) (x1 x2 x3 x4 x5 x6 : Ar) (y1 y2 y3 y4 y5 : Int32), f_X3_touchiest_L53 Fu k se le he sa fa ge ns nf sp bo fi (nI b) (nI rc) fu (if nI n ≤ cI c then nI P else nI i) (if nI n ≤ cI c then cI c else nI n) (nI i + nI 1) x1 x2 x3 x4 x5 x6 y1 y2 y3 y4 y5 = f_X3_touchiest_L53 Fu k se le he sa fa ge ns nf sp bo fi (nI b) (nI rc) fu (nI (if n + 1 ≤ c then P else i)) (cI (if n + 1 ≤ c then c else n + 1)) (nI (i + 1)) x1 x2 x3 x4 x5 x6 y1 y2 y3 y4 y5 := fun k x1 x2 x3 x4 x5 x6 y1 y2 y3 y4 y5 => by
          rw [nI_add]
          by_cases q : n + 1 ≤ c
          · have q1 : nI n ≤ cI c := by rw [cI_le (by omega) (by omega)]; exact q
            rw [if_pos q1, if_pos q1, if_pos q, if_pos q]
          · have q1 : ¬ nI n ≤ cI c := by rw [cI_le (by omega) (by omega)]; exact q
            rw [if_neg q1, if_neg q1, if_neg q, if_neg q, cI_s]
        by_cases qt : rc = 1 ∧ A.he i + b < A.se 0
        · have hcalm : calmA A := by
            rcases hrc with z | z
            · exact z.2
            · omega
          have nz : n = 0 := (u1.det (warm_calm hcalm qt.2)).2
          refine ⟨a1, a2, a3, a4, a5, a6, b1, b2, b3, b4, b5, fun k => ?_⟩
          rw [← fin, f_X3_touchiest_L53_s, e1, bd1_s, if_neg l1, qt.1, jn_eq, if_neg one_ne, ix_nIs (by omega) (by omega), gd_true, nI_clamps (by omega), e2, e3, nI_add, if_neg (show ¬ nI (A.se 0) ≤ nI (A.he i + b) by rw [nI_les (by omega) (by omega)]; omega), nz]
          rfl
        · refine ⟨c1, c2, c3, c4, c5, c6, d1, d2, d3, d4, d5, fun k => ?_⟩
          rw [← fin, f_X3_touchiest_L53_s, e1, bd1_s, if_neg l1, jn_eq]
          by_cases r0 : rc = 0
          · have r1 : nI rc = 0 := by rw [r0]; exact zero_eq
            rw [if_pos r1]
            dsimp only
            rw [jn_eq, if_pos zero_eq, u6]
            rfl
          · have r1 : rc = 1 := by omega
            have r2 : ¬ A.he i + b < A.se 0 := fun z => qt ⟨r1, z⟩
            have r3 : ¬ nI rc = 0 := by rw [r1]; exact one_ne
            rw [if_neg r3, ix_nIs (by omega) (by omega), gd_true, nI_clamps (by omega), e2, e3, nI_add, if_pos (show nI (A.se 0) ≤ nI (A.he i + b) by rw [nI_les (by omega) (by omega)]; omega)]
            dsimp only
            rw [jn_eq, if_pos zero_eq, u6]
            rfl
      obtain ⟨x1, x2, x3, x4, x5, x6, y1, y2, y3, y4, y5, cls⟩ := cls
      obtain ⟨P', c', a1', a2', a3', a4', a5', a6', b1', b2', b3', b4', b5', s', a'', r1', r2', r3', r4', z1, z2, z3, z4, z5, z6⟩ := ih (i + 1) (if n + 1 ≤ c then P else i) (if n + 1 ≤ c then c else n + 1) x1 x2 x3 x4 x5 x6 y1 y2 y3 y4 y5 s1 a' (nI n) (nI B.sp - nI A.sp) (nI B.ns) (heatR B.he 0 B.wn) u5 (by omega) (by
        right
        by_cases q : n + 1 ≤ c
        · rw [if_pos q]; omega
        · rw [if_neg q]; omega) (fun _ => by
        by_cases q : n + 1 ≤ c
        · rw [if_pos q]; exact h3 (by omega)
        · rw [if_neg q]; exact hp) (by
        by_cases q : n + 1 ≤ c
        · rw [if_pos q]; omega
        · rw [if_neg q]; omega) (by omega)
      exact ⟨P', c', a1', a2', a3', a4', a5', a6', b1', b2', b3', b4', b5', s', a'', r1', r2', r3', r4', z1, z2, z3, z4, fun k => by rw [cls k, z5 k], fun k => by rw [ref k, z6 k]⟩
theorem sim_touch (hF : 100000000 ≤ Fu) (hW : WF A) (h : RV A se le he sa fa ge ns nf sp bo fi) {s : Ar} (g : RS A s) (a1 a2 a3 a4 a5 a6 : Ar) (b1 b2 b3 b4 b5 : Int32) (a : Ar) (r1 r2 r3 r4 : Int32) (b w : Int32) :
    ∃ r c1 c2 c3 c4 c5 c6 d1 d2 d3 d4 d5 s' a' x1 x2 x3 x4, RS A s' ∧
      f_X3_touchiest Fu se le he sa fa ge ns nf sp bo fi a1 a2 a3 a4 a5 a6 b1 b2 b3 b4 b5 b w = some (r, c1, c2, c3, c4, c5, c6, d1, d2, d3, d4, d5) ∧
      f_X4_touchiest Fu s a r1 r2 r3 r4 b w = some (r, s', a', x1, x2, x3, x4) := by
  have hn := hW.n
  have hw := hW.w
  unfold f_X3_touchiest f_X4_touchiest
  rw [isWithin_s, in4_s, bd1_s, bd1_s]
  by_cases hb : nI 1 ≤ b ∧ b ≤ nI 500
  · rw [if_pos hb, if_neg one_ne, if_neg one_ne, isWithin_s, in4_s, within_n (n := 2) (by omega), bd1_s, bd1_s]
    by_cases hww : isS (2 + 1) w = true
    · rw [if_pos hww, if_neg one_ne, if_neg one_ne]
      obtain ⟨c, hc1, hc2, rfl⟩ := rng hb (by omega) (by omega)
      obtain ⟨v, hv, rfl⟩ := isS_t hww (by omega)
      obtain ⟨rc, q1, q2⟩ := calm_s (Fu := Fu) (by omega) hW h
      obtain ⟨P', c', a1', a2', a3', a4', a5', a6', b1', b2', b3', b4', b5', s', a', r1', r2', r3', r4', z1, z2, z3, z4, z5, z6⟩ := touch_L Fu hF hW h hc2 q1 Fu 0 0 0 a1 a2 a3 a4 a5 a6 b1 b2 b3 b4 b5 s a r1 r2 r3 r4 g (Nat.zero_le _) (Or.inl rfl) (fun z => absurd rfl z) (by omega) (by omega)
      rw [nonI_0, cI_0] at z6
      rw [cI_0] at z5
      rw [jn_eq, z6, jn_eq]
      by_cases n0 : A.ns = 0
      · have w0 : A.wn = 0 := by
          show A.st A.ns = 0
          rw [n0]; exact hW.1.2.1
        have c0 : c' = 0 := Classical.byContradiction (fun z => by have := z3 z; omega)
        rw [h.rns, if_pos (by rw [n0]; exact zero_eq), c0, nonI_0, if_pos rfl]
        exact ⟨-6, _, _, _, _, _, _, _, _, _, _, _, s', _, _, _, _, _, z1, rfl, rfl⟩
      · have w0 : 0 < A.wn := by
          have := hW.1.lt (show 0 < A.ns by omega) (Nat.le_refl _)
          have e : A.wn = A.st A.ns := rfl
          omega
        have c0 : c' ≠ 0 := by omega
        have hP := z3 c0
        have hso := hW.so hP
        have m0 : ¬ nI A.ns = 0 := by rw [nI_zero, nI_eqs (by omega) (by omega)]; exact n0
        rw [h.rns] at z5 q2
        rw [h.rns, if_neg m0, q2, bd1_s, jn_eq, z5, nm_eq, nonI_s _ _ c0, if_neg (nI_ne6 (by omega))]
        by_cases v0 : v = 0
        · subst v0
          rw [if_pos rfl, if_pos zero_eq, storyAt_s (Fu := Fu) (by omega) hW.1 (fun k hk => h.rsa hk) hso.1 hso.2.1 hso.2.2, bd1_s, storyOf_s (Fu := Fu) (by omega) hW.1 (fun k hk => z1.rlo hk) hso.1 hso.2.1 hso.2.2, bd1_s]
          exact ⟨_, _, _, _, _, _, _, _, _, _, _, _, s', _, _, _, _, _, z1, rfl, rfl⟩
        · have k0 : ¬ nI v = nI 0 := by rw [nI_eqs (by omega) (by omega)]; exact v0
          have k0' : ¬ nI v = 0 := fun z => k0 (by rw [z]; exact zero_eq.symm)
          rw [if_neg k0, if_neg k0']
          by_cases v1 : v = 1
          · subst v1
            rw [if_pos rfl, if_pos rfl, placeOf_s (Fu := Fu) (by omega) hW.1 (fun k hk => h.rsa hk) hso.1 hso.2.1 hso.2.2, bd1_s, storyOf_s (Fu := Fu) (by omega) hW.1 (fun k hk => z1.rlo hk) hso.1 hso.2.1 hso.2.2, bd1_s, first_r (Fu := Fu) (by omega) hW z1 (show A.so P' ≤ A.ns by omega), bd1_s, pk_subs hso.2.1]
            exact ⟨_, _, _, _, _, _, _, _, _, _, _, _, s', _, _, _, _, _, z1, rfl, rfl⟩
          · have k1 : ¬ nI v = nI 1 := by rw [nI_eqs (by omega) (by omega)]; exact v1
            rw [if_neg k1, if_neg k1]
            exact ⟨_, _, _, _, _, _, _, _, _, _, _, _, s', _, _, _, _, _, z1, rfl, rfl⟩
    · rw [if_neg hww, if_pos zero_eq, if_pos zero_eq]
      exact ⟨-2, _, _, _, _, _, _, _, _, _, _, _, s, _, _, _, _, _, g, rfl, rfl⟩
  · rw [if_neg hb, if_pos zero_eq, if_pos zero_eq]
    exact ⟨-2, _, _, _, _, _, _, _, _, _, _, _, s, _, _, _, _, _, g, rfl, rfl⟩
end TO
