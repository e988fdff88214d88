/-! PURE: what if; ifHeated -/
theorem aside_L (Fu : Nat) (k : Ar → Option Ar) (s a : Ar) : ∀ (fu i : Nat), i ≤ 345 → 345 - i < fu → f_X4_putAside_L2 Fu k s fu (nI i) (va_cpy s a 0 0 i) = k (va_cpy s a 0 0 345) := by
  intro fu
  induction fu with
  | zero => intro i h1 h2; omega
  | succ fu ih =>
    intro i h1 h2
    rw [f_X4_putAside_L2_s]
    by_cases hh : 345 ≤ i
    · have e : i = 345 := by omega
      subst e
      simp (disch := omega) only [gd_true, nm_eq, jn_eq, bd1_s, bd2_s, bd3_s, bd4_s, bd5_s, bd6_s, bd7_s, bd8_s, bd9_s, bd10_s, bd11_s, bd12_s, nI_add, pk_mul, pk_subs, nI_m1s, ix_nIs, nI_clamps, nI_les, nI_lts, nI_eqs, bz_0, bz_1, nI_zero, eq_self, if_true, if_false, if_pos, if_neg]
    · rw [← ih (i + 1) (by omega) (by omega), ← cpy_step, Nat.zero_add]
      simp (disch := omega) only [gd_true, nm_eq, jn_eq, bd1_s, bd2_s, bd3_s, bd4_s, bd5_s, bd6_s, bd7_s, bd8_s, bd9_s, bd10_s, bd11_s, bd12_s, nI_add, pk_mul, pk_subs, nI_m1s, ix_nIs, nI_clamps, nI_les, nI_lts, nI_eqs, bz_0, bz_1, nI_zero, eq_self, if_true, if_false, if_neg hh]
theorem back4_L (Fu : Nat) (k : Ar → Option Ar) (s a : Ar) : ∀ (fu i : Nat), i ≤ 345 → 345 - i < fu → f_X4_putBack_L2 Fu k a fu (nI i) (va_cpy a s 0 0 i) = k (va_cpy a s 0 0 345) := by
  intro fu
  induction fu with
  | zero => intro i h1 h2; omega
  | succ fu ih =>
    intro i h1 h2
    rw [f_X4_putBack_L2_s]
    by_cases hh : 345 ≤ i
    · have e : i = 345 := by omega
      subst e
      simp (disch := omega) only [gd_true, nm_eq, jn_eq, bd1_s, bd2_s, bd3_s, bd4_s, bd5_s, bd6_s, bd7_s, bd8_s, bd9_s, bd10_s, bd11_s, bd12_s, nI_add, pk_mul, pk_subs, nI_m1s, ix_nIs, nI_clamps, nI_les, nI_lts, nI_eqs, bz_0, bz_1, nI_zero, eq_self, if_true, if_false, if_pos, if_neg]
    · rw [← ih (i + 1) (by omega) (by omega), ← cpy_step, Nat.zero_add]
      simp (disch := omega) only [gd_true, nm_eq, jn_eq, bd1_s, bd2_s, bd3_s, bd4_s, bd5_s, bd6_s, bd7_s, bd8_s, bd9_s, bd10_s, bd11_s, bd12_s, nI_add, pk_mul, pk_subs, nI_m1s, ix_nIs, nI_clamps, nI_les, nI_lts, nI_eqs, bz_0, bz_1, nI_zero, eq_self, if_true, if_false, if_neg hh]
theorem aside_s {Fu : Nat} (hF : 20000000 ≤ Fu) (s a : Ar) : f_X4_putAside Fu s a = some (va_cpy s a 0 0 345) := by
  have := aside_L Fu (fun q => some q) s a Fu 0 (by omega) (by omega)
  rw [cpy_0] at this
  unfold f_X4_putAside
  rw [jn_eq]
  exact this
theorem back4_s {Fu : Nat} (hF : 20000000 ≤ Fu) (s a : Ar) : f_X4_putBack Fu s a = some (va_cpy a s 0 0 345) := by
  have := back4_L Fu (fun q => some q) s a Fu 0 (by omega) (by omega)
  rw [cpy_0] at this
  unfold f_X4_putBack
  rw [jn_eq]
  exact this
section TR
variable {Fu M : Nat} {A : Sh} {se le he sa fa ge : Ar} {ns nf sp bo fi : Int32} {s : Ar}
theorem try_sim (hF : 100000000 ≤ Fu) (hW : WF A) (h : RV A se le he sa fa ge ns nf sp bo fi) (g : RS A s) {p b : Nat} (hp : p < A.wn) (hb : b ≤ 1000) (a1 a2 a3 a4 a5 a6 : Ar) (b1 b2 b3 b4 b5 : Int32) (a : Ar) (r1 r2 r3 r4 : Int32) :
    ∃ B n c1 c2 c3 c4 c5 c6 d1 d2 d3 d4 d5 s' a', Runs (warmA A p b) B n ∧ n ≤ 149850 ∧ Keeps (warmA A p b) B ∧ RV B c1 c2 c3 c4 c5 c6 d1 d2 d3 d4 d5 ∧ RS A s' ∧
      f_X3_tryHeating Fu se le he sa fa ge ns nf sp bo fi a1 a2 a3 a4 a5 a6 b1 b2 b3 b4 b5 (nI p) (nI b) = some (nI n, c1, c2, c3, c4, c5, c6, d1, d2, d3, d4, d5) ∧
      f_X4_tryHeat Fu s a r1 r2 r3 r4 (nI p) (nI b) = some (s', a', nI n, nI B.sp - nI A.sp, nI B.ns, heatR B.he 0 B.wn) := by
  obtain ⟨se0, le0, he0, sa0, fa0, ge0, cp, oo⟩ := copyFrom_s (Fu := Fu) hW h a1 a2 a3 a4 a5 a6 b1 b2 b3 b4 b5
  obtain ⟨he1, w1, w2⟩ := warm_s (Fu := Fu) hW oo hp hb
  obtain ⟨s1, v1, v2⟩ := warm4_s (Fu := Fu) hW g hp hb
  obtain ⟨B, n, he', sa', fa', ge', ns', sp', bo', fi', s', u1, u2, u3, u4, u5, u6, u7⟩ := react_sim hF (hW.warm p b) w2 v2
  have e1 := allHeat_s (by omega : 20000000 ≤ Fu) u3.1 u5
  have e2 := aside_s (by omega : 20000000 ≤ Fu) s a
  have e3 := back4_s (by omega : 20000000 ≤ Fu) s' (va_cpy s a 0 0 345)
  have e4 : va_cpy s a 0 0 345 6 = nI A.sp := by
    have := cpy_in (f := s) (g := a) (sp := 0) (dp := 0) (n := 345) (j := 6) (by omega)
    rw [Nat.zero_add] at this
    rw [this]
    exact g.rsp
  refine ⟨B, n, se0, le0, he', sa', fa', ge', ns', nf, sp', bo', fi', va_cpy (va_cpy s a 0 0 345) s' 0 0 345, va_cpy s a 0 0 345, u1, u2, u3, u4, g.congr hW (fun j hj => ?_), ?_, ?_⟩
  · have q1 := cpy_in (f := va_cpy s a 0 0 345) (g := s') (sp := 0) (dp := 0) (n := 345) hj
    have q2 := cpy_in (f := s) (g := a) (sp := 0) (dp := 0) (n := 345) hj
    rw [Nat.zero_add] at q1 q2
    rw [q1, q2]
  · unfold f_X3_tryHeating
    rw [cp, bd11_s, w1, bd1_s, u6, bd9_s]
  · unfold f_X4_tryHeat
    rw [e2, bd1_s, v1, bd1_s, u7, bd2_s, e1, bd1_s, e3, bd1_s, e4, u5.rsp, u5.rns]
theorem sim_if (hF : 100000000 ≤ Fu) (hW : WF A) (h : RV A se le he sa fa ge ns nf sp bo fi) (g : RS A s) (a1 a2 a3 a4 a5 a6 : Ar) (b1 b2 b3 b4 b5 : Int32) (a : Ar) (r1 r2 r3 r4 : Int32) (p q b w : Int32) :
    ∃ r c1 c2 c3 c4 c5 c6 d1 d2 d3 d4 d5 s' a' x1 x2 x3 x4, RS A s' ∧
      f_X3_ifHeated Fu se le he sa fa ge ns nf sp bo fi a1 a2 a3 a4 a5 a6 b1 b2 b3 b4 b5 p q b w = some (r, c1, c2, c3, c4, c5, c6, d1, d2, d3, d4, d5) ∧
      f_X4_ifHeated Fu s a r1 r2 r3 r4 p q b w = some (r, s', a', x1, x2, x3, x4) := by
  have y1 := hasWord_s Fu hW.1 (fun k hk => h.rsa hk) p q
  have y2 := isWord_s Fu hW.1 g.rns (fun k hk => g.rlo hk) p q
  rw [← h.rns] at y1
  unfold f_X3_ifHeated f_X4_ifHeated
  rw [y1, y2, bd1_s, bd1_s]
  by_cases hq : isW A.ns A.st p q = true
  · rw [if_pos hq, if_neg one_ne, if_neg one_ne, isWithin_s, in4_s, bd1_s, bd1_s]
    by_cases hb : nI 1 ≤ b ∧ b ≤ nI 500
    · rw [if_pos hb, if_neg one_ne, if_neg one_ne, isWithin_s, in4_s, within_n (n := 3) (by omega), bd1_s, bd1_s]
      by_cases hww : isS (3 + 1) w = true
      · rw [if_pos hww, if_neg one_ne, if_neg one_ne]
        obtain ⟨k, j, hk, hj, rfl, rfl⟩ := isW_t hq hW.1
        obtain ⟨c, hc1, hc2, rfl⟩ := rng hb (by omega) (by omega)
        obtain ⟨v, hv, rfl⟩ := isS_t hww (by omega)
        have hn := hW.n
        have hm2 := hW.1.le (show k + 1 ≤ A.ns by omega) (Nat.le_refl _)
        have hp : A.st k + j < A.wn := by unfold Sh.wn; omega
        have e1 := h.rsa (show k ≤ A.ns by omega)
        have e2 := first_r (by omega : 20000000 ≤ Fu) hW g (show k ≤ A.ns by omega)
        obtain ⟨B, n, c1, c2, c3, c4, c5, c6, d1, d2, d3, d4, d5, s', a', u1, u2, u3, u4, u5, u6, u7⟩ := try_sim hF hW h g hp (show c ≤ 1000 by omega) a1 a2 a3 a4 a5 a6 b1 b2 b3 b4 b5 a r1 r2 r3 r4
        rw [ix_nIs (by omega) (by omega), gd_true, nI_clamps (by omega), e1, nI_add, u6, bd12_s, nm_eq, e2, bd1_s, nI_add, u7, bd6_s, nm_eq]
        by_cases v0 : v = 0
        · subst v0
          rw [if_pos rfl, if_pos zero_eq]
          exact ⟨_, _, _, _, _, _, _, _, _, _, _, _, _, _, _, _, _, _, u5, rfl, rfl⟩
        · have m0 : ¬ nI v = nI 0 := by rw [nI_eqs (by omega) (by omega)]; exact v0
          have m0' : ¬ nI v = 0 := fun z => m0 (by rw [z]; exact zero_eq.symm)
          rw [if_neg m0, if_neg m0']
          by_cases v1 : v = 1
          · subst v1
            rw [if_pos rfl, if_pos rfl, u4.rsp, h.rsp]
            exact ⟨_, _, _, _, _, _, _, _, _, _, _, _, _, _, _, _, _, _, u5, rfl, rfl⟩
          · have m1 : ¬ nI v = nI 1 := by rw [nI_eqs (by omega) (by omega)]; exact v1
            rw [if_neg m1, if_neg m1]
            by_cases v2 : v = 2
            · subst v2
              rw [if_pos rfl, if_pos rfl, u4.rns]
              exact ⟨_, _, _, _, _, _, _, _, _, _, _, _, _, _, _, _, _, _, u5, rfl, rfl⟩
            · have m2 : ¬ nI v = nI 2 := by rw [nI_eqs (by omega) (by omega)]; exact v2
              rw [if_neg m2, if_neg m2, heatOfAll_s (by omega : 20000000 ≤ Fu) u3.1 u4, bd1_s]
              exact ⟨_, _, _, _, _, _, _, _, _, _, _, _, _, _, _, _, _, _, u5, rfl, rfl⟩
      · rw [if_neg hww, if_pos zero_eq, if_pos zero_eq]
        exact ⟨-2, _, _, _, _, _, _, _, _, _, _, _, s, _, _, _, _, _, g, rfl, rfl⟩
    · rw [if_neg hb, if_pos zero_eq, if_pos zero_eq]
      exact ⟨-2, _, _, _, _, _, _, _, _, _, _, _, s, _, _, _, _, _, g, rfl, rfl⟩
  · rw [if_neg hq, if_pos zero_eq, if_pos zero_eq]
    exact ⟨-1, _, _, _, _, _, _, _, _, _, _, _, s, _, _, _, _, _, g, rfl, rfl⟩
/-- calm: no word is too hot -/
def calmA (A : Sh) : Prop := ∀ q, q < A.wn → cold A q
theorem calm_L (Fu : Nat) (hW : WF A) (h : RV A se le he sa fa ge ns nf sp bo fi) : ∀ (fu i : Nat), i ≤ A.wn → (∀ q, q < i → cold A q) → A.wn - i < fu → ∃ r : Nat, (r = 1 ∧ calmA A ∨ r = 0 ∧ ¬ calmA A) ∧ f_X2_isCalm_L2 Fu se he sa ns fu (nI i) = some (nI r) := by
  have hw := hW.w
  have hse := hW.2.1
  have e1 := words_r (Fu := Fu) hW h
  have e2 := h.rse (show 0 < 3 by omega)
  intro fu
  induction fu with
  | zero => intro i h1 h2 h3; omega
  | succ fu ih =>
    intro i h1 h2 h3
    rw [f_X2_isCalm_L2_s, e1, bd1_s]
    by_cases hh : A.wn ≤ i
    · exact ⟨1, Or.inl ⟨rfl, fun q hq => h2 q (by omega)⟩, by rw [if_pos (by rw [nI_les (by omega) (by omega)]; exact hh)]⟩
    · have e3 := h.rhe (show i < A.wn by omega)
      have b3 := (hW.2.2 i (by omega)).2
      rw [if_neg (by rw [nI_les (by omega) (by omega)]; exact hh), ix_nIs (by omega) (by omega), gd_true, nI_clamps (by omega), e2, e3]
      by_cases c : A.he i < A.se 0
      · rw [if_pos (by rw [nI_lts (by omega) (by omega)]; exact c), nI_add]
        exact ih (i + 1) (by omega) (fun q hq => by
          by_cases e : q = i
          · subst e; exact c
          · exact h2 q (by omega)) (by omega)
      · exact ⟨0, Or.inr ⟨rfl, fun z => c (z i (by omega))⟩, by rw [if_neg (by rw [nI_lts (by omega) (by omega)]; exact c)]⟩
theorem calm_s (hF : 20000000 ≤ Fu) (hW : WF A) (h : RV A se le he sa fa ge ns nf sp bo fi) : ∃ r : Nat, (r = 1 ∧ calmA A ∨ r = 0 ∧ ¬ calmA A) ∧ f_X2_isCalm Fu se he sa ns = some (nI r) := by
  have := hW.w
  exact calm_L Fu hW h Fu 0 (Nat.zero_le _) (fun q hq => by omega) (by omega)
theorem warm_calm (hc : calmA A) {p b : Nat} (hb : A.he p + b < A.se 0) : Runs (warmA A p b) (warmA A p b) 0 := by
  refine Runs.done (fun q hq => ?_)
  show (if q = p then minH (A.he p) b else A.he q) < A.se 0
  by_cases e : q = p
  · rw [if_pos e]; have := (minH_le (A.he p) b).2; omega
  · rw [if_neg e]; exact hc q hq
end TR
