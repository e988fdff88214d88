/-! PURE: heat, read, pass -/
theorem rng {p : Int32} {lo hi : Nat} (h : nI lo ≤ p ∧ p ≤ nI hi) (hb : hi < 1000000) (hl : lo ≤ hi) : ∃ b, lo ≤ b ∧ b ≤ hi ∧ p = nI b := by
  have h1 := Int32.le_iff_toInt_le.mp h.1
  have h2 := Int32.le_iff_toInt_le.mp h.2
  rw [nI_toInt (by omega)] at h1 h2
  refine ⟨p.toInt.toNat, by omega, by omega, ?_⟩
  apply Int32.toInt_inj.mp
  rw [nI_toInt (by omega)]
  omega
theorem Keeps.sp {A B : Sh} (h : Keeps A B) : B.sp ≤ A.sp + 12 := by
  have := h.1.n
  have := h.2.2.2.1
  omega
section CH
variable {Fu M : Nat} {A : Sh} {se le he sa fa ge : Ar} {ns nf sp bo fi : Int32} {s : Ar} {hs : Nat → Sh} {o z : Nat} {hv : Nat → SV} {be : Ar}
/-- what each change answers: the same answer, a value on both sides -/
theorem react_sim (hF : 100000000 ≤ Fu) (hW : WF A) (h : RV A se le he sa fa ge ns nf sp bo fi) (g : RS A s) : ∃ B n he' sa' fa' ge' ns' sp' bo' fi' s', Runs A B n ∧ n ≤ 149850 ∧ Keeps A B ∧ RV B se le he' sa' fa' ge' ns' nf sp' bo' fi' ∧ RS B s' ∧ f_X2_react Fu se he sa fa ge ns sp bo fi = some (nI n, he', sa', fa', ge', ns', sp', bo', fi') ∧ f_X4_react Fu s = some (nI n, s') := by
  obtain ⟨B, n, he', sa', fa', ge', ns', sp', bo', fi', r1, r2, r3, r4, r5⟩ := react_s (Fu := Fu) (by omega) hW h
  obtain ⟨C, m, s', q1, q2, q3, q4⟩ := react4_s hF hW g
  obtain ⟨e1, e2⟩ := r1.det q1
  subst e1
  subst e2
  exact ⟨B, n, he', sa', fa', ge', ns', sp', bo', fi', s', r1, r2, r3, r4, q3, r5, q4⟩
theorem sim_heat (hF : 100000000 ≤ Fu) (hW : WF A) (hM : A.sp ≤ M) (h : RV A se le he sa fa ge ns nf sp bo fi) (g : RS A s) (hH : HR M hs o z hv be) (p q b : Int32) :
    ∃ r B hs' o' z' hv' be' he' sa' fa' ge' ns' sp' bo' fi' s', WF B ∧ B.sp ≤ M + 12 ∧ RV B se le he' sa' fa' ge' ns' nf sp' bo' fi' ∧ RS B s' ∧ HR M hs' o' z' hv' be' ∧
      f_X3_heat Fu se le he sa fa ge ns nf sp bo fi hv (nI o) (nI z) p q b = some (r, he', sa', fa', ge', ns', sp', bo', fi', hv', nI o', nI z') ∧ f_X4_heat Fu s be (nI z) p q b = some (r, s', be', nI z') := by
  have a1 := hasWord_s Fu hW.1 (fun k hk => h.rsa hk) p q
  have a2 := isWord_s Fu hW.1 g.rns (fun k hk => g.rlo hk) p q
  rw [← h.rns] at a1
  unfold f_X3_heat f_X4_heat
  rw [a1, a2, bd1_s, bd1_s]
  by_cases hq : isW A.ns A.st p q = true
  · rw [if_pos hq, if_neg one_ne, if_neg one_ne, isWithin_s, in4_s, bd1_s, bd1_s]
    by_cases hb : nI 1 ≤ b ∧ b ≤ nI 500
    · rw [if_pos hb, if_neg one_ne, if_neg one_ne]
      obtain ⟨k, j, hk, hj, rfl, rfl⟩ := isW_t hq hW.1
      obtain ⟨c, hc1, hc2, rfl⟩ := rng hb (by omega) (by omega)
      have hn := hW.n
      have hm2 := hW.1.le (show k + 1 ≤ A.ns by omega) (Nat.le_refl _)
      have hp : A.st k + j < A.wn := by unfold Sh.wn; omega
      have e1 := h.rsa (show k ≤ A.ns by omega)
      have e2 := first_r (by omega : 20000000 ≤ Fu) hW g (show k ≤ A.ns by omega)
      obtain ⟨hs', o', z', hv', be', q1, q2, q3⟩ := rec_sim (by omega : 20000000 ≤ Fu) hW hM h g hH
      obtain ⟨he1, w1, w2⟩ := warm_s (Fu := Fu) hW h hp (show c ≤ 1000 by omega)
      obtain ⟨s1, v1, v2⟩ := warm4_s (Fu := Fu) hW g hp (show c ≤ 1000 by omega)
      obtain ⟨B, n, he', sa', fa', ge', ns', sp', bo', fi', s', r1, r2, r3, r4, r5, r6, r7⟩ := react_sim hF (hW.warm (A.st k + j) c) w2 v2
      refine ⟨nI n, B, hs', o', z', hv', be', he', sa', fa', ge', ns', sp', bo', fi', s', r3.1, ?_, r4, r5, q1, ?_, ?_⟩
      · have := r3.sp
        have e : (warmA A (A.st k + j) c).sp = A.sp := rfl
        omega
      · rw [q2, bd3_s, ix_nIs (by omega) (by omega), gd_true, nI_clamps (by omega), e1, nI_add, w1, bd1_s, r6, bd9_s]
      · rw [q3, bd2_s, e2, bd1_s, nI_add, v1, bd1_s, r7, bd2_s]
    · rw [if_neg hb, if_pos zero_eq, if_pos zero_eq]
      exact ⟨-2, A, hs, o, z, hv, be, he, sa, fa, ge, ns, sp, bo, fi, s, hW, by omega, h, g, hH, rfl, rfl⟩
  · rw [if_neg hq, if_pos zero_eq, if_pos zero_eq]
    exact ⟨-1, A, hs, o, z, hv, be, he, sa, fa, ge, ns, sp, bo, fi, s, hW, by omega, h, g, hH, rfl, rfl⟩
/-- each word of a row gets heat -/
def rdA (A : Sh) (lo hi b : Nat) : Sh := A.setHe (fun q => if lo ≤ q ∧ q < hi then minH (A.he q) b else A.he q)
theorem rd_0 (A : Sh) (lo b : Nat) : rdA A lo lo b = A := by
  unfold rdA
  have : (fun q => if lo ≤ q ∧ q < lo then minH (A.he q) b else A.he q) = A.he := by
    funext q
    rw [if_neg (by omega)]
  rw [this]
  rfl
theorem rd_s (A : Sh) (lo i b : Nat) (h : lo ≤ i) : warmA (rdA A lo i b) i b = rdA A lo (i + 1) b := by
  show A.setHe (fun q => if q = i then minH (if lo ≤ i ∧ i < i then minH (A.he i) b else A.he i) b else (if lo ≤ q ∧ q < i then minH (A.he q) b else A.he q)) = A.setHe _
  congr 1
  funext q
  by_cases hq : q = i
  · subst hq
    rw [if_pos rfl, if_neg (by omega), if_pos (by omega)]
  · rw [if_neg hq]
    by_cases h2 : lo ≤ q ∧ q < i
    · rw [if_pos h2, if_pos (by omega)]
    · rw [if_neg h2, if_neg (by omega)]
theorem WF.rd (hW : WF A) (lo hi b : Nat) : WF (rdA A lo hi b) := hW.he (fun q hq => by
  show (if lo ≤ q ∧ q < hi then minH (A.he q) b else A.he q) ≤ 999
  by_cases h : lo ≤ q ∧ q < hi
  · rw [if_pos h]; exact (minH_le _ _).1
  · rw [if_neg h]; exact (hW.2.2 q hq).2)
theorem read_L (Fu : Nat) (hW : WF A) {K b : Nat} (hK : K < A.ns) (hb : b ≤ 1000) : ∀ (fu i : Nat) (he : Ar), A.st K ≤ i → i ≤ A.st (K + 1) → RV (rdA A (A.st K) i b) se le he sa fa ge ns nf sp bo fi → A.st (K + 1) - i < fu → ∃ he', RV (rdA A (A.st K) (A.st (K + 1)) b) se le he' sa fa ge ns nf sp bo fi ∧ ∀ k : Ar → Option (Int32 × Ar × Ar × Ar × Ar × Int32 × Int32 × Int32 × Int32 × (Nat → SV) × Int32 × Int32), f_X3_read_L47 Fu k sa (nI K) (nI b) fu (nI i) he = k he' := by
  have hn := hW.n
  have hm2 := hW.1.le (show K + 1 ≤ A.ns by omega) (Nat.le_refl _)
  have hw' : A.st A.ns ≤ 150 := hW.w
  intro fu
  induction fu with
  | zero => intro i he h1 h2 h h3; omega
  | succ fu ih =>
    intro i he h1 h2 h h3
    have e1 : sa (K + 1) = nI (A.st (K + 1)) := h.rsa (show K + 1 ≤ A.ns by omega)
    by_cases hh : A.st (K + 1) ≤ i
    · have e : i = A.st (K + 1) := by omega
      subst e
      refine ⟨he, h, fun k => ?_⟩
      rw [f_X3_read_L47_s]
      simp (disch := omega) only [gd_true, nm_eq, jn_eq, bd1_s, bd2_s, bd3_s, bd4_s, bd5_s, bd6_s, bd7_s, bd8_s, bd9_s, bd10_s, bd11_s, bd12_s, nI_add, pk_mul, pk_subs, nI_m1s, ix_nIs, nI_clamps, nI_les, nI_lts, nI_eqs, bz_0, bz_1, nI_zero, eq_self, if_true, if_false, e1, if_pos (Nat.le_refl _)]
    · have hp : i < A.wn := by unfold Sh.wn; omega
      obtain ⟨he1, w1, w2⟩ := warm_s (Fu := Fu) (hW.rd (A.st K) i b) h hp hb
      rw [rd_s A (A.st K) i b h1] at w2
      obtain ⟨he2, r1, r2⟩ := ih (i + 1) he1 (by omega) (by omega) w2 (by omega)
      refine ⟨he2, r1, fun k => ?_⟩
      rw [← r2 k, f_X3_read_L47_s]
      simp (disch := omega) only [gd_true, nm_eq, jn_eq, bd1_s, bd2_s, bd3_s, bd4_s, bd5_s, bd6_s, bd7_s, bd8_s, bd9_s, bd10_s, bd11_s, bd12_s, nI_add, pk_mul, pk_subs, nI_m1s, ix_nIs, nI_clamps, nI_les, nI_lts, nI_eqs, bz_0, bz_1, nI_zero, eq_self, if_true, if_false, e1, w1, if_neg hh]
theorem read4_L (Fu : Nat) (hF : 20000000 ≤ Fu) (hW : WF A) {K b : Nat} (hK : K < A.ns) (hb : b ≤ 1000) : ∀ (fu i : Nat) (s : Ar), A.st K + i ≤ A.st (K + 1) → RS (rdA A (A.st K) (A.st K + i) b) s → A.st (K + 1) - A.st K - i < fu → ∃ s', RS (rdA A (A.st K) (A.st (K + 1)) b) s' ∧ ∀ k : Ar → Option (Int32 × Ar × Ar × Int32), f_X4_read_L29 Fu k (nI K) (nI b) fu (nI i) s = k s' := by
  have hn := hW.n
  have hm2 := hW.1.le (show K + 1 ≤ A.ns by omega) (Nat.le_refl _)
  have hw' : A.st A.ns ≤ 150 := hW.w
  intro fu
  induction fu with
  | zero => intro i s h1 h h3; omega
  | succ fu ih =>
    intro i s h1 h h3
    have e1 : s (9 + K) = nI (A.st (K + 1) - A.st K) := h.rlo (show K < A.ns from hK)
    have e2 : f_X4_first Fu s (nI K) = some (nI (A.st K)) := first_r hF (hW.rd (A.st K) (A.st K + i) b) h (show K ≤ A.ns by omega)
    by_cases hh : A.st (K + 1) - A.st K ≤ i
    · have e : A.st K + i = A.st (K + 1) := by omega
      rw [e] at h
      refine ⟨s, h, fun k => ?_⟩
      rw [f_X4_read_L29_s]
      simp (disch := omega) only [gd_true, nm_eq, jn_eq, bd1_s, bd2_s, bd3_s, bd4_s, bd5_s, bd6_s, bd7_s, bd8_s, bd9_s, bd10_s, bd11_s, bd12_s, nI_add, pk_mul, pk_subs, nI_m1s, ix_nIs, nI_clamps, nI_les, nI_lts, nI_eqs, bz_0, bz_1, nI_zero, eq_self, if_true, if_false, e1, if_pos hh]
    · have hp : A.st K + i < A.wn := by unfold Sh.wn; omega
      obtain ⟨s1, w1, w2⟩ := warm4_s (Fu := Fu) (hW.rd (A.st K) (A.st K + i) b) h hp hb
      rw [rd_s A (A.st K) (A.st K + i) b (by omega)] at w2
      obtain ⟨s2, r1, r2⟩ := ih (i + 1) s1 (by omega) w2 (by omega)
      refine ⟨s2, r1, fun k => ?_⟩
      rw [← r2 k, f_X4_read_L29_s]
      simp (disch := omega) only [gd_true, nm_eq, jn_eq, bd1_s, bd2_s, bd3_s, bd4_s, bd5_s, bd6_s, bd7_s, bd8_s, bd9_s, bd10_s, bd11_s, bd12_s, nI_add, pk_mul, pk_subs, nI_m1s, ix_nIs, nI_clamps, nI_les, nI_lts, nI_eqs, bz_0, bz_1, nI_zero, eq_self, if_true, if_false, e1, e2, w1, if_neg hh]
theorem sim_read (hF : 100000000 ≤ Fu) (hW : WF A) (hM : A.sp ≤ M) (h : RV A se le he sa fa ge ns nf sp bo fi) (g : RS A s) (hH : HR M hs o z hv be) (p b : Int32) :
    ∃ r B hs' o' z' hv' be' he' sa' fa' ge' ns' sp' bo' fi' s', WF B ∧ B.sp ≤ M + 12 ∧ RV B se le he' sa' fa' ge' ns' nf sp' bo' fi' ∧ RS B s' ∧ HR M hs' o' z' hv' be' ∧
      f_X3_read Fu se le he sa fa ge ns nf sp bo fi hv (nI o) (nI z) p b = some (r, he', sa', fa', ge', ns', sp', bo', fi', hv', nI o', nI z') ∧ f_X4_read Fu s be (nI z) p b = some (r, s', be', nI z') := by
  have hn := hW.n
  have a1 := hasStory_s Fu p (show A.ns < 1000000 by omega)
  have a2 := isStory_s Fu p g.rns (show A.ns < 1000000 by omega)
  rw [← h.rns] at a1
  unfold f_X3_read f_X4_read
  rw [a1, a2, bd1_s, bd1_s]
  by_cases hq : isS A.ns p = true
  · rw [if_pos hq, if_neg one_ne, if_neg one_ne, isWithin_s, in4_s, bd1_s, bd1_s]
    by_cases hb : nI 1 ≤ b ∧ b ≤ nI 50
    · rw [if_pos hb, if_neg one_ne, if_neg one_ne]
      obtain ⟨k, hk, rfl⟩ := isS_t hq (by omega)
      obtain ⟨c, hc1, hc2, rfl⟩ := rng hb (by omega) (by omega)
      have hw' : A.st A.ns ≤ 150 := hW.w
      have hm2 := hW.1.le (show k + 1 ≤ A.ns by omega) (Nat.le_refl _)
      have hm := hW.1.2.2.1 k hk
      have e1 := h.rsa (show k ≤ A.ns by omega)
      obtain ⟨hs', o', z', hv', be', q1, q2, q3⟩ := rec_sim (by omega : 20000000 ≤ Fu) hW hM h g hH
      have h0 : RV (rdA A (A.st k) (A.st k) c) se le he sa fa ge ns nf sp bo fi := by rw [rd_0]; exact h
      have g0 : RS (rdA A (A.st k) (A.st k + 0) c) s := by rw [Nat.add_zero, rd_0]; exact g
      obtain ⟨he1, w1, w2⟩ := read_L Fu hW hk (show c ≤ 1000 by omega) Fu (A.st k) he (Nat.le_refl _) (by omega) h0 (by omega)
      obtain ⟨s1, v1, v2⟩ := read4_L Fu (by omega) hW hk (show c ≤ 1000 by omega) Fu 0 s (by omega) g0 (by omega)
      obtain ⟨B, n, he', sa', fa', ge', ns', sp', bo', fi', s', r1, r2, r3, r4, r5, r6, r7⟩ := react_sim hF (hW.rd (A.st k) (A.st (k + 1)) c) w1 v1
      refine ⟨nI n, B, hs', o', z', hv', be', he', sa', fa', ge', ns', sp', bo', fi', s', r3.1, ?_, r4, r5, q1, ?_, ?_⟩
      · have := r3.sp
        have e : (rdA A (A.st k) (A.st (k + 1)) c).sp = A.sp := rfl
        omega
      · rw [q2, bd3_s, ix_nIs (by omega) (by omega), gd_true, nI_clamps (by omega), e1, jn_eq, w2, r6, bd9_s]
      · rw [q3, bd2_s, jn_eq, v2, r7, bd2_s]
    · rw [if_neg hb, if_pos zero_eq, if_pos zero_eq]
      exact ⟨-2, A, hs, o, z, hv, be, he, sa, fa, ge, ns, sp, bo, fi, s, hW, by omega, h, g, hH, rfl, rfl⟩
  · rw [if_neg hq, if_pos zero_eq, if_pos zero_eq]
    exact ⟨-1, A, hs, o, z, hv, be, he, sa, fa, ge, ns, sp, bo, fi, s, hW, by omega, h, g, hH, rfl, rfl⟩
theorem jmax_sub {a b : Nat} (ha : a < 1000000) (hb : b < 1000000) : jmax (nI 0) (nI a - nI b) = nI (a - b) := by
  unfold jmax
  by_cases h : b ≤ a
  · rw [pk_subs h]
    by_cases h2 : a - b = 0
    · rw [h2]; decide
    · rw [if_pos (by rw [nI_lts (by omega) (by omega)]; omega)]
  · have h1 : nI a - nI b < 0 := pk_sneg (by omega) (by omega)
    rw [if_neg (by rw [nI_0]; exact fun z => Int32.lt_irrefl (Int32.lt_trans z h1)), show a - b = 0 by omega]
def coolA (A : Sh) (l i : Nat) : Sh := A.setHe (fun q => if q < i then A.he q - l else A.he q)
theorem cool_0 (A : Sh) (l : Nat) : coolA A l 0 = A := by
  unfold coolA
  have : (fun q => if q < 0 then A.he q - l else A.he q) = A.he := by
    funext q
    rw [if_neg (by omega)]
  rw [this]
  rfl
theorem WF.cool (hW : WF A) (l i : Nat) : WF (coolA A l i) := hW.he (fun q hq => by
  show (if q < i then A.he q - l else A.he q) ≤ 999
  have := (hW.2.2 q hq).2
  by_cases h : q < i
  · rw [if_pos h]; omega
  · rw [if_neg h]; exact this)
theorem pass_L (Fu : Nat) (hW : WF A) {l d c : Nat} (hd : d ≤ 30) (hc : c ≤ 20) (hl : l = d * c) (h2 : se 2 = nI c) : ∀ (fu i : Nat) (he : Ar), i ≤ A.wn → RV (coolA A l i) se le he sa fa ge ns nf sp bo fi → A.wn - i < fu → ∃ he', RV (coolA A l A.wn) se le he' sa fa ge ns nf sp bo fi ∧ ∀ k : Ar → Option (Int32 × Ar × (Nat → SV) × Int32 × Int32), f_X3_pass_L38 Fu k se sa ns (nI d) fu (nI i) he = k he' := by
  have hw := hW.w
  have hl2 : l ≤ 600 := by
    have := Nat.mul_le_mul hd hc
    omega
  intro fu
  induction fu with
  | zero => intro i he h1 h h3; omega
  | succ fu ih =>
    intro i he h1 h h3
    have e1 : f_X2_words Fu sa ns = some (nI A.wn) := words_r (A := coolA A l i) (hW.cool l i) h
    by_cases hh : A.wn ≤ i
    · have e : i = A.wn := by omega
      subst e
      refine ⟨he, h, fun k => ?_⟩
      rw [f_X3_pass_L38_s]
      simp (disch := omega) only [gd_true, nm_eq, jn_eq, bd1_s, bd2_s, bd3_s, bd4_s, bd5_s, bd6_s, bd7_s, bd8_s, bd9_s, bd10_s, bd11_s, bd12_s, nI_add, pk_mul, pk_subs, nI_m1s, ix_nIs, nI_clamps, nI_les, nI_lts, nI_eqs, bz_0, bz_1, nI_zero, eq_self, if_true, if_false, e1, if_pos (Nat.le_refl _)]
    · have hp : i < A.wn := by omega
      have e2 : he i = nI (A.he i) := by
        have := h.rhe (show i < (coolA A l i).wn from hp)
        rw [this]
        show nI (if i < i then A.he i - l else A.he i) = nI (A.he i)
        rw [if_neg (by omega)]
      have b1 := (hW.2.2 i hp).2
      have w2 : RV (coolA A l (i + 1)) se le (upd he i (nI (A.he i - l))) sa fa ge ns nf sp bo fi := by
        refine ⟨h.1, h.2.1, fun q hq => ?_, h.2.2.2⟩
        show upd he i (nI (A.he i - l)) q = nI (if q < i + 1 then A.he q - l else A.he q)
        by_cases hqi : q = i
        · subst hqi; rw [upd_eq, if_pos (by omega)]
        · rw [upd_ne hqi]
          have := h.rhe (show q < (coolA A l i).wn from hq)
          rw [this]
          show nI (if q < i then A.he q - l else A.he q) = _
          by_cases h5 : q < i
          · rw [if_pos h5, if_pos (by omega)]
          · rw [if_neg h5, if_neg (by omega)]
      obtain ⟨he2, r1, r2⟩ := ih (i + 1) _ (by omega) w2 (by omega)
      refine ⟨he2, r1, fun k => ?_⟩
      have e3 := jmax_sub (show A.he i < 1000000 by omega) (show l < 1000000 by omega)
      rw [← r2 k, f_X3_pass_L38_s]
      simp (disch := omega) only [gd_true, nm_eq, jn_eq, bd1_s, bd2_s, bd3_s, bd4_s, bd5_s, bd6_s, bd7_s, bd8_s, bd9_s, bd10_s, bd11_s, bd12_s, nI_add, pk_mul, pk_subs, nI_m1s, ix_nIs, nI_clamps, nI_les, nI_lts, nI_eqs, bz_0, bz_1, nI_zero, eq_self, if_true, if_false, e1, e2, h2, ← hl, e3, if_neg hh]
theorem pass4_L (Fu : Nat) (hW : WF A) {l d c : Nat} (hd : d ≤ 30) (hc : c ≤ 20) (hl : l = d * c) {s0 : Ar} (h2 : s0 2 = nI c) : ∀ (fu i : Nat) (s : Ar), i ≤ A.wn → RS (coolA A l i) s → A.wn - i < fu → ∃ s', RS (coolA A l A.wn) s' ∧ ∀ k : Ar → Option (Int32 × Ar × Ar × Int32), f_X4_pass_L28 Fu k s0 (nI d) fu (nI i) s = k s' := by
  have hw := hW.w
  have hl2 : l ≤ 600 := by
    have := Nat.mul_le_mul hd hc
    omega
  intro fu
  induction fu with
  | zero => intro i s h1 h h3; omega
  | succ fu ih =>
    intro i s h1 h h3
    have e1 : s 4 = nI A.wn := h.rwn
    by_cases hh : A.wn ≤ i
    · have e : i = A.wn := by omega
      subst e
      refine ⟨s, h, fun k => ?_⟩
      rw [f_X4_pass_L28_s]
      simp (disch := omega) only [gd_true, nm_eq, jn_eq, bd1_s, bd2_s, bd3_s, bd4_s, bd5_s, bd6_s, bd7_s, bd8_s, bd9_s, bd10_s, bd11_s, bd12_s, nI_add, pk_mul, pk_subs, nI_m1s, ix_nIs, nI_clamps, nI_les, nI_lts, nI_eqs, bz_0, bz_1, nI_zero, eq_self, if_true, if_false, e1, if_pos (Nat.le_refl _)]
    · have hp : i < A.wn := by omega
      have e2 : s (195 + i) = nI (A.he i) := by
        have := h.rhe (show i < (coolA A l i).wn from hp)
        rw [this]
        show nI (if i < i then A.he i - l else A.he i) = nI (A.he i)
        rw [if_neg (by omega)]
      have b1 := (hW.2.2 i hp).2
      have w2 : RS (coolA A l (i + 1)) (upd s (195 + i) (nI (A.he i - l))) := by
        have := h.setHe (hW.cool l i) (g := fun q => if q < i + 1 then A.he q - l else A.he q) (s' := upd s (195 + i) (nI (A.he i - l))) (fun j hj => upd_ne (by omega)) (fun q hq => by
          by_cases hqi : q = i
          · subst hqi; rw [upd_eq, if_pos (by omega)]
          · rw [upd_ne (by omega)]
            have := h.rhe hq
            rw [this]
            show nI (if q < i then A.he q - l else A.he q) = _
            by_cases h5 : q < i
            · rw [if_pos h5, if_pos (by omega)]
            · rw [if_neg h5, if_neg (by omega)])
        exact this
      obtain ⟨s2, r1, r2⟩ := ih (i + 1) _ (by omega) w2 (by omega)
      refine ⟨s2, r1, fun k => ?_⟩
      rw [← r2 k, f_X4_pass_L28_s]
      by_cases hc2 : A.he i ≤ l
      · rw [show A.he i - l = A.he i - A.he i by omega]
        simp (disch := omega) only [gd_true, nm_eq, jn_eq, bd1_s, bd2_s, bd3_s, bd4_s, bd5_s, bd6_s, bd7_s, bd8_s, bd9_s, bd10_s, bd11_s, bd12_s, nI_add, pk_mul, pk_subs, nI_m1s, ix_nIs, nI_clamps, nI_les, nI_lts, nI_eqs, bz_0, bz_1, nI_zero, eq_self, if_true, if_false, e1, e2, h2, ← hl, if_neg hh, if_pos hc2]
      · simp (disch := omega) only [gd_true, nm_eq, jn_eq, bd1_s, bd2_s, bd3_s, bd4_s, bd5_s, bd6_s, bd7_s, bd8_s, bd9_s, bd10_s, bd11_s, bd12_s, nI_add, pk_mul, pk_subs, nI_m1s, ix_nIs, nI_clamps, nI_les, nI_lts, nI_eqs, bz_0, bz_1, nI_zero, eq_self, if_true, if_false, e1, e2, h2, ← hl, if_neg hh, if_neg hc2]
theorem sim_pass (hF : 100000000 ≤ Fu) (hW : WF A) (hM : A.sp ≤ M) (h : RV A se le he sa fa ge ns nf sp bo fi) (g : RS A s) (hH : HR M hs o z hv be) (p : Int32) :
    ∃ r B hs' o' z' hv' be' he' s', WF B ∧ B.sp ≤ M ∧ RV B se le he' sa fa ge ns nf sp bo fi ∧ RS B s' ∧ HR M hs' o' z' hv' be' ∧
      f_X3_pass Fu se le he sa fa ge ns nf sp bo fi hv (nI o) (nI z) p = some (r, he', hv', nI o', nI z') ∧ f_X4_pass Fu s be (nI z) p = some (r, s', be', nI z') := by
  have hw := hW.w
  unfold f_X3_pass f_X4_pass
  rw [isWithin_s, in4_s, bd1_s, bd1_s]
  by_cases hb : nI 1 ≤ p ∧ p ≤ nI 30
  · rw [if_pos hb, if_neg one_ne, if_neg one_ne]
    obtain ⟨d, hd1, hd2, rfl⟩ := rng hb (by omega) (by omega)
    have hc := hW.2.1.2.2.2
    obtain ⟨hs', o', z', hv', be', q1, q2, q3⟩ := rec_sim (by omega : 20000000 ≤ Fu) hW hM h g hH
    have h0 : RV (coolA A (d * A.se 2) 0) se le he sa fa ge ns nf sp bo fi := by rw [cool_0]; exact h
    have g0 : RS (coolA A (d * A.se 2) 0) s := by rw [cool_0]; exact g
    obtain ⟨he1, w1, w2⟩ := pass_L Fu hW hd2 hc rfl (h.rse (show 2 < 3 by omega)) Fu 0 he (Nat.zero_le _) h0 (by omega)
    obtain ⟨s1, v1, v2⟩ := pass4_L Fu hW hd2 hc rfl (g.rse (show 2 < 3 by omega)) Fu 0 s (Nat.zero_le _) g0 (by omega)
    have e1 := heatOfAll_s (by omega : 20000000 ≤ Fu) (hW.cool (d * A.se 2) A.wn) w1
    have e2 := allHeat_s (by omega : 20000000 ≤ Fu) (hW.cool (d * A.se 2) A.wn) v1
    refine ⟨heatR (coolA A (d * A.se 2) A.wn).he 0 (coolA A (d * A.se 2) A.wn).wn, coolA A (d * A.se 2) A.wn, hs', o', z', hv', be', he1, s1, hW.cool _ _, hM, w1, v1, q1, ?_, ?_⟩
    · rw [q2, bd3_s, jn_eq, w2, e1, bd1_s]
    · rw [q3, bd2_s, jn_eq, v2, e2, bd1_s]
  · rw [if_neg hb, if_pos zero_eq, if_pos zero_eq]
    exact ⟨-2, A, hs, o, z, hv, be, he, s, hW, hM, h, g, hH, rfl, rfl⟩
end CH
