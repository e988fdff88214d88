/-! PURE: what there is, both sides -/
section RQ3
variable {Fu : Nat} {A : Sh} {s : Ar}
def palN (le : FN) (lo n i : Nat) : Bool := decide (∀ j, j < i → le (lo + j) = le (lo + n - 1 - j))
theorem back_L (Fu : Nat) (k : Int32 → Option Int32) (hW : WF A) (h : RS A s) {K : Nat} (hK : K < A.ns) : ∀ (fu i : Nat), A.st K + i ≤ A.st (K + 1) → A.st (K + 1) - A.st K - i < fu → f_X4_isSameBackwards_L26 Fu k s (nI K) (nI (A.st K)) (nI (A.st (K + 1) - 1)) fu (if palN A.le (A.st K) (A.st (K + 1) - A.st K) i = true then nI 1 else nI 0) (nI i) = k (if palN A.le (A.st K) (A.st (K + 1) - A.st K) (A.st (K + 1) - A.st K) = true then nI 1 else nI 0) := by
  have hn := hW.n
  have hm := hW.1.2.2.1 K hK
  have hm2 := hW.1.le (show K + 1 ≤ A.ns by omega) (Nat.le_refl _)
  have hw' : A.st A.ns ≤ 150 := hW.w
  have e0 := h.rlo hK
  intro fu
  induction fu with
  | zero => intro i h1 h2; omega
  | succ fu ih =>
    intro i h1 h2
    rw [f_X4_isSameBackwards_L26_s]
    by_cases hh : A.st (K + 1) - A.st K ≤ i
    · have e : i = A.st (K + 1) - A.st K := by omega
      subst e
      simp (disch := omega) only [gd_true, nm_eq, jn_eq, bd1_s, bd2_s, bd3_s, bd4_s, bd5_s, bd6_s, bd7_s, bd8_s, bd9_s, bd10_s, bd11_s, bd12_s, nI_add, pk_mul, pk_subs, nI_m1s, ix_nIs, nI_clamps, nI_les, nI_lts, nI_eqs, bz_0, bz_1, nI_zero, eq_self, if_true, if_false, e0, if_pos (Nat.le_refl _)]
    · have hp : A.st K + i < A.wn := by unfold Sh.wn; omega
      have hq : A.st (K + 1) - 1 - i < A.wn := by unfold Sh.wn; omega
      have e1 := h.rle hp
      have e2 := h.rle hq
      have b1 := (hW.2.2 _ hp).1
      have b2 := (hW.2.2 _ hq).1
      have ea : 45 + A.st K + i = 45 + (A.st K + i) := by omega
      have eb : 45 + (A.st (K + 1) - 1) - i = 45 + (A.st (K + 1) - 1 - i) := by omega
      have ih' := ih (i + 1) (by omega) (by omega)
      by_cases hb : palN A.le (A.st K) (A.st (K + 1) - A.st K) i = true
      · rw [if_pos hb]
        by_cases hc : A.le (A.st K + i) = A.le (A.st (K + 1) - 1 - i)
        · have hb2 : palN A.le (A.st K) (A.st (K + 1) - A.st K) (i + 1) = true := by
            simp only [palN, decide_eq_true_eq] at hb ⊢
            intro j hj
            by_cases hji : j = i
            · rw [hji, show A.st K + (A.st (K + 1) - A.st K) - 1 - i = A.st (K + 1) - 1 - i by omega]; exact hc
            · exact hb j (by omega)
          rw [if_pos hb2] at ih'
          rw [← ih']
          simp (disch := omega) only [gd_true, nm_eq, jn_eq, bd1_s, bd2_s, bd3_s, bd4_s, bd5_s, bd6_s, bd7_s, bd8_s, bd9_s, bd10_s, bd11_s, bd12_s, nI_add, pk_mul, pk_subs, nI_m1s, ix_nIs, nI_clamps, nI_les, nI_lts, nI_eqs, bz_0, bz_1, nI_zero, eq_self, if_true, if_false, e0, if_neg hh, if_neg (show ¬ (1 : Nat) = 0 by decide), ea, eb, e1, e2, if_pos hc]
        · have hb2 : ¬ palN A.le (A.st K) (A.st (K + 1) - A.st K) (i + 1) = true := by
            simp only [palN, decide_eq_true_eq]
            intro z
            have := z i (by omega)
            rw [show A.st K + (A.st (K + 1) - A.st K) - 1 - i = A.st (K + 1) - 1 - i by omega] at this
            exact hc this
          rw [if_neg hb2] at ih'
          rw [← ih']
          simp (disch := omega) only [gd_true, nm_eq, jn_eq, bd1_s, bd2_s, bd3_s, bd4_s, bd5_s, bd6_s, bd7_s, bd8_s, bd9_s, bd10_s, bd11_s, bd12_s, nI_add, pk_mul, pk_subs, nI_m1s, ix_nIs, nI_clamps, nI_les, nI_lts, nI_eqs, bz_0, bz_1, nI_zero, eq_self, if_true, if_false, e0, if_neg hh, if_neg (show ¬ (1 : Nat) = 0 by decide), ea, eb, e1, e2, if_neg hc]
      · have hb2 : ¬ palN A.le (A.st K) (A.st (K + 1) - A.st K) (i + 1) = true := by
          simp only [palN, decide_eq_true_eq] at hb ⊢
          intro z
          exact hb (fun j hj => z j (by omega))
        rw [if_neg hb]
        rw [if_neg hb2] at ih'
        rw [← ih']
        simp (disch := omega) only [gd_true, nm_eq, jn_eq, bd1_s, bd2_s, bd3_s, bd4_s, bd5_s, bd6_s, bd7_s, bd8_s, bd9_s, bd10_s, bd11_s, bd12_s, nI_add, pk_mul, pk_subs, nI_m1s, ix_nIs, nI_clamps, nI_les, nI_lts, nI_eqs, bz_0, bz_1, nI_zero, eq_self, if_true, if_false, e0, if_neg hh]
theorem back_s (hF : 20000000 ≤ Fu) (hW : WF A) (h : RS A s) {K : Nat} (hK : K < A.ns) : f_X4_isSameBackwards Fu s (nI K) = some (if palB A.le (A.st K) (A.st (K + 1) - A.st K) = true then nI 1 else nI 0) := by
  have hn := hW.n
  have hm := hW.1.2.2.1 K hK
  have hm2 := hW.1.le (show K + 1 ≤ A.ns by omega) (Nat.le_refl _)
  have hw' : A.st A.ns ≤ 150 := hW.w
  have e0 := h.rlo hK
  have e9 := first_r hF hW h (show K ≤ A.ns by omega)
  have ev : A.st K + (A.st (K + 1) - A.st K) - 1 = A.st (K + 1) - 1 := by omega
  have hb0 : palN A.le (A.st K) (A.st (K + 1) - A.st K) 0 = true := by
    simp only [palN, decide_eq_true_eq]
    intro j hj
    omega
  unfold f_X4_isSameBackwards
  rw [e9, bd1_s, nI_add, ix_nIs (by omega) (by omega), gd_true, nI_clamps (by omega), e0, nI_add, pk_subs (by omega), ev, nm_eq, jn_eq]
  have e := back_L Fu (fun v15 => nm (if v15 = 0 then nI 0 else nI 1) fun v17 => some v17) hW h hK Fu 0 (by omega) (by omega)
  rw [if_pos hb0] at e
  rw [e]
  have : palN A.le (A.st K) (A.st (K + 1) - A.st K) (A.st (K + 1) - A.st K) = palB A.le (A.st K) (A.st (K + 1) - A.st K) := rfl
  rw [this, nm_eq]
  by_cases hp : palB A.le (A.st K) (A.st (K + 1) - A.st K) = true
  · rw [if_pos hp]; rfl
  · rw [if_neg hp]; rfl
def newN (fa : Ar) (k i : Nat) : Bool := decide (∀ o, o < i → ¬ fa o = fa k)
theorem fam_in_L (Fu : Nat) (k : Int32 → Option Int32) (hW : WF A) (h : RS A s) {K : Nat} (hK : K < A.ns) : ∀ (fu i : Nat), i ≤ K → K - i < fu → f_X4_families_L19 Fu k s (nI K) fu (if newN A.fa K i = true then nI 1 else nI 0) (nI i) = k (if newN A.fa K K = true then nI 1 else nI 0) := by
  have hn := hW.n
  intro fu
  induction fu with
  | zero => intro i h1 h2; omega
  | succ fu ih =>
    intro i h1 h2
    rw [f_X4_families_L19_s]
    by_cases hh : K ≤ i
    · have e : i = K := by omega
      subst e
      simp (disch := omega) only [gd_true, nm_eq, jn_eq, bd1_s, bd2_s, bd3_s, bd4_s, bd5_s, bd6_s, bd7_s, bd8_s, bd9_s, bd10_s, bd11_s, bd12_s, nI_add, pk_mul, pk_subs, nI_m1s, ix_nIs, nI_clamps, nI_les, nI_lts, nI_eqs, bz_0, bz_1, nI_zero, eq_self, if_true, if_false, if_pos (Nat.le_refl _)]
    · have e1 := h.rfa (show i < A.ns by omega)
      have e2 := h.rfa hK
      have ih' := ih (i + 1) (by omega) (by omega)
      by_cases hb : newN A.fa K i = true
      · rw [if_pos hb]
        by_cases hc : A.fa i = A.fa K
        · have hb2 : ¬ newN A.fa K (i + 1) = true := by
            simp only [newN, decide_eq_true_eq]
            intro z
            exact z i (by omega) hc
          rw [if_neg hb2] at ih'
          rw [← ih']
          simp (disch := omega) only [gd_true, nm_eq, jn_eq, bd1_s, bd2_s, bd3_s, bd4_s, bd5_s, bd6_s, bd7_s, bd8_s, bd9_s, bd10_s, bd11_s, bd12_s, nI_add, pk_mul, pk_subs, nI_m1s, ix_nIs, nI_clamps, nI_les, nI_lts, nI_eqs, bz_0, bz_1, nI_zero, eq_self, if_true, if_false, if_neg hh, if_neg (show ¬ (1 : Nat) = 0 by decide), e1, e2, if_pos hc]
        · have hb2 : newN A.fa K (i + 1) = true := by
            simp only [newN, decide_eq_true_eq] at hb ⊢
            intro j hj
            by_cases hji : j = i
            · rw [hji]; exact hc
            · exact hb j (by omega)
          rw [if_pos hb2] at ih'
          rw [← ih']
          simp (disch := omega) only [gd_true, nm_eq, jn_eq, bd1_s, bd2_s, bd3_s, bd4_s, bd5_s, bd6_s, bd7_s, bd8_s, bd9_s, bd10_s, bd11_s, bd12_s, nI_add, pk_mul, pk_subs, nI_m1s, ix_nIs, nI_clamps, nI_les, nI_lts, nI_eqs, bz_0, bz_1, nI_zero, eq_self, if_true, if_false, if_neg hh, if_neg (show ¬ (1 : Nat) = 0 by decide), e1, e2, if_neg hc]
      · have hb2 : ¬ newN A.fa K (i + 1) = true := by
          simp only [newN, decide_eq_true_eq] at hb ⊢
          intro z
          exact hb (fun j hj => z j (by omega))
        rw [if_neg hb]
        rw [if_neg hb2] at ih'
        rw [← ih']
        simp (disch := omega) only [gd_true, nm_eq, jn_eq, bd1_s, bd2_s, bd3_s, bd4_s, bd5_s, bd6_s, bd7_s, bd8_s, bd9_s, bd10_s, bd11_s, bd12_s, nI_add, pk_mul, pk_subs, nI_m1s, ix_nIs, nI_clamps, nI_les, nI_lts, nI_eqs, bz_0, bz_1, nI_zero, eq_self, if_true, if_false, if_neg hh]
theorem fam_L (Fu : Nat) (hF : 20000000 ≤ Fu) (k : Int32 → Option Int32) (hW : WF A) (h : RS A s) : ∀ (fu i : Nat) (a : Int32), i ≤ A.ns → A.ns - i < fu → f_X4_families_L4 Fu k s fu a (nI i) = k (itF (fun k a => a + (if newF A.fa k = true then nI 1 else nI 0)) i (A.ns - i) a) := by
  have hn := hW.n
  have e0 := h.rns
  intro fu
  induction fu with
  | zero => intro i a h1 h2; omega
  | succ fu ih =>
    intro i a h1 h2
    rw [f_X4_families_L4_s]
    by_cases hh : A.ns ≤ i
    · have e : A.ns - i = 0 := by omega
      rw [e, itF_0]
      simp (disch := omega) only [gd_true, nm_eq, jn_eq, bd1_s, bd2_s, bd3_s, bd4_s, bd5_s, bd6_s, bd7_s, bd8_s, bd9_s, bd10_s, bd11_s, bd12_s, nI_add, pk_mul, pk_subs, nI_m1s, ix_nIs, nI_clamps, nI_les, nI_lts, nI_eqs, bz_0, bz_1, nI_zero, eq_self, if_true, if_false, e0, if_pos]
    · have e : A.ns - i = (A.ns - (i + 1)) + 1 := by omega
      have hb0 : newN A.fa i 0 = true := by
        simp only [newN, decide_eq_true_eq]
        intro j hj
        omega
      rw [e, itF_s, ← ih (i + 1) _ (by omega) (by omega), e0, if_neg (show ¬ nI A.ns ≤ nI i by rw [nI_les (by omega) (by omega)]; exact hh), jn_eq]
      have e2 := fam_in_L Fu (fun v13 => nm (if v13 = 0 then nI 0 else nI 1) fun v15 => f_X4_families_L4 Fu k s fu (a + v15) (nI i + nI 1)) hW h (show i < A.ns by omega) Fu 0 (Nat.zero_le _) (by omega)
      rw [if_pos hb0] at e2
      rw [e2]
      have : newN A.fa i i = newF A.fa i := rfl
      rw [this, nm_eq]
      by_cases hp : newF A.fa i = true
      · rw [if_pos hp, if_neg (show ¬ nI 1 = (0 : Int32) by decide), nI_add]
      · rw [if_neg hp, if_pos (show nI 0 = (0 : Int32) from nI_0), nI_add]
theorem fam_s (hF : 20000000 ≤ Fu) (hW : WF A) (h : RS A s) : f_X4_families Fu s = some (famR A.fa A.ns) := by
  have hn := hW.n
  unfold f_X4_families
  rw [jn_eq, fam_L Fu hF _ hW h Fu 0 _ (Nat.zero_le _) (by omega)]
  rfl
theorem great_L (Fu : Nat) (k : Int32 → Option Int32) (hW : WF A) (h : RS A s) : ∀ (fu i : Nat) (a : Int32), i ≤ A.ns → A.ns - i < fu → f_X4_greatest_L5 Fu k s fu a (nI i) = k (itF (fun k a => if A.ge k ≤ a then a else A.ge k) i (A.ns - i) a) := by
  have hn := hW.n
  have e0 := h.rns
  intro fu
  induction fu with
  | zero => intro i a h1 h2; omega
  | succ fu ih =>
    intro i a h1 h2
    rw [f_X4_greatest_L5_s]
    by_cases hh : A.ns ≤ i
    · have e : A.ns - i = 0 := by omega
      rw [e, itF_0]
      simp (disch := omega) only [gd_true, nm_eq, jn_eq, bd1_s, bd2_s, bd3_s, bd4_s, bd5_s, bd6_s, bd7_s, bd8_s, bd9_s, bd10_s, bd11_s, bd12_s, nI_add, pk_mul, pk_subs, nI_m1s, ix_nIs, nI_clamps, nI_les, nI_lts, nI_eqs, bz_0, bz_1, nI_zero, eq_self, if_true, if_false, e0, if_pos]
    · have e : A.ns - i = (A.ns - (i + 1)) + 1 := by omega
      have e1 := h.rge (show i < A.ns by omega)
      rw [e, itF_s, ← ih (i + 1) _ (by omega) (by omega)]
      by_cases hq : A.ge i ≤ a
      · rw [if_pos hq]
        simp (disch := omega) only [gd_true, nm_eq, jn_eq, bd1_s, bd2_s, bd3_s, bd4_s, bd5_s, bd6_s, bd7_s, bd8_s, bd9_s, bd10_s, bd11_s, bd12_s, nI_add, pk_mul, pk_subs, nI_m1s, ix_nIs, nI_clamps, nI_les, nI_lts, nI_eqs, bz_0, bz_1, nI_zero, eq_self, if_true, if_false, e0, e1, if_neg hh, if_pos hq]
      · rw [if_neg hq]
        simp (disch := omega) only [gd_true, nm_eq, jn_eq, bd1_s, bd2_s, bd3_s, bd4_s, bd5_s, bd6_s, bd7_s, bd8_s, bd9_s, bd10_s, bd11_s, bd12_s, nI_add, pk_mul, pk_subs, nI_m1s, ix_nIs, nI_clamps, nI_les, nI_lts, nI_eqs, bz_0, bz_1, nI_zero, eq_self, if_true, if_false, e0, e1, if_neg hh, if_neg hq]
theorem great_s (hF : 20000000 ≤ Fu) (hW : WF A) (h : RS A s) : f_X4_greatest Fu s = some (grR A.ge A.ns) := by
  have hn := hW.n
  unfold f_X4_greatest
  rw [jn_eq, great_L Fu _ hW h Fu 0 _ (Nat.zero_le _) (by omega)]
  rfl
theorem let27_0 (Fu : Nat) (k : Int32 → Option Int32) (hW : WF A) (h : RS A s) {c : Nat} (hc : c < 26) : ∀ (fu i : Nat) (a : Int32), i ≤ A.wn → A.wn - i < fu → f_X4_letter_L27 Fu k s (nI c) (nI 0) fu a (nI i) = k (itF (fun p a => a + (if A.le p = c then nI 1 else nI 0)) i (A.wn - i) a) := by
  have hw := hW.w
  have e0 := h.rwn
  intro fu
  induction fu with
  | zero => intro i a h1 h2; omega
  | succ fu ih =>
    intro i a h1 h2
    rw [f_X4_letter_L27_s]
    by_cases hh : A.wn ≤ i
    · have e : A.wn - i = 0 := by omega
      rw [e, itF_0]
      simp (disch := omega) only [gd_true, nm_eq, jn_eq, bd1_s, bd2_s, bd3_s, bd4_s, bd5_s, bd6_s, bd7_s, bd8_s, bd9_s, bd10_s, bd11_s, bd12_s, nI_add, pk_mul, pk_subs, nI_m1s, ix_nIs, nI_clamps, nI_les, nI_lts, nI_eqs, bz_0, bz_1, nI_zero, eq_self, if_true, if_false, e0, if_pos]
    · have e : A.wn - i = (A.wn - (i + 1)) + 1 := by omega
      have hp : i < A.wn := by omega
      have e1 := h.rle hp
      have e3 := (hW.2.2 i hp).1
      rw [e, itF_s, ← ih (i + 1) _ (by omega) (by omega)]
      by_cases hq : A.le i = c
      · rw [if_pos hq]
        simp (disch := omega) only [gd_true, nm_eq, jn_eq, bd1_s, bd2_s, bd3_s, bd4_s, bd5_s, bd6_s, bd7_s, bd8_s, bd9_s, bd10_s, bd11_s, bd12_s, nI_add, pk_mul, pk_subs, nI_m1s, ix_nIs, nI_clamps, nI_les, nI_lts, nI_eqs, bz_0, bz_1, nI_zero, eq_self, if_true, if_false, e0, e1, if_neg hh, if_pos hq]
      · rw [if_neg hq]
        simp (disch := omega) only [gd_true, nm_eq, jn_eq, bd1_s, bd2_s, bd3_s, bd4_s, bd5_s, bd6_s, bd7_s, bd8_s, bd9_s, bd10_s, bd11_s, bd12_s, nI_add, pk_mul, pk_subs, nI_m1s, ix_nIs, nI_clamps, nI_les, nI_lts, nI_eqs, bz_0, bz_1, nI_zero, eq_self, if_true, if_false, e0, e1, if_neg hh, if_neg hq]
theorem let27_3 (Fu : Nat) (k : Int32 → Option Int32) (hW : WF A) (h : RS A s) {c : Nat} (hc : c < 26) : ∀ (fu i : Nat) (a : Int32), i ≤ A.wn → A.wn - i < fu → f_X4_letter_L27 Fu k s (nI c) (nI 3) fu a (nI i) = k (itF (fun p a => a + (if A.le p = c then nI (A.he p) else nI 0)) i (A.wn - i) a) := by
  have hw := hW.w
  have e0 := h.rwn
  intro fu
  induction fu with
  | zero => intro i a h1 h2; omega
  | succ fu ih =>
    intro i a h1 h2
    rw [f_X4_letter_L27_s]
    by_cases hh : A.wn ≤ i
    · have e : A.wn - i = 0 := by omega
      rw [e, itF_0]
      simp (disch := omega) only [gd_true, nm_eq, jn_eq, bd1_s, bd2_s, bd3_s, bd4_s, bd5_s, bd6_s, bd7_s, bd8_s, bd9_s, bd10_s, bd11_s, bd12_s, nI_add, pk_mul, pk_subs, nI_m1s, ix_nIs, nI_clamps, nI_les, nI_lts, nI_eqs, bz_0, bz_1, nI_zero, eq_self, if_true, if_false, e0, if_pos]
    · have e : A.wn - i = (A.wn - (i + 1)) + 1 := by omega
      have hp : i < A.wn := by omega
      have e1 := h.rle hp
      have e2 := h.rhe hp
      have e3 := (hW.2.2 i hp).1
      rw [e, itF_s, ← ih (i + 1) _ (by omega) (by omega)]
      by_cases hq : A.le i = c
      · rw [if_pos hq]
        simp (disch := omega) only [gd_true, nm_eq, jn_eq, bd1_s, bd2_s, bd3_s, bd4_s, bd5_s, bd6_s, bd7_s, bd8_s, bd9_s, bd10_s, bd11_s, bd12_s, nI_add, pk_mul, pk_subs, nI_m1s, ix_nIs, nI_clamps, nI_les, nI_lts, nI_eqs, bz_0, bz_1, nI_zero, eq_self, if_true, if_false, e0, e1, e2, if_neg hh, if_pos hq, if_neg (show ¬ (3 : Nat) = 0 by decide)]
      · rw [if_neg hq]
        simp (disch := omega) only [gd_true, nm_eq, jn_eq, bd1_s, bd2_s, bd3_s, bd4_s, bd5_s, bd6_s, bd7_s, bd8_s, bd9_s, bd10_s, bd11_s, bd12_s, nI_add, pk_mul, pk_subs, nI_m1s, ix_nIs, nI_clamps, nI_les, nI_lts, nI_eqs, bz_0, bz_1, nI_zero, eq_self, if_true, if_false, e0, e1, e2, if_neg hh, if_neg hq, if_neg (show ¬ (3 : Nat) = 0 by decide)]
theorem let27_x (Fu : Nat) (k : Int32 → Option Int32) (hW : WF A) (h : RS A s) {c w : Nat} (hw : w = 1 ∨ w = 2) (fu : Nat) (a : Int32) : f_X4_letter_L27 Fu k s (nI c) (nI w) (fu + 1) a (nI 0) = k a := by
  have hw' := hW.w
  have e0 := h.rwn
  rw [f_X4_letter_L27_s]
  by_cases hh : A.wn ≤ 0
  · simp (disch := omega) only [gd_true, nm_eq, jn_eq, bd1_s, bd2_s, bd3_s, bd4_s, bd5_s, bd6_s, bd7_s, bd8_s, bd9_s, bd10_s, bd11_s, bd12_s, nI_add, pk_mul, pk_subs, nI_m1s, ix_nIs, nI_clamps, nI_les, nI_lts, nI_eqs, bz_0, bz_1, nI_zero, eq_self, if_true, if_false, e0, if_pos hh]
  · rcases hw with rfl | rfl
    · simp (disch := omega) only [gd_true, nm_eq, jn_eq, bd1_s, bd2_s, bd3_s, bd4_s, bd5_s, bd6_s, bd7_s, bd8_s, bd9_s, bd10_s, bd11_s, bd12_s, nI_add, pk_mul, pk_subs, nI_m1s, ix_nIs, nI_clamps, nI_les, nI_lts, nI_eqs, bz_0, bz_1, nI_zero, eq_self, if_true, if_false, e0, if_neg hh, if_neg (show ¬ (1 : Nat) = 0 by decide), if_neg (show ¬ (1 : Nat) = 3 by decide)]
    · simp (disch := omega) only [gd_true, nm_eq, jn_eq, bd1_s, bd2_s, bd3_s, bd4_s, bd5_s, bd6_s, bd7_s, bd8_s, bd9_s, bd10_s, bd11_s, bd12_s, nI_add, pk_mul, pk_subs, nI_m1s, ix_nIs, nI_clamps, nI_les, nI_lts, nI_eqs, bz_0, bz_1, nI_zero, eq_self, if_true, if_false, e0, if_neg hh, if_neg (show ¬ (2 : Nat) = 0 by decide), if_neg (show ¬ (2 : Nat) = 3 by decide)]
theorem let96_x (Fu : Nat) (k : Int32 → Option Int32) (hW : WF A) (h : RS A s) {c w : Nat} (hw : w = 0 ∨ w = 3) (fu : Nat) (a : Int32) : f_X4_letter_L96 Fu k s (nI c) (nI w) (fu + 1) a (nI 0) = k a := by
  have hn := hW.n
  have e0 := h.rns
  rw [f_X4_letter_L96_s]
  by_cases hh : A.ns ≤ 0
  · simp (disch := omega) only [gd_true, nm_eq, jn_eq, bd1_s, bd2_s, bd3_s, bd4_s, bd5_s, bd6_s, bd7_s, bd8_s, bd9_s, bd10_s, bd11_s, bd12_s, nI_add, pk_mul, pk_subs, nI_m1s, ix_nIs, nI_clamps, nI_les, nI_lts, nI_eqs, bz_0, bz_1, nI_zero, eq_self, if_true, if_false, e0, if_pos hh]
  · rcases hw with rfl | rfl
    · simp (disch := omega) only [gd_true, nm_eq, jn_eq, bd1_s, bd2_s, bd3_s, bd4_s, bd5_s, bd6_s, bd7_s, bd8_s, bd9_s, bd10_s, bd11_s, bd12_s, nI_add, pk_mul, pk_subs, nI_m1s, ix_nIs, nI_clamps, nI_les, nI_lts, nI_eqs, bz_0, bz_1, nI_zero, eq_self, if_true, if_false, e0, if_neg hh, if_neg (show ¬ (0 : Nat) = 1 by decide), if_neg (show ¬ (0 : Nat) = 2 by decide)]
    · simp (disch := omega) only [gd_true, nm_eq, jn_eq, bd1_s, bd2_s, bd3_s, bd4_s, bd5_s, bd6_s, bd7_s, bd8_s, bd9_s, bd10_s, bd11_s, bd12_s, nI_add, pk_mul, pk_subs, nI_m1s, ix_nIs, nI_clamps, nI_les, nI_lts, nI_eqs, bz_0, bz_1, nI_zero, eq_self, if_true, if_false, e0, if_neg hh, if_neg (show ¬ (3 : Nat) = 1 by decide), if_neg (show ¬ (3 : Nat) = 2 by decide)]
theorem let96_1 (Fu : Nat) (hF : 20000000 ≤ Fu) (k : Int32 → Option Int32) (hW : WF A) (h : RS A s) {c : Nat} (hc : c < 26) : ∀ (fu i : Nat) (a : Int32), i ≤ A.ns → A.ns - i < fu → f_X4_letter_L96 Fu k s (nI c) (nI 1) fu a (nI i) = k (itF (fun k a => a + (if taR A k c ≤ nI 0 then nI 0 else nI 1)) i (A.ns - i) a) := by
  have hn := hW.n
  have e0 := h.rns
  intro fu
  induction fu with
  | zero => intro i a h1 h2; omega
  | succ fu ih =>
    intro i a h1 h2
    rw [f_X4_letter_L96_s]
    by_cases hh : A.ns ≤ i
    · have e : A.ns - i = 0 := by omega
      rw [e, itF_0]
      simp (disch := omega) only [gd_true, nm_eq, jn_eq, bd1_s, bd2_s, bd3_s, bd4_s, bd5_s, bd6_s, bd7_s, bd8_s, bd9_s, bd10_s, bd11_s, bd12_s, nI_add, pk_mul, pk_subs, nI_m1s, ix_nIs, nI_clamps, nI_les, nI_lts, nI_eqs, bz_0, bz_1, nI_zero, eq_self, if_true, if_false, e0, if_pos]
    · have e : A.ns - i = (A.ns - (i + 1)) + 1 := by omega
      have e1 := times_s hF hW h (show i < A.ns by omega) hc
      rw [e, itF_s, ← ih (i + 1) _ (by omega) (by omega)]
      by_cases hq : taR A i c ≤ nI 0
      · rw [if_pos hq]
        simp (disch := omega) only [gd_true, nm_eq, jn_eq, bd1_s, bd2_s, bd3_s, bd4_s, bd5_s, bd6_s, bd7_s, bd8_s, bd9_s, bd10_s, bd11_s, bd12_s, nI_add, pk_mul, pk_subs, nI_m1s, ix_nIs, nI_clamps, nI_les, nI_lts, nI_eqs, bz_0, bz_1, nI_zero, eq_self, if_true, if_false, e0, e1, if_neg hh, if_pos hq]
      · rw [if_neg hq]
        simp (disch := omega) only [gd_true, nm_eq, jn_eq, bd1_s, bd2_s, bd3_s, bd4_s, bd5_s, bd6_s, bd7_s, bd8_s, bd9_s, bd10_s, bd11_s, bd12_s, nI_add, pk_mul, pk_subs, nI_m1s, ix_nIs, nI_clamps, nI_les, nI_lts, nI_eqs, bz_0, bz_1, nI_zero, eq_self, if_true, if_false, e0, e1, if_neg hh, if_neg hq]
theorem let96_2 (Fu : Nat) (hF : 20000000 ≤ Fu) (k : Int32 → Option Int32) (hW : WF A) (h : RS A s) {c : Nat} (hc : c < 26) : ∀ (fu i : Nat) (a : Int32), i ≤ A.ns → A.ns - i < fu → f_X4_letter_L96 Fu k s (nI c) (nI 2) fu a (nI i) = k (itF (fun k a => a + (if thR (taR A k) = c then nI 1 else nI 0)) i (A.ns - i) a) := by
  have hn := hW.n
  have e0 := h.rns
  intro fu
  induction fu with
  | zero => intro i a h1 h2; omega
  | succ fu ih =>
    intro i a h1 h2
    rw [f_X4_letter_L96_s]
    by_cases hh : A.ns ≤ i
    · have e : A.ns - i = 0 := by omega
      rw [e, itF_0]
      simp (disch := omega) only [gd_true, nm_eq, jn_eq, bd1_s, bd2_s, bd3_s, bd4_s, bd5_s, bd6_s, bd7_s, bd8_s, bd9_s, bd10_s, bd11_s, bd12_s, nI_add, pk_mul, pk_subs, nI_m1s, ix_nIs, nI_clamps, nI_les, nI_lts, nI_eqs, bz_0, bz_1, nI_zero, eq_self, if_true, if_false, e0, if_pos]
    · have e : A.ns - i = (A.ns - (i + 1)) + 1 := by omega
      have e1 := theme_s hF hW h (show i < A.ns by omega)
      have e2 := thR_lt (taR A i)
      rw [e, itF_s, ← ih (i + 1) _ (by omega) (by omega)]
      by_cases hq : thR (taR A i) = c
      · rw [if_pos hq]
        simp (disch := omega) only [gd_true, nm_eq, jn_eq, bd1_s, bd2_s, bd3_s, bd4_s, bd5_s, bd6_s, bd7_s, bd8_s, bd9_s, bd10_s, bd11_s, bd12_s, nI_add, pk_mul, pk_subs, nI_m1s, ix_nIs, nI_clamps, nI_les, nI_lts, nI_eqs, bz_0, bz_1, nI_zero, eq_self, if_true, if_false, e0, e1, if_neg hh, if_pos hq, if_neg (show ¬ (2 : Nat) = 1 by decide)]
      · rw [if_neg hq]
        simp (disch := omega) only [gd_true, nm_eq, jn_eq, bd1_s, bd2_s, bd3_s, bd4_s, bd5_s, bd6_s, bd7_s, bd8_s, bd9_s, bd10_s, bd11_s, bd12_s, nI_add, pk_mul, pk_subs, nI_m1s, ix_nIs, nI_clamps, nI_les, nI_lts, nI_eqs, bz_0, bz_1, nI_zero, eq_self, if_true, if_false, e0, e1, if_neg hh, if_neg hq, if_neg (show ¬ (2 : Nat) = 1 by decide)]
end RQ3
section SIMQ
variable {Fu : Nat} {A : Sh} {se le he sa fa ge : Ar} {ns nf sp bo fi : Int32} {s : Ar}
theorem one_ne : ¬ nI 1 = (0 : Int32) := by decide
theorem zero_eq : nI 0 = (0 : Int32) := nI_0
theorem within_n {n : Nat} {p : Int32} (hn : n < 99999) : (if nI 0 ≤ p ∧ p ≤ nI n then nI 1 else nI 0) = (if isS (n + 1) p = true then nI 1 else nI 0) := by
  have := within_isS (n := n + 1) (p := p) (by omega)
  rwa [pk_subs (show 1 ≤ n + 1 from Nat.le_add_left 1 n), Nat.add_sub_cancel] at this
theorem sim_word (hF : 20000000 ≤ Fu) (hW : WF A) (h : RV A se le he sa fa ge ns nf sp bo fi) (g : RS A s) (p q w : Int32) : ∃ r, f_X3_word Fu le he sa ns p q w = some r ∧ f_X4_word Fu s p q w = some r := by
  have hn := hW.n
  have a1 := hasWord_s Fu hW.1 (fun k hk => h.rsa hk) p q
  have a2 := isWord_s Fu hW.1 g.rns (fun k hk => g.rlo hk) p q
  rw [← h.rns] at a1
  unfold f_X3_word f_X4_word
  rw [a1, a2, bd1_s, bd1_s]
  by_cases hq : isW A.ns A.st p q = true
  · rw [if_pos hq, if_neg one_ne, if_neg one_ne]
    obtain ⟨k, j, hk, hj, rfl, rfl⟩ := isW_t hq hW.1
    have hm2 := hW.1.le (show k + 1 ≤ A.ns by omega) (Nat.le_refl _)
    have hw' : A.st A.ns ≤ 150 := hW.w
    have hp : A.st k + j < A.wn := by unfold Sh.wn; omega
    have e1 := h.rsa (show k ≤ A.ns by omega)
    have e2 := h.rle hp
    have e3 := h.rhe hp
    have e4 := g.rle hp
    have e5 := g.rhe hp
    have b1 := (hW.2.2 _ hp).1
    have e6 := first_r hF hW g (show k ≤ A.ns by omega)
    have e7 := timesIn_s hF hW h (show A.le (A.st k + j) < 1000 by omega) hk
    have e8 := times_s hF hW g hk b1
    by_cases w0 : w = nI 0
    · subst w0
      refine ⟨nI (A.le (A.st k + j)), ?_, ?_⟩
      · simp (disch := omega) only [gd_true, nm_eq, jn_eq, bd1_s, bd2_s, bd3_s, bd4_s, bd5_s, bd6_s, bd7_s, bd8_s, bd9_s, bd10_s, bd11_s, bd12_s, nI_add, pk_mul, pk_subs, nI_m1s, ix_nIs, nI_clamps, nI_les, nI_lts, nI_eqs, bz_0, bz_1, nI_zero, eq_self, if_true, if_false, e1, e2]
      · simp (disch := omega) only [gd_true, nm_eq, jn_eq, bd1_s, bd2_s, bd3_s, bd4_s, bd5_s, bd6_s, bd7_s, bd8_s, bd9_s, bd10_s, bd11_s, bd12_s, nI_add, pk_mul, pk_subs, nI_m1s, ix_nIs, nI_clamps, nI_les, nI_lts, nI_eqs, bz_0, bz_1, nI_zero, eq_self, if_true, if_false, e6, e4]
    · by_cases w1 : w = nI 1
      · subst w1
        refine ⟨nI (A.he (A.st k + j)), ?_, ?_⟩
        · simp (disch := omega) only [gd_true, nm_eq, jn_eq, bd1_s, bd2_s, bd3_s, bd4_s, bd5_s, bd6_s, bd7_s, bd8_s, bd9_s, bd10_s, bd11_s, bd12_s, nI_add, pk_mul, pk_subs, nI_m1s, ix_nIs, nI_clamps, nI_les, nI_lts, nI_eqs, bz_0, bz_1, nI_zero, eq_self, if_true, if_false, e1, e3, if_neg (show ¬ (1 : Nat) = 0 by decide)]
        · simp (disch := omega) only [gd_true, nm_eq, jn_eq, bd1_s, bd2_s, bd3_s, bd4_s, bd5_s, bd6_s, bd7_s, bd8_s, bd9_s, bd10_s, bd11_s, bd12_s, nI_add, pk_mul, pk_subs, nI_m1s, ix_nIs, nI_clamps, nI_les, nI_lts, nI_eqs, bz_0, bz_1, nI_zero, eq_self, if_true, if_false, e6, e5, if_neg (show ¬ (1 : Nat) = 0 by decide)]
      · by_cases w2 : w = nI 2
        · subst w2
          refine ⟨taR A k (A.le (A.st k + j)), ?_, ?_⟩
          · simp (disch := omega) only [gd_true, nm_eq, jn_eq, bd1_s, bd2_s, bd3_s, bd4_s, bd5_s, bd6_s, bd7_s, bd8_s, bd9_s, bd10_s, bd11_s, bd12_s, nI_add, pk_mul, pk_subs, nI_m1s, ix_nIs, nI_clamps, nI_les, nI_lts, nI_eqs, bz_0, bz_1, nI_zero, eq_self, if_true, if_false, e1, e2, e7, if_neg (show ¬ (2 : Nat) = 0 by decide), if_neg (show ¬ (2 : Nat) = 1 by decide)]
            rfl
          · simp (disch := omega) only [gd_true, nm_eq, jn_eq, bd1_s, bd2_s, bd3_s, bd4_s, bd5_s, bd6_s, bd7_s, bd8_s, bd9_s, bd10_s, bd11_s, bd12_s, nI_add, pk_mul, pk_subs, nI_m1s, ix_nIs, nI_clamps, nI_les, nI_lts, nI_eqs, bz_0, bz_1, nI_zero, eq_self, if_true, if_false, e6, e4, e8, if_neg (show ¬ (2 : Nat) = 0 by decide), if_neg (show ¬ (2 : Nat) = 1 by decide)]
        · refine ⟨-2, ?_, ?_⟩
          · simp (disch := omega) only [gd_true, nm_eq, jn_eq, bd1_s, bd2_s, bd3_s, bd4_s, bd5_s, bd6_s, bd7_s, bd8_s, bd9_s, bd10_s, bd11_s, bd12_s, nI_add, pk_mul, pk_subs, nI_m1s, ix_nIs, nI_clamps, nI_les, nI_lts, nI_eqs, bz_0, bz_1, nI_zero, eq_self, if_true, if_false, e1, if_neg w0, if_neg w1, if_neg w2]
          · simp (disch := omega) only [gd_true, nm_eq, jn_eq, bd1_s, bd2_s, bd3_s, bd4_s, bd5_s, bd6_s, bd7_s, bd8_s, bd9_s, bd10_s, bd11_s, bd12_s, nI_add, pk_mul, pk_subs, nI_m1s, ix_nIs, nI_clamps, nI_les, nI_lts, nI_eqs, bz_0, bz_1, nI_zero, eq_self, if_true, if_false, e6, if_neg w0, if_neg w1, if_neg w2]
  · rw [if_neg hq, if_pos zero_eq, if_pos zero_eq]
    exact ⟨-1, rfl, rfl⟩
theorem sim_letter (hF : 20000000 ≤ Fu) (hW : WF A) (h : RV A se le he sa fa ge ns nf sp bo fi) (g : RS A s) (t : Ar) (p w : Int32) : ∃ r t', f_X3_letter Fu le he sa t ns p w = some (r, t') ∧ f_X4_letter Fu s p w = some r := by
  unfold f_X3_letter f_X4_letter f_X3_isLetter
  rw [isWithin_s, in4_s, in4_s, within_n (n := 25) (by omega), within_n (n := 3) (by omega), bd1_s, bz_if, gd_true, bd1_s, bd1_s]
  by_cases hq : isS (25 + 1) p = true
  · rw [if_pos hq, if_neg one_ne, if_neg one_ne]
    obtain ⟨c, hc, rfl⟩ := isS_t hq (by omega)
    have hc : c < 26 := hc
    rw [bd1_s, nm_eq]
    obtain ⟨F1, rfl⟩ : ∃ F1, Fu = F1 + 1 := ⟨Fu - 1, by omega⟩
    by_cases w0 : w = nI 0
    · subst w0
      refine ⟨cntR A.le 0 A.wn c, t, ?_, ?_⟩
      · rw [if_pos rfl, timesInAll_s hF hW h (show c < 1000 by omega), bd1_s]
      · rw [if_pos (show isS (3 + 1) (nI 0) = true by decide), if_neg one_ne, jn_eq, let27_0 _ _ hW g hc _ 0 _ (Nat.zero_le _) (by have := hW.w; omega), jn_eq, let96_x _ _ hW g (Or.inl rfl)]
        rfl
    · by_cases w1 : w = nI 1
      · subst w1
        refine ⟨withR A c, t, ?_, ?_⟩
        · rw [if_neg (by decide), if_pos rfl, with_s hF hW h hc, bd1_s]
        · rw [if_pos (show isS (3 + 1) (nI 1) = true by decide), if_neg one_ne, jn_eq, let27_x _ _ hW g (Or.inl rfl), jn_eq, let96_1 _ hF _ hW g hc _ 0 _ (Nat.zero_le _) (by have := hW.n; omega)]
          rfl
      · by_cases w2 : w = nI 2
        · subst w2
          obtain ⟨t', e⟩ := ofth_s hF hW h hc t
          refine ⟨ofthR A c, t', ?_, ?_⟩
          · rw [if_neg (by decide), if_neg (by decide), if_pos rfl, e, bd2_s]
          · rw [if_pos (show isS (3 + 1) (nI 2) = true by decide), if_neg one_ne, jn_eq, let27_x _ _ hW g (Or.inr rfl), jn_eq, let96_2 _ hF _ hW g hc _ 0 _ (Nat.zero_le _) (by have := hW.n; omega)]
            rfl
        · by_cases w3 : w = nI 3
          · subst w3
            refine ⟨hlR A c, t, ?_, ?_⟩
            · rw [if_neg (by decide), if_neg (by decide), if_neg (by decide), if_pos rfl, hl_s hF hW h hc, bd1_s]
            · rw [if_pos (show isS (3 + 1) (nI 3) = true by decide), if_neg one_ne, jn_eq, let27_3 _ _ hW g hc _ 0 _ (Nat.zero_le _) (by have := hW.w; omega), jn_eq, let96_x _ _ hW g (Or.inr rfl)]
              rfl
          · refine ⟨-2, t, ?_, ?_⟩
            · rw [if_neg w0, if_neg w1, if_neg w2, if_neg w3]
            · have : ¬ isS (3 + 1) w = true := by
                intro z
                obtain ⟨j, hj, rfl⟩ := isS_t z (by omega)
                rcases (show j = 0 ∨ j = 1 ∨ j = 2 ∨ j = 3 by omega) with rfl | rfl | rfl | rfl
                · exact w0 rfl
                · exact w1 rfl
                · exact w2 rfl
                · exact w3 rfl
              rw [if_neg this, if_pos zero_eq]
  · rw [if_neg hq, if_pos zero_eq, if_pos zero_eq]
    exact ⟨-2, t, rfl, rfl⟩
theorem sim_story (hF : 20000000 ≤ Fu) (hW : WF A) (h : RV A se le he sa fa ge ns nf sp bo fi) (g : RS A s) (t : Ar) (p w : Int32) : ∃ r t', f_X3_story Fu le he sa fa ge t ns p w = some (r, t') ∧ f_X4_story Fu s p w = some r := by
  have hn := hW.n
  have a1 := hasStory_s Fu p (show A.ns < 1000000 by omega)
  have a2 := isStory_s Fu p g.rns (show A.ns < 1000000 by omega)
  rw [← h.rns] at a1
  unfold f_X3_story f_X4_story
  rw [a1, a2, bd1_s, bd1_s]
  by_cases hq : isS A.ns p = true
  · rw [if_pos hq, if_neg one_ne, if_neg one_ne]
    obtain ⟨k, hk, rfl⟩ := isS_t hq (by omega)
    have e1 := sizeOf_s Fu hW.1 (fun k hk => h.rsa hk) hk
    have f1 := g.rlo hk
    have e2 := heatOf_s hF hW h hk
    have f2 := heatOf4_s hF hW g hk
    have e4 := h.rfa hk
    have f4 := g.rfa hk
    have e5 := h.rge hk
    have f5 := g.rge hk
    have e6 := hottestOf_s hF hW h hk
    have f6 := hottest_s hF hW g hk
    have e8 := reads_s hF hW h hk
    have f8 := back_s hF hW g hk
    by_cases w0 : w = nI 0
    · subst w0
      exact ⟨nI (A.st (k + 1) - A.st k), t, by simp (disch := omega) only [gd_true, nm_eq, jn_eq, bd1_s, bd2_s, bd3_s, bd4_s, bd5_s, bd6_s, bd7_s, bd8_s, bd9_s, bd10_s, bd11_s, bd12_s, nI_add, pk_mul, pk_subs, nI_m1s, ix_nIs, nI_clamps, nI_les, nI_lts, nI_eqs, bz_0, bz_1, nI_zero, eq_self, if_true, if_false, e1], by simp (disch := omega) only [gd_true, nm_eq, jn_eq, bd1_s, bd2_s, bd3_s, bd4_s, bd5_s, bd6_s, bd7_s, bd8_s, bd9_s, bd10_s, bd11_s, bd12_s, nI_add, pk_mul, pk_subs, nI_m1s, ix_nIs, nI_clamps, nI_les, nI_lts, nI_eqs, bz_0, bz_1, nI_zero, eq_self, if_true, if_false, f1]⟩
    · by_cases w1 : w = nI 1
      · subst w1
        exact ⟨heatR A.he (A.st k) (A.st (k + 1) - A.st k), t, by simp (disch := omega) only [gd_true, nm_eq, jn_eq, bd1_s, bd2_s, bd3_s, bd4_s, bd5_s, bd6_s, bd7_s, bd8_s, bd9_s, bd10_s, bd11_s, bd12_s, nI_add, pk_mul, pk_subs, nI_m1s, ix_nIs, nI_clamps, nI_les, nI_lts, nI_eqs, bz_0, bz_1, nI_zero, eq_self, if_true, if_false, e2, if_neg (show ¬ (1 : Nat) = 0 by decide)], by simp (disch := omega) only [gd_true, nm_eq, jn_eq, bd1_s, bd2_s, bd3_s, bd4_s, bd5_s, bd6_s, bd7_s, bd8_s, bd9_s, bd10_s, bd11_s, bd12_s, nI_add, pk_mul, pk_subs, nI_m1s, ix_nIs, nI_clamps, nI_les, nI_lts, nI_eqs, bz_0, bz_1, nI_zero, eq_self, if_true, if_false, f2, if_neg (show ¬ (1 : Nat) = 0 by decide)]⟩
      · by_cases w2 : w = nI 2
        · subst w2
          obtain ⟨t', e3⟩ := themeOf_s hF hW h t hk
          have f3 := theme_s hF hW g hk
          refine ⟨nI (thR (taR A k)), t', ?_, ?_⟩
          · rw [nm_eq, if_neg w0, if_neg w1]
            simp (disch := omega) only [gd_true, nm_eq, jn_eq, bd1_s, bd2_s, bd3_s, bd4_s, bd5_s, bd6_s, bd7_s, bd8_s, bd9_s, bd10_s, bd11_s, bd12_s, nI_add, pk_mul, pk_subs, nI_m1s, ix_nIs, nI_clamps, nI_les, nI_lts, nI_eqs, bz_0, bz_1, nI_zero, eq_self, if_true, if_false, e3]
          · rw [nm_eq, if_neg w0, if_neg w1]
            simp (disch := omega) only [gd_true, nm_eq, jn_eq, bd1_s, bd2_s, bd3_s, bd4_s, bd5_s, bd6_s, bd7_s, bd8_s, bd9_s, bd10_s, bd11_s, bd12_s, nI_add, pk_mul, pk_subs, nI_m1s, ix_nIs, nI_clamps, nI_les, nI_lts, nI_eqs, bz_0, bz_1, nI_zero, eq_self, if_true, if_false, f3]
        · by_cases w3 : w = nI 3
          · subst w3
            refine ⟨A.fa k, t, ?_, ?_⟩
            · rw [nm_eq, if_neg w0, if_neg w1, if_neg w2]
              simp (disch := omega) only [gd_true, nm_eq, jn_eq, bd1_s, bd2_s, bd3_s, bd4_s, bd5_s, bd6_s, bd7_s, bd8_s, bd9_s, bd10_s, bd11_s, bd12_s, nI_add, pk_mul, pk_subs, nI_m1s, ix_nIs, nI_clamps, nI_les, nI_lts, nI_eqs, bz_0, bz_1, nI_zero, eq_self, if_true, if_false, e4]
            · rw [nm_eq, if_neg w0, if_neg w1, if_neg w2]
              simp (disch := omega) only [gd_true, nm_eq, jn_eq, bd1_s, bd2_s, bd3_s, bd4_s, bd5_s, bd6_s, bd7_s, bd8_s, bd9_s, bd10_s, bd11_s, bd12_s, nI_add, pk_mul, pk_subs, nI_m1s, ix_nIs, nI_clamps, nI_les, nI_lts, nI_eqs, bz_0, bz_1, nI_zero, eq_self, if_true, if_false, f4]
          · by_cases w4 : w = nI 4
            · subst w4
              refine ⟨A.ge k, t, ?_, ?_⟩
              · rw [nm_eq, if_neg w0, if_neg w1, if_neg w2, if_neg w3]
                simp (disch := omega) only [gd_true, nm_eq, jn_eq, bd1_s, bd2_s, bd3_s, bd4_s, bd5_s, bd6_s, bd7_s, bd8_s, bd9_s, bd10_s, bd11_s, bd12_s, nI_add, pk_mul, pk_subs, nI_m1s, ix_nIs, nI_clamps, nI_les, nI_lts, nI_eqs, bz_0, bz_1, nI_zero, eq_self, if_true, if_false, e5]
              · rw [nm_eq, if_neg w0, if_neg w1, if_neg w2, if_neg w3]
                simp (disch := omega) only [gd_true, nm_eq, jn_eq, bd1_s, bd2_s, bd3_s, bd4_s, bd5_s, bd6_s, bd7_s, bd8_s, bd9_s, bd10_s, bd11_s, bd12_s, nI_add, pk_mul, pk_subs, nI_m1s, ix_nIs, nI_clamps, nI_les, nI_lts, nI_eqs, bz_0, bz_1, nI_zero, eq_self, if_true, if_false, f5]
            · by_cases w5 : w = nI 5
              · subst w5
                refine ⟨nI (hoR A.he (A.st k) (A.st (k + 1) - A.st k) - A.st k), t, ?_, ?_⟩
                · rw [nm_eq, if_neg w0, if_neg w1, if_neg w2, if_neg w3, if_neg w4]
                  simp (disch := omega) only [gd_true, nm_eq, jn_eq, bd1_s, bd2_s, bd3_s, bd4_s, bd5_s, bd6_s, bd7_s, bd8_s, bd9_s, bd10_s, bd11_s, bd12_s, nI_add, pk_mul, pk_subs, nI_m1s, ix_nIs, nI_clamps, nI_les, nI_lts, nI_eqs, bz_0, bz_1, nI_zero, eq_self, if_true, if_false, e6]
                · rw [nm_eq, if_neg w0, if_neg w1, if_neg w2, if_neg w3, if_neg w4]
                  simp (disch := omega) only [gd_true, nm_eq, jn_eq, bd1_s, bd2_s, bd3_s, bd4_s, bd5_s, bd6_s, bd7_s, bd8_s, bd9_s, bd10_s, bd11_s, bd12_s, nI_add, pk_mul, pk_subs, nI_m1s, ix_nIs, nI_clamps, nI_les, nI_lts, nI_eqs, bz_0, bz_1, nI_zero, eq_self, if_true, if_false, f6]
              · by_cases w6 : w = nI 6
                · subst w6
                  obtain ⟨t', e7⟩ := unlikeLettersOf_s hF hW h t hk
                  have f7 := unlike_s hF hW g hk
                  refine ⟨unR (taR A k), t', ?_, ?_⟩
                  · rw [nm_eq, if_neg w0, if_neg w1, if_neg w2, if_neg w3, if_neg w4, if_neg w5]
                    simp (disch := omega) only [gd_true, nm_eq, jn_eq, bd1_s, bd2_s, bd3_s, bd4_s, bd5_s, bd6_s, bd7_s, bd8_s, bd9_s, bd10_s, bd11_s, bd12_s, nI_add, pk_mul, pk_subs, nI_m1s, ix_nIs, nI_clamps, nI_les, nI_lts, nI_eqs, bz_0, bz_1, nI_zero, eq_self, if_true, if_false, e7]
                  · rw [nm_eq, if_neg w0, if_neg w1, if_neg w2, if_neg w3, if_neg w4, if_neg w5]
                    simp (disch := omega) only [gd_true, nm_eq, jn_eq, bd1_s, bd2_s, bd3_s, bd4_s, bd5_s, bd6_s, bd7_s, bd8_s, bd9_s, bd10_s, bd11_s, bd12_s, nI_add, pk_mul, pk_subs, nI_m1s, ix_nIs, nI_clamps, nI_les, nI_lts, nI_eqs, bz_0, bz_1, nI_zero, eq_self, if_true, if_false, f7]
                · by_cases w7 : w = nI 7
                  · subst w7
                    refine ⟨if palB A.le (A.st k) (A.st (k + 1) - A.st k) = true then nI 1 else nI 0, t, ?_, ?_⟩
                    · rw [nm_eq, if_neg w0, if_neg w1, if_neg w2, if_neg w3, if_neg w4, if_neg w5, if_neg w6, if_pos rfl, e8, bd1_s, nm_eq]
                      by_cases hp : palB A.le (A.st k) (A.st (k + 1) - A.st k) = true
                      · rw [if_pos hp]; rfl
                      · rw [if_neg hp]; rfl
                    · rw [nm_eq, if_neg w0, if_neg w1, if_neg w2, if_neg w3, if_neg w4, if_neg w5, if_neg w6]
                      simp (disch := omega) only [gd_true, nm_eq, jn_eq, bd1_s, bd2_s, bd3_s, bd4_s, bd5_s, bd6_s, bd7_s, bd8_s, bd9_s, bd10_s, bd11_s, bd12_s, nI_add, pk_mul, pk_subs, nI_m1s, ix_nIs, nI_clamps, nI_les, nI_lts, nI_eqs, bz_0, bz_1, nI_zero, eq_self, if_true, if_false, f8]
                  · refine ⟨-2, t, ?_, ?_⟩
                    · rw [nm_eq, if_neg w0, if_neg w1, if_neg w2, if_neg w3, if_neg w4, if_neg w5, if_neg w6, if_neg w7]
                    · rw [nm_eq, if_neg w0, if_neg w1, if_neg w2, if_neg w3, if_neg w4, if_neg w5, if_neg w6, if_neg w7]
  · rw [if_neg hq, if_pos zero_eq, if_pos zero_eq]
    exact ⟨-1, t, rfl, rfl⟩
end SIMQ
