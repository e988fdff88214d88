/-! PURE: what there is, further; the reference's side -/
def newF (fa : Ar) (k : Nat) : Bool := decide (∀ o, o < k → ¬ fa o = fa k)
def famR (fa : Ar) (ns : Nat) : Int32 := itF (fun k a => a + (if newF fa k = true then nI 1 else nI 0)) 0 ns (nI 0)
def grR (ge : Ar) (ns : Nat) : Int32 := itF (fun k a => if ge k ≤ a then a else ge k) 0 ns (-6)
def withR (A : Sh) (c : Nat) : Int32 := itF (fun k a => a + (if taR A k c ≤ nI 0 then nI 0 else nI 1)) 0 A.ns (nI 0)
def ofthR (A : Sh) (c : Nat) : Int32 := itF (fun k a => a + (if thR (taR A k) = c then nI 1 else nI 0)) 0 A.ns (nI 0)
def hlR (A : Sh) (c : Nat) : Int32 := itF (fun p a => a + (if A.le p = c then nI (A.he p) else nI 0)) 0 A.wn (nI 0)
section CQ2
variable {Fu : Nat} {A : Sh} {se le he sa fa ge : Ar} {ns nf sp bo fi : Int32}
theorem isFirst_L (Fu : Nat) (hW : WF A) (h : RV A se le he sa fa ge ns nf sp bo fi) {K : Nat} (hK : K < A.ns) : ∀ (fu i : Nat), i ≤ K → (∀ o, o < i → ¬ A.fa o = A.fa K) → K - i < fu → f_X2_isFirstOfFamily_L2 Fu fa (nI K) fu (nI i) = some (if newF A.fa K = true then nI 1 else nI 0) := by
  have hn := hW.n
  intro fu
  induction fu with
  | zero => intro i h1 h2 h3; omega
  | succ fu ih =>
    intro i h1 h2 h3
    rw [f_X2_isFirstOfFamily_L2_s]
    by_cases hh : K ≤ i
    · have e : newF A.fa K = true := by
        simp only [newF, decide_eq_true_eq]
        intro o ho
        exact h2 o (by omega)
      rw [if_pos e]
      simp (disch := omega) only [gd_true, nm_eq, jn_eq, bd1_s, bd2_s, bd3_s, bd4_s, bd5_s, bd6_s, bd7_s, bd8_s, bd9_s, bd10_s, bd11_s, bd12_s, nI_add, pk_mul, pk_subs, nI_m1s, ix_nIs, nI_clamps, nI_les, nI_lts, nI_eqs, bz_0, bz_1, nI_zero, eq_self, if_true, if_false, if_pos, if_neg]
    · have e1 := h.rfa hK
      have e2 := h.rfa (show i < A.ns by omega)
      by_cases hq : A.fa i = A.fa K
      · have e : ¬ newF A.fa K = true := by
          simp only [newF, decide_eq_true_eq]
          intro z
          exact z i (by omega) hq
        rw [if_neg e]
        simp (disch := omega) only [gd_true, nm_eq, jn_eq, bd1_s, bd2_s, bd3_s, bd4_s, bd5_s, bd6_s, bd7_s, bd8_s, bd9_s, bd10_s, bd11_s, bd12_s, nI_add, pk_mul, pk_subs, nI_m1s, ix_nIs, nI_clamps, nI_les, nI_lts, nI_eqs, bz_0, bz_1, nI_zero, eq_self, if_true, if_false, e1, e2, if_neg hh, if_pos hq]
      · rw [← ih (i + 1) (by omega) (fun o ho => by
          by_cases hoi : o = i
          · rw [hoi]; exact hq
          · exact h2 o (by omega)) (by omega)]
        simp (disch := omega) only [gd_true, nm_eq, jn_eq, bd1_s, bd2_s, bd3_s, bd4_s, bd5_s, bd6_s, bd7_s, bd8_s, bd9_s, bd10_s, bd11_s, bd12_s, nI_add, pk_mul, pk_subs, nI_m1s, ix_nIs, nI_clamps, nI_les, nI_lts, nI_eqs, bz_0, bz_1, nI_zero, eq_self, if_true, if_false, e1, e2, if_neg hh, if_neg hq]
theorem families_L (Fu : Nat) (hF : 20000000 ≤ Fu) (k : Int32 → Option Int32) (hW : WF A) (h : RV A se le he sa fa ge ns nf sp bo fi) : ∀ (fu i : Nat) (a : Int32), i ≤ A.ns → A.ns - i < fu → f_X2_unlikeFamilies_L4 Fu k fa (nI A.ns) fu a (nI i) = k (itF (fun k a => a + (if newF A.fa k = true then nI 1 else nI 0)) i (A.ns - i) a) := by
  have hn := hW.n
  intro fu
  induction fu with
  | zero => intro i a h1 h2; omega
  | succ fu ih =>
    intro i a h1 h2
    rw [f_X2_unlikeFamilies_L4_s]
    by_cases hh : A.ns ≤ i
    · have e : A.ns - i = 0 := by omega
      rw [e, itF_0]
      simp (disch := omega) only [gd_true, nm_eq, jn_eq, bd1_s, bd2_s, bd3_s, bd4_s, bd5_s, bd6_s, bd7_s, bd8_s, bd9_s, bd10_s, bd11_s, bd12_s, nI_add, pk_mul, pk_subs, nI_m1s, ix_nIs, nI_clamps, nI_les, nI_lts, nI_eqs, bz_0, bz_1, nI_zero, eq_self, if_true, if_false, if_pos, if_neg]
    · have e : A.ns - i = (A.ns - (i + 1)) + 1 := by omega
      rw [e, itF_s, ← ih (i + 1) _ (by omega) (by omega)]
      have e1 : f_X2_isFirstOfFamily Fu fa (nI i) = _ := isFirst_L Fu hW h (show i < A.ns by omega) Fu 0 (Nat.zero_le _) (fun o ho => by omega) (by omega)
      by_cases hq : newF A.fa i = true
      · rw [if_pos hq] at e1 ⊢
        simp (disch := omega) only [gd_true, nm_eq, jn_eq, bd1_s, bd2_s, bd3_s, bd4_s, bd5_s, bd6_s, bd7_s, bd8_s, bd9_s, bd10_s, bd11_s, bd12_s, nI_add, pk_mul, pk_subs, nI_m1s, ix_nIs, nI_clamps, nI_les, nI_lts, nI_eqs, bz_0, bz_1, nI_zero, eq_self, if_true, if_false, e1, if_neg hh, if_neg (show ¬ (1 : Nat) = 0 by decide)]
      · rw [if_neg hq] at e1 ⊢
        simp (disch := omega) only [gd_true, nm_eq, jn_eq, bd1_s, bd2_s, bd3_s, bd4_s, bd5_s, bd6_s, bd7_s, bd8_s, bd9_s, bd10_s, bd11_s, bd12_s, nI_add, pk_mul, pk_subs, nI_m1s, ix_nIs, nI_clamps, nI_les, nI_lts, nI_eqs, bz_0, bz_1, nI_zero, eq_self, if_true, if_false, e1, if_neg hh, if_pos]
theorem families_s (hF : 20000000 ≤ Fu) (hW : WF A) (h : RV A se le he sa fa ge ns nf sp bo fi) : f_X2_unlikeFamilies Fu fa ns = some (famR A.fa A.ns) := by
  have hn := hW.n
  rw [h.rns]
  unfold f_X2_unlikeFamilies
  rw [jn_eq, families_L Fu hF _ hW h Fu 0 _ (Nat.zero_le _) (by omega)]
  rfl
theorem greatest_L (Fu : Nat) (k : Int32 → Option Int32) (hW : WF A) (h : RV A se le he sa fa ge ns nf sp bo fi) : ∀ (fu i : Nat) (a : Int32), i ≤ A.ns → A.ns - i < fu → f_X2_greatestGeneration_L5 Fu k ge (nI A.ns) fu a (nI i) = k (itF (fun k a => if A.ge k ≤ a then a else A.ge k) i (A.ns - i) a) := by
  have hn := hW.n
  intro fu
  induction fu with
  | zero => intro i a h1 h2; omega
  | succ fu ih =>
    intro i a h1 h2
    rw [f_X2_greatestGeneration_L5_s]
    by_cases hh : A.ns ≤ i
    · have e : A.ns - i = 0 := by omega
      rw [e, itF_0]
      simp (disch := omega) only [gd_true, nm_eq, jn_eq, bd1_s, bd2_s, bd3_s, bd4_s, bd5_s, bd6_s, bd7_s, bd8_s, bd9_s, bd10_s, bd11_s, bd12_s, nI_add, pk_mul, pk_subs, nI_m1s, ix_nIs, nI_clamps, nI_les, nI_lts, nI_eqs, bz_0, bz_1, nI_zero, eq_self, if_true, if_false, if_pos, if_neg]
    · have e : A.ns - i = (A.ns - (i + 1)) + 1 := by omega
      have e1 := h.rge (show i < A.ns by omega)
      have e2 : jmax a (A.ge i) = (if A.ge i ≤ a then a else A.ge i) := by
        unfold jmax
        by_cases hq : A.ge i ≤ a
        · rw [if_pos hq, if_neg (Int32.not_lt.mpr hq)]
        · rw [if_neg hq, if_pos (Int32.not_le.mp hq)]
      rw [e, itF_s, ← ih (i + 1) _ (by omega) (by omega)]
      simp (disch := omega) only [gd_true, nm_eq, jn_eq, bd1_s, bd2_s, bd3_s, bd4_s, bd5_s, bd6_s, bd7_s, bd8_s, bd9_s, bd10_s, bd11_s, bd12_s, nI_add, pk_mul, pk_subs, nI_m1s, ix_nIs, nI_clamps, nI_les, nI_lts, nI_eqs, bz_0, bz_1, nI_zero, eq_self, if_true, if_false, e1, e2, if_neg hh]
theorem greatest_s (hF : 20000000 ≤ Fu) (hW : WF A) (h : RV A se le he sa fa ge ns nf sp bo fi) : f_X2_greatestGeneration Fu ge ns = some (grR A.ge A.ns) := by
  have hn := hW.n
  rw [h.rns]
  unfold f_X2_greatestGeneration
  rw [jn_eq, greatest_L Fu _ hW h Fu 0 _ (Nat.zero_le _) (by omega)]
  rfl
theorem with_L (Fu : Nat) (hF : 20000000 ≤ Fu) (k : Int32 → Option Int32) (hW : WF A) (h : RV A se le he sa fa ge ns nf sp bo fi) {c : Nat} (hc : c < 26) : ∀ (fu i : Nat) (a : Int32), i ≤ A.ns → A.ns - i < fu → f_X2_storiesWith_L4 Fu k le sa (nI A.ns) (nI c) fu a (nI i) = k (itF (fun k a => a + (if taR A k c ≤ nI 0 then nI 0 else nI 1)) i (A.ns - i) a) := by
  have hn := hW.n
  intro fu
  induction fu with
  | zero => intro i a h1 h2; omega
  | succ fu ih =>
    intro i a h1 h2
    rw [f_X2_storiesWith_L4_s]
    by_cases hh : A.ns ≤ i
    · have e : A.ns - i = 0 := by omega
      rw [e, itF_0]
      simp (disch := omega) only [gd_true, nm_eq, jn_eq, bd1_s, bd2_s, bd3_s, bd4_s, bd5_s, bd6_s, bd7_s, bd8_s, bd9_s, bd10_s, bd11_s, bd12_s, nI_add, pk_mul, pk_subs, nI_m1s, ix_nIs, nI_clamps, nI_les, nI_lts, nI_eqs, bz_0, bz_1, nI_zero, eq_self, if_true, if_false, if_pos, if_neg]
    · have e : A.ns - i = (A.ns - (i + 1)) + 1 := by omega
      have e1 : f_X2_timesIn Fu le sa (nI i) (nI c) = some (taR A i c) := timesIn_s hF hW h (show c < 1000 by omega) (show i < A.ns by omega)
      rw [e, itF_s, ← ih (i + 1) _ (by omega) (by omega)]
      simp (disch := omega) only [gd_true, nm_eq, jn_eq, bd1_s, bd2_s, bd3_s, bd4_s, bd5_s, bd6_s, bd7_s, bd8_s, bd9_s, bd10_s, bd11_s, bd12_s, nI_add, pk_mul, pk_subs, nI_m1s, ix_nIs, nI_clamps, nI_les, nI_lts, nI_eqs, bz_0, bz_1, nI_zero, eq_self, if_true, if_false, e1, if_neg hh]
theorem with_s (hF : 20000000 ≤ Fu) (hW : WF A) (h : RV A se le he sa fa ge ns nf sp bo fi) {c : Nat} (hc : c < 26) : f_X2_storiesWith Fu le sa ns (nI c) = some (withR A c) := by
  have hn := hW.n
  rw [h.rns]
  unfold f_X2_storiesWith
  rw [jn_eq, with_L Fu hF _ hW h hc Fu 0 _ (Nat.zero_le _) (by omega)]
  rfl
theorem ofth_L (Fu : Nat) (hF : 20000000 ≤ Fu) (hW : WF A) (h : RV A se le he sa fa ge ns nf sp bo fi) {c : Nat} (hc : c < 26) : ∀ (fu i : Nat) (a : Int32) (t : Ar), i ≤ A.ns → A.ns - i < fu → ∃ t', ∀ k : Int32 → Ar → Option (Int32 × Ar), f_X2_storiesOfTheme_L4 Fu k le sa (nI A.ns) (nI c) fu a (nI i) t = k (itF (fun k a => a + (if thR (taR A k) = c then nI 1 else nI 0)) i (A.ns - i) a) t' := by
  have hn := hW.n
  intro fu
  induction fu with
  | zero => intro i a t h1 h2; omega
  | succ fu ih =>
    intro i a t h1 h2
    by_cases hh : A.ns ≤ i
    · refine ⟨t, fun k => ?_⟩
      rw [f_X2_storiesOfTheme_L4_s]
      have e : A.ns - i = 0 := by omega
      rw [e, itF_0]
      simp (disch := omega) only [gd_true, nm_eq, jn_eq, bd1_s, bd2_s, bd3_s, bd4_s, bd5_s, bd6_s, bd7_s, bd8_s, bd9_s, bd10_s, bd11_s, bd12_s, nI_add, pk_mul, pk_subs, nI_m1s, ix_nIs, nI_clamps, nI_les, nI_lts, nI_eqs, bz_0, bz_1, nI_zero, eq_self, if_true, if_false, if_pos, if_neg]
    · have e : A.ns - i = (A.ns - (i + 1)) + 1 := by omega
      obtain ⟨t2, e1⟩ := themeOf_s hF hW h t (show i < A.ns by omega)
      obtain ⟨t3, e2⟩ := ih (i + 1) (a + (if thR (taR A i) = c then nI 1 else nI 0)) t2 (by omega) (by omega)
      refine ⟨t3, fun k => ?_⟩
      rw [f_X2_storiesOfTheme_L4_s]
      have e3 := thR_lt (taR A i)
      rw [e, itF_s, ← e2 k]
      simp (disch := omega) only [gd_true, nm_eq, jn_eq, bd1_s, bd2_s, bd3_s, bd4_s, bd5_s, bd6_s, bd7_s, bd8_s, bd9_s, bd10_s, bd11_s, bd12_s, nI_add, pk_mul, pk_subs, nI_m1s, ix_nIs, nI_clamps, nI_les, nI_lts, nI_eqs, bz_0, bz_1, nI_zero, eq_self, if_true, if_false, e1, if_neg hh]
theorem ofth_s (hF : 20000000 ≤ Fu) (hW : WF A) (h : RV A se le he sa fa ge ns nf sp bo fi) {c : Nat} (hc : c < 26) (t : Ar) : ∃ t', f_X2_storiesOfTheme Fu le sa t ns (nI c) = some (ofthR A c, t') := by
  have hn := hW.n
  rw [h.rns]
  obtain ⟨t', e⟩ := ofth_L Fu hF hW h hc Fu 0 (nI 0) t (Nat.zero_le _) (by omega)
  refine ⟨t', ?_⟩
  unfold f_X2_storiesOfTheme
  rw [jn_eq, e]
  rfl
theorem hl_L (Fu : Nat) (k : Int32 → Option Int32) (hW : WF A) (h : RV A se le he sa fa ge ns nf sp bo fi) {c : Nat} (hc : c < 26) : ∀ (fu i : Nat) (a : Int32), i ≤ A.wn → A.wn - i < fu → f_X2_heatOfLetter_L4 Fu k le he sa ns (nI c) fu a (nI i) = k (itF (fun p a => a + (if A.le p = c then nI (A.he p) else nI 0)) i (A.wn - i) a) := by
  have hw := hW.w
  intro fu
  induction fu with
  | zero => intro i a h1 h2; omega
  | succ fu ih =>
    intro i a h1 h2
    rw [f_X2_heatOfLetter_L4_s, words_r hW h]
    by_cases hh : A.wn ≤ i
    · have e : A.wn - i = 0 := by omega
      rw [e, itF_0]
      simp (disch := omega) only [gd_true, nm_eq, jn_eq, bd1_s, bd2_s, bd3_s, bd4_s, bd5_s, bd6_s, bd7_s, bd8_s, bd9_s, bd10_s, bd11_s, bd12_s, nI_add, pk_mul, pk_subs, nI_m1s, ix_nIs, nI_clamps, nI_les, nI_lts, nI_eqs, bz_0, bz_1, nI_zero, eq_self, if_true, if_false, if_pos, if_neg]
    · have e : A.wn - i = (A.wn - (i + 1)) + 1 := by omega
      have hp : i < A.wn := by omega
      have e1 := h.rle hp
      have e2 := h.rhe hp
      have e3 := (hW.2.2 i hp).1
      rw [e, itF_s, ← ih (i + 1) _ (by omega) (by omega)]
      by_cases hq : A.le i = c
      · rw [if_pos hq]
        simp (disch := omega) only [gd_true, nm_eq, jn_eq, bd1_s, bd2_s, bd3_s, bd4_s, bd5_s, bd6_s, bd7_s, bd8_s, bd9_s, bd10_s, bd11_s, bd12_s, nI_add, pk_mul, pk_subs, nI_m1s, ix_nIs, nI_clamps, nI_les, nI_lts, nI_eqs, bz_0, bz_1, nI_zero, eq_self, if_true, if_false, e1, e2, if_neg hh, if_pos]
      · rw [if_neg hq]
        simp (disch := omega) only [gd_true, nm_eq, jn_eq, bd1_s, bd2_s, bd3_s, bd4_s, bd5_s, bd6_s, bd7_s, bd8_s, bd9_s, bd10_s, bd11_s, bd12_s, nI_add, pk_mul, pk_subs, nI_m1s, ix_nIs, nI_clamps, nI_les, nI_lts, nI_eqs, bz_0, bz_1, nI_zero, eq_self, if_true, if_false, e1, e2, if_neg hh, if_neg hq]
theorem hl_s (hF : 20000000 ≤ Fu) (hW : WF A) (h : RV A se le he sa fa ge ns nf sp bo fi) {c : Nat} (hc : c < 26) : f_X2_heatOfLetter Fu le he sa ns (nI c) = some (hlR A c) := by
  have hw := hW.w
  unfold f_X2_heatOfLetter
  rw [jn_eq, hl_L Fu _ hW h hc Fu 0 _ (Nat.zero_le _) (by omega)]
  rfl
theorem isPair_s (hF : 20000000 ≤ Fu) (hW : WF A) (h : RV A se le he sa fa ge ns nf sp bo fi) {p K a b : Nat} (ha : a < 26) (hb : b < 26) (hK : K < A.ns) (h1 : A.st K ≤ p) (h2 : p < A.st (K + 1)) (h3 : p + 1 < A.wn) : f_X2_isPair Fu le sa ns (nI p) (nI a) (nI b) = some (if A.le p = a ∧ A.le (p + 1) = b ∧ p + 1 < A.st (K + 1) then nI 1 else nI 0) := by
  have hw := hW.w
  have hn := hW.n
  have e1 := h.rle (show p < A.wn by omega)
  have e2 := h.rle h3
  have b1 := (hW.2.2 p (by omega)).1
  have b2 := (hW.2.2 (p + 1) h3).1
  have s1 := storyAt_s hF hW.1 (fun k hk => h.rsa hk) hK h1 h2
  obtain ⟨J, hJ, j1, j2⟩ := hW.1.find (show p + 1 < A.st A.ns from h3)
  have s2 := storyAt_s hF hW.1 (fun k hk => h.rsa hk) hJ j1 j2
  rw [h.rns]
  unfold f_X2_isPair
  by_cases q1 : A.le p = a
  · by_cases q2 : A.le (p + 1) = b
    · by_cases q3 : p + 1 < A.st (K + 1)
      · have : J = K := (hW.1.uniq hJ j1 j2 hK (by omega) q3)
        subst this
        rw [if_pos ⟨q1, q2, q3⟩]
        simp (disch := omega) only [gd_true, nm_eq, jn_eq, bd1_s, bd2_s, bd3_s, bd4_s, bd5_s, bd6_s, bd7_s, bd8_s, bd9_s, bd10_s, bd11_s, bd12_s, nI_add, pk_mul, pk_subs, nI_m1s, ix_nIs, nI_clamps, nI_les, nI_lts, nI_eqs, bz_0, bz_1, nI_zero, eq_self, if_true, if_false, e1, e2, s1, s2, if_pos]
      · have : ¬ K = J := by
          intro e
          subst e
          exact q3 j2
        rw [if_neg (fun z => q3 z.2.2)]
        simp (disch := omega) only [gd_true, nm_eq, jn_eq, bd1_s, bd2_s, bd3_s, bd4_s, bd5_s, bd6_s, bd7_s, bd8_s, bd9_s, bd10_s, bd11_s, bd12_s, nI_add, pk_mul, pk_subs, nI_m1s, ix_nIs, nI_clamps, nI_les, nI_lts, nI_eqs, bz_0, bz_1, nI_zero, eq_self, if_true, if_false, e1, e2, s1, s2, if_pos q1, if_pos q2, if_neg this]
    · rw [if_neg (fun z => q2 z.2.1)]
      simp (disch := omega) only [gd_true, nm_eq, jn_eq, bd1_s, bd2_s, bd3_s, bd4_s, bd5_s, bd6_s, bd7_s, bd8_s, bd9_s, bd10_s, bd11_s, bd12_s, nI_add, pk_mul, pk_subs, nI_m1s, ix_nIs, nI_clamps, nI_les, nI_lts, nI_eqs, bz_0, bz_1, nI_zero, eq_self, if_true, if_false, e1, e2, if_pos q1, if_neg q2]
  · rw [if_neg (fun z => q1 z.1)]
    simp (disch := omega) only [gd_true, nm_eq, jn_eq, bd1_s, bd2_s, bd3_s, bd4_s, bd5_s, bd6_s, bd7_s, bd8_s, bd9_s, bd10_s, bd11_s, bd12_s, nI_add, pk_mul, pk_subs, nI_m1s, ix_nIs, nI_clamps, nI_les, nI_lts, nI_eqs, bz_0, bz_1, nI_zero, eq_self, if_true, if_false, e1, if_neg q1]
end CQ2
section RQ
variable {Fu : Nat} {A : Sh} {s : Ar}
theorem first_r (hF : 20000000 ≤ Fu) (hW : WF A) (h : RS A s) {K : Nat} (hK : K ≤ A.ns) : f_X4_first Fu s (nI K) = some (nI (A.st K)) := first_s hF hW.1 (fun k hk => h.rlo hk) hK
theorem times_L (Fu : Nat) (hF : 20000000 ≤ Fu) (k : Int32 → Option Int32) (hW : WF A) (h : RS A s) {K c : Nat} (hK : K < A.ns) (hc : c < 26) : ∀ (fu i : Nat) (a : Int32), A.st K + i ≤ A.st (K + 1) → A.st (K + 1) - A.st K - i < fu → f_X4_times_L5 Fu k s (nI K) (nI c) fu a (nI i) = k (itF (fun p a => a + (if A.le p = c then nI 1 else nI 0)) (A.st K + i) (A.st (K + 1) - A.st K - i) a) := by
  have hn := hW.n
  have hm2 := hW.1.le (show K + 1 ≤ A.ns by omega) (Nat.le_refl _)
  have hw' : A.st A.ns ≤ 150 := hW.w
  have e0 := h.rlo hK
  have e9 := first_r hF hW h (show K ≤ A.ns by omega)
  intro fu
  induction fu with
  | zero => intro i a h1 h2; omega
  | succ fu ih =>
    intro i a h1 h2
    rw [f_X4_times_L5_s]
    by_cases hh : A.st (K + 1) - A.st K ≤ i
    · have e : A.st (K + 1) - A.st K - i = 0 := by omega
      rw [e, itF_0]
      simp (disch := omega) only [gd_true, nm_eq, jn_eq, bd1_s, bd2_s, bd3_s, bd4_s, bd5_s, bd6_s, bd7_s, bd8_s, bd9_s, bd10_s, bd11_s, bd12_s, nI_add, pk_mul, pk_subs, nI_m1s, ix_nIs, nI_clamps, nI_les, nI_lts, nI_eqs, bz_0, bz_1, nI_zero, eq_self, if_true, if_false, e0, if_pos]
    · have e : A.st (K + 1) - A.st K - i = (A.st (K + 1) - A.st K - (i + 1)) + 1 := by omega
      have hp : A.st K + i < A.wn := by unfold Sh.wn; omega
      have e1 := h.rle hp
      have e3 := (hW.2.2 _ hp).1
      rw [e, itF_s, show A.st K + i + 1 = A.st K + (i + 1) by omega, ← ih (i + 1) _ (by omega) (by omega)]
      simp (disch := omega) only [gd_true, nm_eq, jn_eq, bd1_s, bd2_s, bd3_s, bd4_s, bd5_s, bd6_s, bd7_s, bd8_s, bd9_s, bd10_s, bd11_s, bd12_s, nI_add, pk_mul, pk_subs, nI_m1s, ix_nIs, nI_clamps, nI_les, nI_lts, nI_eqs, bz_0, bz_1, nI_zero, eq_self, if_true, if_false, e0, e9, Nat.add_assoc, e1, if_neg hh]
theorem times_s (hF : 20000000 ≤ Fu) (hW : WF A) (h : RS A s) {K c : Nat} (hK : K < A.ns) (hc : c < 26) : f_X4_times Fu s (nI K) (nI c) = some (taR A K c) := by
  have hn := hW.n
  have hm := hW.1.2.2.1 K hK
  have hm2 := hW.1.le (show K + 1 ≤ A.ns by omega) (Nat.le_refl _)
  have hw' : A.st A.ns ≤ 150 := hW.w
  unfold f_X4_times
  rw [jn_eq, times_L Fu hF _ hW h hK hc Fu 0 _ (by omega) (by omega)]
  rfl
theorem theme_L (Fu : Nat) (hF : 20000000 ≤ Fu) (k : Int32 → Option Int32) (hW : WF A) (h : RS A s) {K : Nat} (hK : K < A.ns) : ∀ (fu i g : Nat), i ≤ 26 → g < 26 → 26 - i < fu → f_X4_theme_L4 Fu k s (nI K) fu (nI g) (nI i) = k (nI (itF (fun c g => if taR A K c ≤ taR A K g then g else c) i (26 - i) g)) := by
  intro fu
  induction fu with
  | zero => intro i g h1 h2 h3; omega
  | succ fu ih =>
    intro i g h1 h2 h3
    rw [f_X4_theme_L4_s]
    by_cases hh : 26 ≤ i
    · have e : 26 - i = 0 := by omega
      rw [e, itF_0]
      simp (disch := omega) only [gd_true, nm_eq, jn_eq, bd1_s, bd2_s, bd3_s, bd4_s, bd5_s, bd6_s, bd7_s, bd8_s, bd9_s, bd10_s, bd11_s, bd12_s, nI_add, pk_mul, pk_subs, nI_m1s, ix_nIs, nI_clamps, nI_les, nI_lts, nI_eqs, bz_0, bz_1, nI_zero, eq_self, if_true, if_false, if_pos, if_neg]
    · have e : 26 - i = (26 - (i + 1)) + 1 := by omega
      have hg : (if taR A K i ≤ taR A K g then g else i) < 26 := by
        by_cases h : taR A K i ≤ taR A K g
        · rw [if_pos h]; exact h2
        · rw [if_neg h]; omega
      have e1 := times_s hF hW h hK (show i < 26 by omega)
      have e2 := times_s hF hW h hK h2
      rw [e, itF_s, ← ih (i + 1) _ (by omega) hg (by omega)]
      simp (disch := omega) only [gd_true, nm_eq, jn_eq, bd1_s, bd2_s, bd3_s, bd4_s, bd5_s, bd6_s, bd7_s, bd8_s, bd9_s, bd10_s, bd11_s, bd12_s, nI_add, pk_mul, pk_subs, nI_m1s, ix_nIs, nI_clamps, nI_les, nI_lts, nI_eqs, bz_0, bz_1, nI_zero, eq_self, if_true, if_false, e1, e2, if_neg hh, ite_nI]
theorem theme_s (hF : 20000000 ≤ Fu) (hW : WF A) (h : RS A s) {K : Nat} (hK : K < A.ns) : f_X4_theme Fu s (nI K) = some (nI (thR (taR A K))) := by
  unfold f_X4_theme
  rw [jn_eq, theme_L Fu hF _ hW h hK Fu 1 0 (by omega) (by omega) (by omega)]
  rfl
theorem heatOf4_L (Fu : Nat) (hF : 20000000 ≤ Fu) (k : Int32 → Option Int32) (hW : WF A) (h : RS A s) {K : Nat} (hK : K < A.ns) : ∀ (fu i : Nat) (a : Int32), A.st K + i ≤ A.st (K + 1) → A.st (K + 1) - A.st K - i < fu → f_X4_heatOf_L4 Fu k s (nI K) fu a (nI i) = k (itF (fun p a => a + nI (A.he p)) (A.st K + i) (A.st (K + 1) - A.st K - i) a) := by
  have hn := hW.n
  have hm2 := hW.1.le (show K + 1 ≤ A.ns by omega) (Nat.le_refl _)
  have hw' : A.st A.ns ≤ 150 := hW.w
  have e0 := h.rlo hK
  have e9 := first_r hF hW h (show K ≤ A.ns by omega)
  intro fu
  induction fu with
  | zero => intro i a h1 h2; omega
  | succ fu ih =>
    intro i a h1 h2
    rw [f_X4_heatOf_L4_s]
    by_cases hh : A.st (K + 1) - A.st K ≤ i
    · have e : A.st (K + 1) - A.st K - i = 0 := by omega
      rw [e, itF_0]
      simp (disch := omega) only [gd_true, nm_eq, jn_eq, bd1_s, bd2_s, bd3_s, bd4_s, bd5_s, bd6_s, bd7_s, bd8_s, bd9_s, bd10_s, bd11_s, bd12_s, nI_add, pk_mul, pk_subs, nI_m1s, ix_nIs, nI_clamps, nI_les, nI_lts, nI_eqs, bz_0, bz_1, nI_zero, eq_self, if_true, if_false, e0, if_pos]
    · have e : A.st (K + 1) - A.st K - i = (A.st (K + 1) - A.st K - (i + 1)) + 1 := by omega
      have hp : A.st K + i < A.wn := by unfold Sh.wn; omega
      have e1 := h.rhe hp
      rw [e, itF_s, show A.st K + i + 1 = A.st K + (i + 1) by omega, ← ih (i + 1) _ (by omega) (by omega)]
      simp (disch := omega) only [gd_true, nm_eq, jn_eq, bd1_s, bd2_s, bd3_s, bd4_s, bd5_s, bd6_s, bd7_s, bd8_s, bd9_s, bd10_s, bd11_s, bd12_s, nI_add, pk_mul, pk_subs, nI_m1s, ix_nIs, nI_clamps, nI_les, nI_lts, nI_eqs, bz_0, bz_1, nI_zero, eq_self, if_true, if_false, e0, e9, Nat.add_assoc, e1, if_neg hh]
theorem heatOf4_s (hF : 20000000 ≤ Fu) (hW : WF A) (h : RS A s) {K : Nat} (hK : K < A.ns) : f_X4_heatOf Fu s (nI K) = some (heatR A.he (A.st K) (A.st (K + 1) - A.st K)) := by
  have hn := hW.n
  have hm := hW.1.2.2.1 K hK
  have hm2 := hW.1.le (show K + 1 ≤ A.ns by omega) (Nat.le_refl _)
  have hw' : A.st A.ns ≤ 150 := hW.w
  unfold f_X4_heatOf
  rw [jn_eq, heatOf4_L Fu hF _ hW h hK Fu 0 _ (by omega) (by omega)]
  rfl
theorem allHeat_L (Fu : Nat) (k : Int32 → Option Int32) (hW : WF A) (h : RS A s) : ∀ (fu i : Nat) (a : Int32), i ≤ A.wn → A.wn - i < fu → f_X4_allHeat_L4 Fu k s fu a (nI i) = k (itF (fun p a => a + nI (A.he p)) i (A.wn - i) a) := by
  have hw := hW.w
  have e0 := h.rwn
  intro fu
  induction fu with
  | zero => intro i a h1 h2; omega
  | succ fu ih =>
    intro i a h1 h2
    rw [f_X4_allHeat_L4_s]
    by_cases hh : A.wn ≤ i
    · have e : A.wn - i = 0 := by omega
      rw [e, itF_0]
      simp (disch := omega) only [gd_true, nm_eq, jn_eq, bd1_s, bd2_s, bd3_s, bd4_s, bd5_s, bd6_s, bd7_s, bd8_s, bd9_s, bd10_s, bd11_s, bd12_s, nI_add, pk_mul, pk_subs, nI_m1s, ix_nIs, nI_clamps, nI_les, nI_lts, nI_eqs, bz_0, bz_1, nI_zero, eq_self, if_true, if_false, e0, if_pos]
    · have e : A.wn - i = (A.wn - (i + 1)) + 1 := by omega
      have e1 := h.rhe (show i < A.wn by omega)
      rw [e, itF_s, ← ih (i + 1) _ (by omega) (by omega)]
      simp (disch := omega) only [gd_true, nm_eq, jn_eq, bd1_s, bd2_s, bd3_s, bd4_s, bd5_s, bd6_s, bd7_s, bd8_s, bd9_s, bd10_s, bd11_s, bd12_s, nI_add, pk_mul, pk_subs, nI_m1s, ix_nIs, nI_clamps, nI_les, nI_lts, nI_eqs, bz_0, bz_1, nI_zero, eq_self, if_true, if_false, e0, e1, if_neg hh]
theorem allHeat_s (hF : 20000000 ≤ Fu) (hW : WF A) (h : RS A s) : f_X4_allHeat Fu s = some (heatR A.he 0 A.wn) := by
  have hw := hW.w
  unfold f_X4_allHeat
  rw [jn_eq, allHeat_L Fu _ hW h Fu 0 _ (by omega) (by omega)]
  rfl
theorem unlike_L (Fu : Nat) (hF : 20000000 ≤ Fu) (k : Int32 → Option Int32) (hW : WF A) (h : RS A s) {K : Nat} (hK : K < A.ns) : ∀ (fu i : Nat) (a : Int32), i ≤ 26 → 26 - i < fu → f_X4_unlike_L4 Fu k s (nI K) fu a (nI i) = k (itF (fun c a => a + (if taR A K c ≤ nI 0 then nI 0 else nI 1)) i (26 - i) a) := by
  intro fu
  induction fu with
  | zero => intro i g h1 h3; omega
  | succ fu ih =>
    intro i g h1 h3
    rw [f_X4_unlike_L4_s]
    by_cases hh : 26 ≤ i
    · have e : 26 - i = 0 := by omega
      rw [e, itF_0]
      simp (disch := omega) only [gd_true, nm_eq, jn_eq, bd1_s, bd2_s, bd3_s, bd4_s, bd5_s, bd6_s, bd7_s, bd8_s, bd9_s, bd10_s, bd11_s, bd12_s, nI_add, pk_mul, pk_subs, nI_m1s, ix_nIs, nI_clamps, nI_les, nI_lts, nI_eqs, bz_0, bz_1, nI_zero, eq_self, if_true, if_false, if_pos, if_neg]
    · have e : 26 - i = (26 - (i + 1)) + 1 := by omega
      have e1 := times_s hF hW h hK (show i < 26 by omega)
      rw [e, itF_s, ← ih (i + 1) _ (by omega) (by omega)]
      simp (disch := omega) only [gd_true, nm_eq, jn_eq, bd1_s, bd2_s, bd3_s, bd4_s, bd5_s, bd6_s, bd7_s, bd8_s, bd9_s, bd10_s, bd11_s, bd12_s, nI_add, pk_mul, pk_subs, nI_m1s, ix_nIs, nI_clamps, nI_les, nI_lts, nI_eqs, bz_0, bz_1, nI_zero, eq_self, if_true, if_false, e1, if_neg hh]
theorem unlike_s (hF : 20000000 ≤ Fu) (hW : WF A) (h : RS A s) {K : Nat} (hK : K < A.ns) : f_X4_unlike Fu s (nI K) = some (unR (taR A K)) := by
  unfold f_X4_unlike
  rw [jn_eq, unlike_L Fu hF _ hW h hK Fu 0 _ (by omega) (by omega)]
  rfl
theorem hottest_L (Fu : Nat) (hF : 20000000 ≤ Fu) (k : Int32 → Option Int32) (hW : WF A) (h : RS A s) {K : Nat} (hK : K < A.ns) : ∀ (fu i g : Nat), A.st K + i ≤ A.st (K + 1) → A.st K ≤ g → g < A.st (K + 1) → A.st (K + 1) - A.st K - i < fu → f_X4_hottest_L4 Fu k s (nI K) fu (nI (g - A.st K)) (nI i) = k (nI (itF (fun p g => if A.he p ≤ A.he g then g else p) (A.st K + i) (A.st (K + 1) - A.st K - i) g - A.st K)) := by
  have hn := hW.n
  have hm2 := hW.1.le (show K + 1 ≤ A.ns by omega) (Nat.le_refl _)
  have hw' : A.st A.ns ≤ 150 := hW.w
  have e0 := h.rlo hK
  have e9 := first_r hF hW h (show K ≤ A.ns by omega)
  intro fu
  induction fu with
  | zero => intro i g h1 h2 h3 h4; omega
  | succ fu ih =>
    intro i g h1 h2 h3 h4
    rw [f_X4_hottest_L4_s]
    by_cases hh : A.st (K + 1) - A.st K ≤ i
    · have e : A.st (K + 1) - A.st K - i = 0 := by omega
      rw [e, itF_0]
      simp (disch := omega) only [gd_true, nm_eq, jn_eq, bd1_s, bd2_s, bd3_s, bd4_s, bd5_s, bd6_s, bd7_s, bd8_s, bd9_s, bd10_s, bd11_s, bd12_s, nI_add, pk_mul, pk_subs, nI_m1s, ix_nIs, nI_clamps, nI_les, nI_lts, nI_eqs, bz_0, bz_1, nI_zero, eq_self, if_true, if_false, e0, if_pos]
    · have e : A.st (K + 1) - A.st K - i = (A.st (K + 1) - A.st K - (i + 1)) + 1 := by omega
      have hp : A.st K + i < A.wn := by unfold Sh.wn; omega
      have hq : g < A.wn := by unfold Sh.wn; omega
      have e1 := h.rhe hp
      have e2 := h.rhe hq
      have e4 := (hW.2.2 _ hp).2
      have e5 := (hW.2.2 g hq).2
      have ea : 195 + A.st K + i = 195 + (A.st K + i) := by omega
      have eb : 195 + A.st K + (g - A.st K) = 195 + g := by omega
      rw [e, itF_s, show A.st K + i + 1 = A.st K + (i + 1) by omega]
      by_cases hq2 : A.he (A.st K + i) ≤ A.he g
      · rw [if_pos hq2, ← ih (i + 1) g (by omega) h2 h3 (by omega)]
        simp (disch := omega) only [gd_true, nm_eq, jn_eq, bd1_s, bd2_s, bd3_s, bd4_s, bd5_s, bd6_s, bd7_s, bd8_s, bd9_s, bd10_s, bd11_s, bd12_s, nI_add, pk_mul, pk_subs, nI_m1s, ix_nIs, nI_clamps, nI_les, nI_lts, nI_eqs, bz_0, bz_1, nI_zero, eq_self, if_true, if_false, e0, e9, ea, eb, e1, e2, if_neg hh, if_pos hq2]
      · rw [if_neg hq2, ← ih (i + 1) (A.st K + i) (by omega) (by omega) (by omega) (by omega), show A.st K + i - A.st K = i by omega]
        simp (disch := omega) only [gd_true, nm_eq, jn_eq, bd1_s, bd2_s, bd3_s, bd4_s, bd5_s, bd6_s, bd7_s, bd8_s, bd9_s, bd10_s, bd11_s, bd12_s, nI_add, pk_mul, pk_subs, nI_m1s, ix_nIs, nI_clamps, nI_les, nI_lts, nI_eqs, bz_0, bz_1, nI_zero, eq_self, if_true, if_false, e0, e9, ea, eb, e1, e2, if_neg hh, if_neg hq2]
theorem hottest_s (hF : 20000000 ≤ Fu) (hW : WF A) (h : RS A s) {K : Nat} (hK : K < A.ns) : f_X4_hottest Fu s (nI K) = some (nI (hoR A.he (A.st K) (A.st (K + 1) - A.st K) - A.st K)) := by
  have hn := hW.n
  have hm := hW.1.2.2.1 K hK
  have hm2 := hW.1.le (show K + 1 ≤ A.ns by omega) (Nat.le_refl _)
  have hw' : A.st A.ns ≤ 150 := hW.w
  have e := hottest_L Fu hF (fun v => some v) hW h hK Fu 1 (A.st K) (by omega) (Nat.le_refl _) hm (by omega)
  rw [Nat.sub_self] at e
  unfold f_X4_hottest
  rw [jn_eq, e]
  unfold hoR
  rw [show A.st (K + 1) - A.st K = (A.st (K + 1) - A.st K - 1) + 1 by omega, itF_s, if_pos (Nat.le_refl _)]
  rfl
end RQ
